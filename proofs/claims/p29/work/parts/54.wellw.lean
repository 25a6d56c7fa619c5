/-! one card is well made: walked -/
set_option maxHeartbeats 4000000 in
theorem l_isWellT {sc : av_E} {w : av_W} {v p sh ln pr gd co : Int} {c s : Nat → Int} {U : CV} {len len2 : Int} {t t2 : Nat → Int} (J : JJ sc w (v, p, sh, ln, pr, gd, co, c, s) U len len2 t t2) (x : Int) : cl ML_isWell [.ref 0, .int (iN x)] w (fun r' w' => r' = some (.int (iN 1)) ∧ JJ sc w' (v, p, sh, ln, pr, gd, co, c, s) U len len2 t t2) := by
  have n_ := J.1
  obtain ⟨⟨z0, f0, z0w⟩, z33, f33, z33w⟩ := J.cells
  obtain ⟨k1, k2, k3, k4, k5, k6, k7, k8⟩ := KW_p J.kv.1
  show rn ML_isWell 0 [some (.ref 0), some (.int (iN x)), none, none, none, none, none, none, none, none, none, none, none, none] [] w (fun r' w' => r' = some (.int (iN 1)) ∧ JJ sc w' (v, p, sh, ln, pr, gd, co, c, s) U len len2 t t2)
  have lpa : ∀ (n : Nat) (a : Int) (wk : av_W) (b8 : Option Value) (b9 : Option Value) (b10 : Option Value) (b11 : Option Value) (b12 : Option Value) (b13 : Option Value), (-9 ≤ a ∧ a ≤ 10 ∧ 11 ≤ a + n) → (JJ sc wk (v, p, sh, ln, pr, gd, co, c, s) U len len2 t t2) → rn ML_isWell 21 [some (.ref 0), some (.int (iN x)), some (.int (iN p)), some (.int (iN (sm (a + 9).toNat (fun i => o_at (v, p, sh, ln, pr, gd, co, c, s) ((i : Int) - 9) 0)))), some (.int (iN (sm (a + 9).toNat (fun i => bz (¬ o_at (v, p, sh, ln, pr, gd, co, c, s) ((i : Int) - 9) 1 = -105))))), some (.int (iN (btB (v, p, sh, ln, pr, gd, co, c, s) (a + 9).toNat))), some (.int (iN 1)), some (.int (iN a)), b8, b9, b10, b11, b12, b13] [] wk (fun r' w' => r' = some (.int (iN 1)) ∧ JJ sc w' (v, p, sh, ln, pr, gd, co, c, s) U len len2 t t2) := by
    intro n
    induction n with
    | zero =>
      intro a wk b8 b9 b10 b11 b12 b13 hk0 hk1
      exfalso
      omega
    | succ n ih =>
      intro a wk b8 b9 b10 b11 b12 b13 hk0 hk1
      have J := hk1
      have n_ := J.1
      obtain ⟨⟨z0, f0, z0w⟩, z33, f33, z33w⟩ := J.cells
      refine r_iload (pc2 := 23) dL_isWell_21 rfl rfl ?_
      refine r_bipush (pc2 := 25) dL_isWell_23 rfl (by decide) ?_
      refine r_icmp_ge (pc2 := 28) (tgt := 405) dL_isWell_25 rfl (by decide) (by omega) (by omega) (fun h25 => ?_) (fun h25 => ?_)
      · have ha10 : a = 10 := by omega
        subst ha10
        rw [show ((10 : Int) + 9).toNat = 19 from rfl, w_ghosts k2, w_wholes k1 k2 k5]
        refine r_iload (pc2 := 407) dL_isWell_405 rfl rfl ?_
        refine r_iconst (pc2 := 408) dL_isWell_407 rfl ?_
        refine r_zand (pc2 := 409) dL_isWell_408 rfl ?_
        refine r_iload (pc2 := 411) dL_isWell_409 rfl rfl ?_
        refine r_iconst (pc2 := 412) dL_isWell_411 rfl ?_
        refine r_zshr (pc2 := 413) dL_isWell_412 rfl ?_
        refine r_iconst (pc2 := 414) dL_isWell_413 rfl ?_
        refine r_zand (pc2 := 415) dL_isWell_414 rfl ?_
        refine r_iadd (pc2 := 416) dL_isWell_415 rfl ?_
        refine r_iload (pc2 := 418) dL_isWell_416 rfl rfl ?_
        refine r_iconst (pc2 := 419) dL_isWell_418 rfl ?_
        refine r_zshr (pc2 := 420) dL_isWell_419 rfl ?_
        refine r_iconst (pc2 := 421) dL_isWell_420 rfl ?_
        refine r_zand (pc2 := 422) dL_isWell_421 rfl ?_
        refine r_iadd (pc2 := 423) dL_isWell_422 rfl ?_
        refine r_iload (pc2 := 425) dL_isWell_423 rfl rfl ?_
        refine r_iconst (pc2 := 426) dL_isWell_425 rfl ?_
        refine r_zshr (pc2 := 427) dL_isWell_426 rfl ?_
        refine r_iconst (pc2 := 428) dL_isWell_427 rfl ?_
        refine r_zand (pc2 := 429) dL_isWell_428 rfl ?_
        refine r_iadd (pc2 := 430) dL_isWell_429 rfl ?_
        rw [bt_views k1 k2 k5]
        refine r_ist_7 (pc2 := 432) dL_isWell_430 rfl rfl ?_
        refine r_iload_n (pc2 := 433) dL_isWell_432 rfl rfl ?_
        refine r_bipush (pc2 := 435) dL_isWell_433 rfl (by decide) ?_
        refine r_calls_2 (pc2 := 438) dL_isWell_435 rfl rs_99_28 rfl (by decide) rfl (Nat.le_of_ble_eq_true rfl) (Nat.le_of_ble_eq_true rfl) (l_up _ _ _ (by omega)) (fun r_ w_ h_ => ?_)
        rw [h_.1, h_.2]
        clear h_ w_ r_
        refine ⟨rfl, ?_⟩
        have hu435 := up_rg (x := x) (n := 12) (by omega)
        generalize upZ x 12 = rd at hu435 ⊢
        have hu435 : 0 ≤ rd ∧ rd ≤ 11 := by omega
        refine r_ist_8 (pc2 := 440) dL_isWell_438 rfl rfl ?_
        refine r_iload_n (pc2 := 441) dL_isWell_440 rfl rfl ?_
        refine r_iconst (pc2 := 442) dL_isWell_441 rfl ?_
        refine r_zshr (pc2 := 443) dL_isWell_442 rfl ?_
        refine r_iload_n (pc2 := 444) dL_isWell_443 rfl rfl ?_
        refine r_calls_2 (pc2 := 447) dL_isWell_444 rfl rs_99_28 rfl (by decide) rfl (Nat.le_of_ble_eq_true rfl) (Nat.le_of_ble_eq_true rfl) (l_up _ _ _ (by omega)) (fun r_ w_ h_ => ?_)
        rw [h_.1, h_.2]
        clear h_ w_ r_
        refine ⟨rfl, ?_⟩
        have hu444 := up_rg (x := shrZ x 4) (n := p) (by omega)
        generalize upZ (shrZ x 4) p = pc at hu444 ⊢
        have hmul := mulb k2 hu435
        refine r_ist_9 (pc2 := 449) dL_isWell_447 rfl rfl ?_
        refine r_iload (pc2 := 451) dL_isWell_449 rfl rfl ?_
        refine r_iload_n (pc2 := 452) dL_isWell_451 rfl rfl ?_
        refine r_imul (pc2 := 453) dL_isWell_452 rfl ?_
        refine r_iload (pc2 := 455) dL_isWell_453 rfl rfl ?_
        refine r_iadd (pc2 := 456) dL_isWell_455 rfl ?_
        refine r_aload_n (pc2 := 457) dL_isWell_456 rfl rfl ?_
        refine r_iconst (pc2 := 458) dL_isWell_457 rfl ?_
        refine r_callv_1 (pc2 := 461) dL_isWell_458 rfl rs_99_9 rfl (by decide) rfl (Nat.le_of_ble_eq_true rfl) (Nat.le_of_ble_eq_true rfl) (by assumption) (by assumption) (oc2 J) (fun r_ w_ h_ => ?_)
        obtain ⟨e_, J⟩ := h_
        rw [e_]
        clear e_ r_
        have n_ := J.1
        obtain ⟨⟨z0, f0, z0w⟩, z33, f33, z33w⟩ := J.cells
        refine ⟨by omega, ?_⟩
        refine r_isub (pc2 := 462) dL_isWell_461 rfl ?_
        obtain ⟨fr, hfr⟩ : ∃ fr : Int, fr = rd * p + pc - sh := ⟨_, rfl⟩
        rw [← hfr]
        refine r_ist_10 (pc2 := 464) dL_isWell_462 rfl rfl ?_
        refine r_iload (pc2 := 466) dL_isWell_464 rfl rfl ?_
        refine r_if_lt (pc2 := 469) (tgt := 482) dL_isWell_466 rfl (by decide) (by omega) (fun h466 => ?_) (fun h466 => ?_)
        · obtain ⟨o1, o2⟩ := w_out (v := v) (sh := sh) (ln := ln) (pr := pr) (gd := gd) (co := co) (c := c) (s := s) k2 hu435 (show 0 ≤ pc ∧ pc ≤ p - 1 by omega) (show fr = rd * p + pc - sh from hfr) (by omega)
          refine r_iconst (pc2 := 483) dL_isWell_482 rfl ?_
          refine r_ist_11 (pc2 := 485) dL_isWell_483 rfl rfl ?_
          refine r_iload (pc2 := 487) dL_isWell_485 rfl rfl ?_
          refine r_if_eq (pc2 := 490) (tgt := 550) dL_isWell_487 rfl (by decide) (by omega) (fun h487 => ?_) (fun h487 => ?_)
          · exfalso
            omega
          · refine r_aload_n (pc2 := 491) dL_isWell_490 rfl rfl ?_
            refine r_iload (pc2 := 493) dL_isWell_491 rfl rfl ?_
            refine r_iload (pc2 := 495) dL_isWell_493 rfl rfl ?_
            refine r_iconst (pc2 := 496) dL_isWell_495 rfl ?_
            refine r_callv_3 (pc2 := 499) dL_isWell_496 rfl rs_99_92 rfl (by decide) rfl (Nat.le_of_ble_eq_true rfl) (Nat.le_of_ble_eq_true rfl) (by assumption) (by assumption) (ot_behind J rd pc 0 (by unfold RG; omega) (by unfold RG; omega) (by unfold RG; omega)) (fun r_ w_ h_ => ?_)
            obtain ⟨e_, J⟩ := h_
            rw [e_, o1]
            clear e_ r_
            have n_ := J.1
            obtain ⟨⟨z0, f0, z0w⟩, z33, f33, z33w⟩ := J.cells
            refine ⟨by omega, ?_⟩
            refine r_iload (pc2 := 501) dL_isWell_499 rfl rfl ?_
            refine r_if_eq (pc2 := 504) (tgt := 515) dL_isWell_501 rfl (by decide) (by omega) (fun h501 => ?_) (fun h501 => ?_)
            · refine r_bipush (pc2 := 517) dL_isWell_515 rfl (by decide) ?_
              refine r_same (pc2 := 520) dL_isWell_517 rfl (by decide) ?_
              refine r_aload_n (pc2 := 521) dL_isWell_520 rfl rfl ?_
              refine r_iload (pc2 := 523) dL_isWell_521 rfl rfl ?_
              refine r_iload (pc2 := 525) dL_isWell_523 rfl rfl ?_
              refine r_iconst (pc2 := 526) dL_isWell_525 rfl ?_
              refine r_callv_3 (pc2 := 529) dL_isWell_526 rfl rs_99_92 rfl (by decide) rfl (Nat.le_of_ble_eq_true rfl) (Nat.le_of_ble_eq_true rfl) (by assumption) (by assumption) (ot_behind J rd pc 2 (by unfold RG; omega) (by unfold RG; omega) (by unfold RG; omega)) (fun r_ w_ h_ => ?_)
              obtain ⟨e_, J⟩ := h_
              rw [e_, o2]
              clear e_ r_
              have n_ := J.1
              obtain ⟨⟨z0, f0, z0w⟩, z33, f33, z33w⟩ := J.cells
              refine ⟨by omega, ?_⟩
              refine r_iload (pc2 := 531) dL_isWell_529 rfl rfl ?_
              refine r_if_eq (pc2 := 534) (tgt := 541) dL_isWell_531 rfl (by decide) (by omega) (fun h531 => ?_) (fun h531 => ?_)
              · refine r_bipush (pc2 := 543) dL_isWell_541 rfl (by decide) ?_
                refine r_same (pc2 := 546) dL_isWell_543 rfl (by decide) ?_
                refine r_iconst (pc2 := 547) dL_isWell_546 rfl ?_
                refine r_goto (tgt := 551) dL_isWell_547 (by decide) ?_
                refine r_ist_6 (pc2 := 553) dL_isWell_551 rfl rfl ?_
                refine r_iload (pc2 := 555) dL_isWell_553 rfl rfl ?_
                refine r_if_eq (pc2 := 558) (tgt := 614) dL_isWell_555 rfl (by decide) (by omega) (fun h555 => ?_) (fun h555 => ?_)
                · exfalso
                  omega
                · refine r_iload_n (pc2 := 559) dL_isWell_558 rfl rfl ?_
                  refine r_aload_n (pc2 := 560) dL_isWell_559 rfl rfl ?_
                  refine r_iconst (pc2 := 561) dL_isWell_560 rfl ?_
                  refine r_callv_1 (pc2 := 564) dL_isWell_561 rfl rs_99_9 rfl (by decide) rfl (Nat.le_of_ble_eq_true rfl) (Nat.le_of_ble_eq_true rfl) (by assumption) (by assumption) (ot_count J 4 (by omega)) (fun r_ w_ h_ => ?_)
                  obtain ⟨e_, J⟩ := h_
                  rw [e_]
                  clear e_ r_
                  have n_ := J.1
                  obtain ⟨⟨z0, f0, z0w⟩, z33, f33, z33w⟩ := J.cells
                  refine ⟨by omega, ?_⟩
                  refine r_same (pc2 := 567) dL_isWell_564 rfl (by decide) ?_
                  refine r_iload (pc2 := 569) dL_isWell_567 rfl rfl ?_
                  refine r_aload_n (pc2 := 570) dL_isWell_569 rfl rfl ?_
                  refine r_iconst (pc2 := 571) dL_isWell_570 rfl ?_
                  refine r_callv_1 (pc2 := 574) dL_isWell_571 rfl rs_99_9 rfl (by decide) rfl (Nat.le_of_ble_eq_true rfl) (Nat.le_of_ble_eq_true rfl) (by assumption) (by assumption) (ot_count J 5 (by omega)) (fun r_ w_ h_ => ?_)
                  obtain ⟨e_, J⟩ := h_
                  rw [e_]
                  clear e_ r_
                  have n_ := J.1
                  obtain ⟨⟨z0, f0, z0w⟩, z33, f33, z33w⟩ := J.cells
                  refine ⟨by omega, ?_⟩
                  refine r_same (pc2 := 577) dL_isWell_574 rfl (by decide) ?_
                  refine r_iload (pc2 := 579) dL_isWell_577 rfl rfl ?_
                  refine r_aload_n (pc2 := 580) dL_isWell_579 rfl rfl ?_
                  refine r_bipush (pc2 := 582) dL_isWell_580 rfl (by decide) ?_
                  refine r_callv_1 (pc2 := 585) dL_isWell_582 rfl rs_99_9 rfl (by decide) rfl (Nat.le_of_ble_eq_true rfl) (Nat.le_of_ble_eq_true rfl) (by assumption) (by assumption) (ot_count J 6 (by omega)) (fun r_ w_ h_ => ?_)
                  obtain ⟨e_, J⟩ := h_
                  rw [e_]
                  clear e_ r_
                  have n_ := J.1
                  obtain ⟨⟨z0, f0, z0w⟩, z33, f33, z33w⟩ := J.cells
                  refine ⟨by omega, ?_⟩
                  refine r_same (pc2 := 588) dL_isWell_585 rfl (by decide) ?_
                  refine r_aload_n (pc2 := 589) dL_isWell_588 rfl rfl ?_
                  refine r_bipush (pc2 := 591) dL_isWell_589 rfl (by decide) ?_
                  refine r_callv_1 (pc2 := 594) dL_isWell_591 rfl rs_99_9 rfl (by decide) rfl (Nat.le_of_ble_eq_true rfl) (Nat.le_of_ble_eq_true rfl) (by assumption) (by assumption) (ot_count J 8 (by omega)) (fun r_ w_ h_ => ?_)
                  obtain ⟨e_, J⟩ := h_
                  rw [e_]
                  clear e_ r_
                  have n_ := J.1
                  obtain ⟨⟨z0, f0, z0w⟩, z33, f33, z33w⟩ := J.cells
                  refine ⟨by omega, ?_⟩
                  refine r_aload_n (pc2 := 595) dL_isWell_594 rfl rfl ?_
                  refine r_bipush (pc2 := 597) dL_isWell_595 rfl (by decide) ?_
                  refine r_callv_1 (pc2 := 600) dL_isWell_597 rfl rs_99_9 rfl (by decide) rfl (Nat.le_of_ble_eq_true rfl) (Nat.le_of_ble_eq_true rfl) (by assumption) (by assumption) (ot_count J 9 (by omega)) (fun r_ w_ h_ => ?_)
                  obtain ⟨e_, J⟩ := h_
                  rw [e_]
                  clear e_ r_
                  have n_ := J.1
                  obtain ⟨⟨z0, f0, z0w⟩, z33, f33, z33w⟩ := J.cells
                  refine ⟨by omega, ?_⟩
                  refine r_iadd (pc2 := 601) dL_isWell_600 rfl ?_
                  refine r_aload_n (pc2 := 602) dL_isWell_601 rfl rfl ?_
                  refine r_bipush (pc2 := 604) dL_isWell_602 rfl (by decide) ?_
                  refine r_callv_1 (pc2 := 607) dL_isWell_604 rfl rs_99_9 rfl (by decide) rfl (Nat.le_of_ble_eq_true rfl) (Nat.le_of_ble_eq_true rfl) (by assumption) (by assumption) (ot_count J 7 (by omega)) (fun r_ w_ h_ => ?_)
                  obtain ⟨e_, J⟩ := h_
                  rw [e_]
                  clear e_ r_
                  have n_ := J.1
                  obtain ⟨⟨z0, f0, z0w⟩, z33, f33, z33w⟩ := J.cells
                  refine ⟨by omega, ?_⟩
                  rw [show o_count (v, p, sh, ln, pr, gd, co, c, s) 0 0 8 + o_count (v, p, sh, ln, pr, gd, co, c, s) 0 0 9 = o_count (v, p, sh, ln, pr, gd, co, c, s) 0 0 7 from (show gd + (pr - gd) = pr by omega)]
                  refine r_same (pc2 := 610) dL_isWell_607 rfl (by decide) ?_
                  refine r_iconst (pc2 := 611) dL_isWell_610 rfl ?_
                  refine r_goto (tgt := 615) dL_isWell_611 (by decide) ?_
                  refine r_retb dL_isWell_615 rfl (by first | exact Or.inl rfl | exact Or.inr rfl | exact bz_01) ?_
                  exact ⟨rfl, J⟩
              · exfalso
                omega
            · exfalso
              omega
        · refine r_iload (pc2 := 471) dL_isWell_469 rfl rfl ?_
          refine r_bipush (pc2 := 473) dL_isWell_471 rfl (by decide) ?_
          refine r_iload_n (pc2 := 474) dL_isWell_473 rfl rfl ?_
          refine r_imul (pc2 := 475) dL_isWell_474 rfl ?_
          refine r_icmp_ge (pc2 := 478) (tgt := 482) dL_isWell_475 rfl (by decide) (by omega) (by omega) (fun h475 => ?_) (fun h475 => ?_)
          · obtain ⟨o1, o2⟩ := w_out (v := v) (sh := sh) (ln := ln) (pr := pr) (gd := gd) (co := co) (c := c) (s := s) k2 hu435 (show 0 ≤ pc ∧ pc ≤ p - 1 by omega) (show fr = rd * p + pc - sh from hfr) (by omega)
            refine r_iconst (pc2 := 483) dL_isWell_482 rfl ?_
            refine r_ist_11 (pc2 := 485) dL_isWell_483 rfl rfl ?_
            refine r_iload (pc2 := 487) dL_isWell_485 rfl rfl ?_
            refine r_if_eq (pc2 := 490) (tgt := 550) dL_isWell_487 rfl (by decide) (by omega) (fun h487 => ?_) (fun h487 => ?_)
            · exfalso
              omega
            · refine r_aload_n (pc2 := 491) dL_isWell_490 rfl rfl ?_
              refine r_iload (pc2 := 493) dL_isWell_491 rfl rfl ?_
              refine r_iload (pc2 := 495) dL_isWell_493 rfl rfl ?_
              refine r_iconst (pc2 := 496) dL_isWell_495 rfl ?_
              refine r_callv_3 (pc2 := 499) dL_isWell_496 rfl rs_99_92 rfl (by decide) rfl (Nat.le_of_ble_eq_true rfl) (Nat.le_of_ble_eq_true rfl) (by assumption) (by assumption) (ot_behind J rd pc 0 (by unfold RG; omega) (by unfold RG; omega) (by unfold RG; omega)) (fun r_ w_ h_ => ?_)
              obtain ⟨e_, J⟩ := h_
              rw [e_, o1]
              clear e_ r_
              have n_ := J.1
              obtain ⟨⟨z0, f0, z0w⟩, z33, f33, z33w⟩ := J.cells
              refine ⟨by omega, ?_⟩
              refine r_iload (pc2 := 501) dL_isWell_499 rfl rfl ?_
              refine r_if_eq (pc2 := 504) (tgt := 515) dL_isWell_501 rfl (by decide) (by omega) (fun h501 => ?_) (fun h501 => ?_)
              · refine r_bipush (pc2 := 517) dL_isWell_515 rfl (by decide) ?_
                refine r_same (pc2 := 520) dL_isWell_517 rfl (by decide) ?_
                refine r_aload_n (pc2 := 521) dL_isWell_520 rfl rfl ?_
                refine r_iload (pc2 := 523) dL_isWell_521 rfl rfl ?_
                refine r_iload (pc2 := 525) dL_isWell_523 rfl rfl ?_
                refine r_iconst (pc2 := 526) dL_isWell_525 rfl ?_
                refine r_callv_3 (pc2 := 529) dL_isWell_526 rfl rs_99_92 rfl (by decide) rfl (Nat.le_of_ble_eq_true rfl) (Nat.le_of_ble_eq_true rfl) (by assumption) (by assumption) (ot_behind J rd pc 2 (by unfold RG; omega) (by unfold RG; omega) (by unfold RG; omega)) (fun r_ w_ h_ => ?_)
                obtain ⟨e_, J⟩ := h_
                rw [e_, o2]
                clear e_ r_
                have n_ := J.1
                obtain ⟨⟨z0, f0, z0w⟩, z33, f33, z33w⟩ := J.cells
                refine ⟨by omega, ?_⟩
                refine r_iload (pc2 := 531) dL_isWell_529 rfl rfl ?_
                refine r_if_eq (pc2 := 534) (tgt := 541) dL_isWell_531 rfl (by decide) (by omega) (fun h531 => ?_) (fun h531 => ?_)
                · refine r_bipush (pc2 := 543) dL_isWell_541 rfl (by decide) ?_
                  refine r_same (pc2 := 546) dL_isWell_543 rfl (by decide) ?_
                  refine r_iconst (pc2 := 547) dL_isWell_546 rfl ?_
                  refine r_goto (tgt := 551) dL_isWell_547 (by decide) ?_
                  refine r_ist_6 (pc2 := 553) dL_isWell_551 rfl rfl ?_
                  refine r_iload (pc2 := 555) dL_isWell_553 rfl rfl ?_
                  refine r_if_eq (pc2 := 558) (tgt := 614) dL_isWell_555 rfl (by decide) (by omega) (fun h555 => ?_) (fun h555 => ?_)
                  · exfalso
                    omega
                  · refine r_iload_n (pc2 := 559) dL_isWell_558 rfl rfl ?_
                    refine r_aload_n (pc2 := 560) dL_isWell_559 rfl rfl ?_
                    refine r_iconst (pc2 := 561) dL_isWell_560 rfl ?_
                    refine r_callv_1 (pc2 := 564) dL_isWell_561 rfl rs_99_9 rfl (by decide) rfl (Nat.le_of_ble_eq_true rfl) (Nat.le_of_ble_eq_true rfl) (by assumption) (by assumption) (ot_count J 4 (by omega)) (fun r_ w_ h_ => ?_)
                    obtain ⟨e_, J⟩ := h_
                    rw [e_]
                    clear e_ r_
                    have n_ := J.1
                    obtain ⟨⟨z0, f0, z0w⟩, z33, f33, z33w⟩ := J.cells
                    refine ⟨by omega, ?_⟩
                    refine r_same (pc2 := 567) dL_isWell_564 rfl (by decide) ?_
                    refine r_iload (pc2 := 569) dL_isWell_567 rfl rfl ?_
                    refine r_aload_n (pc2 := 570) dL_isWell_569 rfl rfl ?_
                    refine r_iconst (pc2 := 571) dL_isWell_570 rfl ?_
                    refine r_callv_1 (pc2 := 574) dL_isWell_571 rfl rs_99_9 rfl (by decide) rfl (Nat.le_of_ble_eq_true rfl) (Nat.le_of_ble_eq_true rfl) (by assumption) (by assumption) (ot_count J 5 (by omega)) (fun r_ w_ h_ => ?_)
                    obtain ⟨e_, J⟩ := h_
                    rw [e_]
                    clear e_ r_
                    have n_ := J.1
                    obtain ⟨⟨z0, f0, z0w⟩, z33, f33, z33w⟩ := J.cells
                    refine ⟨by omega, ?_⟩
                    refine r_same (pc2 := 577) dL_isWell_574 rfl (by decide) ?_
                    refine r_iload (pc2 := 579) dL_isWell_577 rfl rfl ?_
                    refine r_aload_n (pc2 := 580) dL_isWell_579 rfl rfl ?_
                    refine r_bipush (pc2 := 582) dL_isWell_580 rfl (by decide) ?_
                    refine r_callv_1 (pc2 := 585) dL_isWell_582 rfl rs_99_9 rfl (by decide) rfl (Nat.le_of_ble_eq_true rfl) (Nat.le_of_ble_eq_true rfl) (by assumption) (by assumption) (ot_count J 6 (by omega)) (fun r_ w_ h_ => ?_)
                    obtain ⟨e_, J⟩ := h_
                    rw [e_]
                    clear e_ r_
                    have n_ := J.1
                    obtain ⟨⟨z0, f0, z0w⟩, z33, f33, z33w⟩ := J.cells
                    refine ⟨by omega, ?_⟩
                    refine r_same (pc2 := 588) dL_isWell_585 rfl (by decide) ?_
                    refine r_aload_n (pc2 := 589) dL_isWell_588 rfl rfl ?_
                    refine r_bipush (pc2 := 591) dL_isWell_589 rfl (by decide) ?_
                    refine r_callv_1 (pc2 := 594) dL_isWell_591 rfl rs_99_9 rfl (by decide) rfl (Nat.le_of_ble_eq_true rfl) (Nat.le_of_ble_eq_true rfl) (by assumption) (by assumption) (ot_count J 8 (by omega)) (fun r_ w_ h_ => ?_)
                    obtain ⟨e_, J⟩ := h_
                    rw [e_]
                    clear e_ r_
                    have n_ := J.1
                    obtain ⟨⟨z0, f0, z0w⟩, z33, f33, z33w⟩ := J.cells
                    refine ⟨by omega, ?_⟩
                    refine r_aload_n (pc2 := 595) dL_isWell_594 rfl rfl ?_
                    refine r_bipush (pc2 := 597) dL_isWell_595 rfl (by decide) ?_
                    refine r_callv_1 (pc2 := 600) dL_isWell_597 rfl rs_99_9 rfl (by decide) rfl (Nat.le_of_ble_eq_true rfl) (Nat.le_of_ble_eq_true rfl) (by assumption) (by assumption) (ot_count J 9 (by omega)) (fun r_ w_ h_ => ?_)
                    obtain ⟨e_, J⟩ := h_
                    rw [e_]
                    clear e_ r_
                    have n_ := J.1
                    obtain ⟨⟨z0, f0, z0w⟩, z33, f33, z33w⟩ := J.cells
                    refine ⟨by omega, ?_⟩
                    refine r_iadd (pc2 := 601) dL_isWell_600 rfl ?_
                    refine r_aload_n (pc2 := 602) dL_isWell_601 rfl rfl ?_
                    refine r_bipush (pc2 := 604) dL_isWell_602 rfl (by decide) ?_
                    refine r_callv_1 (pc2 := 607) dL_isWell_604 rfl rs_99_9 rfl (by decide) rfl (Nat.le_of_ble_eq_true rfl) (Nat.le_of_ble_eq_true rfl) (by assumption) (by assumption) (ot_count J 7 (by omega)) (fun r_ w_ h_ => ?_)
                    obtain ⟨e_, J⟩ := h_
                    rw [e_]
                    clear e_ r_
                    have n_ := J.1
                    obtain ⟨⟨z0, f0, z0w⟩, z33, f33, z33w⟩ := J.cells
                    refine ⟨by omega, ?_⟩
                    rw [show o_count (v, p, sh, ln, pr, gd, co, c, s) 0 0 8 + o_count (v, p, sh, ln, pr, gd, co, c, s) 0 0 9 = o_count (v, p, sh, ln, pr, gd, co, c, s) 0 0 7 from (show gd + (pr - gd) = pr by omega)]
                    refine r_same (pc2 := 610) dL_isWell_607 rfl (by decide) ?_
                    refine r_iconst (pc2 := 611) dL_isWell_610 rfl ?_
                    refine r_goto (tgt := 615) dL_isWell_611 (by decide) ?_
                    refine r_retb dL_isWell_615 rfl (by first | exact Or.inl rfl | exact Or.inr rfl | exact bz_01) ?_
                    exact ⟨rfl, J⟩
                · exfalso
                  omega
              · exfalso
                omega
          · obtain ⟨o1, o2, o3, o4, o5⟩ := w_in (sh := sh) (ln := ln) (pr := pr) (gd := gd) (co := co) (c := c) k1 k2 k5 hu435 (show 0 ≤ pc ∧ pc ≤ p - 1 by omega) (show fr = rd * p + pc - sh from hfr) (by omega)
            have em := Int.tmod_eq_emod_of_nonneg (a := fr) (b := p) (by omega)
            have ed := Int.tdiv_eq_ediv_of_nonneg (a := fr) (b := p) (by omega)
            refine r_iconst (pc2 := 479) dL_isWell_478 rfl ?_
            refine r_goto (tgt := 483) dL_isWell_479 (by decide) ?_
            refine r_ist_11 (pc2 := 485) dL_isWell_483 rfl rfl ?_
            refine r_iload (pc2 := 487) dL_isWell_485 rfl rfl ?_
            refine r_if_eq (pc2 := 490) (tgt := 550) dL_isWell_487 rfl (by decide) (by omega) (fun h487 => ?_) (fun h487 => ?_)
            · exfalso
              omega
            · refine r_aload_n (pc2 := 491) dL_isWell_490 rfl rfl ?_
              refine r_iload (pc2 := 493) dL_isWell_491 rfl rfl ?_
              refine r_iload (pc2 := 495) dL_isWell_493 rfl rfl ?_
              refine r_iconst (pc2 := 496) dL_isWell_495 rfl ?_
              refine r_callv_3 (pc2 := 499) dL_isWell_496 rfl rs_99_92 rfl (by decide) rfl (Nat.le_of_ble_eq_true rfl) (Nat.le_of_ble_eq_true rfl) (by assumption) (by assumption) (ot_behind J rd pc 0 (by unfold RG; omega) (by unfold RG; omega) (by unfold RG; omega)) (fun r_ w_ h_ => ?_)
              obtain ⟨e_, J⟩ := h_
              rw [e_, o1]
              clear e_ r_
              have n_ := J.1
              obtain ⟨⟨z0, f0, z0w⟩, z33, f33, z33w⟩ := J.cells
              refine ⟨by omega, ?_⟩
              refine r_iload (pc2 := 501) dL_isWell_499 rfl rfl ?_
              refine r_if_eq (pc2 := 504) (tgt := 515) dL_isWell_501 rfl (by decide) (by omega) (fun h501 => ?_) (fun h501 => ?_)
              · exfalso
                omega
              · refine r_aload_n (pc2 := 505) dL_isWell_504 rfl rfl ?_
                refine r_iload (pc2 := 507) dL_isWell_505 rfl rfl ?_
                refine r_iload_n (pc2 := 508) dL_isWell_507 rfl rfl ?_
                refine r_irem (pc2 := 509) dL_isWell_508 rfl (by omega) (by omega) (by omega) (by omega) ?_
                rw [em]
                refine r_callv_1 (pc2 := 512) dL_isWell_509 rfl rs_99_15 rfl (by decide) rfl (Nat.le_of_ble_eq_true rfl) (Nat.le_of_ble_eq_true rfl) (by assumption) (by assumption) (ot_viewOf J (fr % p) (by unfold RG; omega)) (fun r_ w_ h_ => ?_)
                obtain ⟨e_, J⟩ := h_
                rw [e_]
                clear e_ r_
                have n_ := J.1
                obtain ⟨⟨z0, f0, z0w⟩, z33, f33, z33w⟩ := J.cells
                refine ⟨by omega, ?_⟩
                refine r_goto (tgt := 517) dL_isWell_512 (by decide) ?_
                refine r_same (pc2 := 520) dL_isWell_517 rfl (by decide) ?_
                refine r_aload_n (pc2 := 521) dL_isWell_520 rfl rfl ?_
                refine r_iload (pc2 := 523) dL_isWell_521 rfl rfl ?_
                refine r_iload (pc2 := 525) dL_isWell_523 rfl rfl ?_
                refine r_iconst (pc2 := 526) dL_isWell_525 rfl ?_
                refine r_callv_3 (pc2 := 529) dL_isWell_526 rfl rs_99_92 rfl (by decide) rfl (Nat.le_of_ble_eq_true rfl) (Nat.le_of_ble_eq_true rfl) (by assumption) (by assumption) (ot_behind J rd pc 2 (by unfold RG; omega) (by unfold RG; omega) (by unfold RG; omega)) (fun r_ w_ h_ => ?_)
                obtain ⟨e_, J⟩ := h_
                rw [e_, o2]
                clear e_ r_
                have n_ := J.1
                obtain ⟨⟨z0, f0, z0w⟩, z33, f33, z33w⟩ := J.cells
                refine ⟨by omega, ?_⟩
                refine r_iload (pc2 := 531) dL_isWell_529 rfl rfl ?_
                refine r_if_eq (pc2 := 534) (tgt := 541) dL_isWell_531 rfl (by decide) (by omega) (fun h531 => ?_) (fun h531 => ?_)
                · exfalso
                  omega
                · refine r_iload (pc2 := 536) dL_isWell_534 rfl rfl ?_
                  refine r_iload_n (pc2 := 537) dL_isWell_536 rfl rfl ?_
                  refine r_idiv (pc2 := 538) dL_isWell_537 rfl (by omega) (by omega) (by omega) (by omega) ?_
                  rw [ed]
                  refine r_goto (tgt := 543) dL_isWell_538 (by decide) ?_
                  refine r_same (pc2 := 546) dL_isWell_543 rfl (by decide) ?_
                  refine r_iconst (pc2 := 547) dL_isWell_546 rfl ?_
                  refine r_goto (tgt := 551) dL_isWell_547 (by decide) ?_
                  refine r_ist_6 (pc2 := 553) dL_isWell_551 rfl rfl ?_
                  refine r_iload (pc2 := 555) dL_isWell_553 rfl rfl ?_
                  refine r_if_eq (pc2 := 558) (tgt := 614) dL_isWell_555 rfl (by decide) (by omega) (fun h555 => ?_) (fun h555 => ?_)
                  · exfalso
                    omega
                  · refine r_iload_n (pc2 := 559) dL_isWell_558 rfl rfl ?_
                    refine r_aload_n (pc2 := 560) dL_isWell_559 rfl rfl ?_
                    refine r_iconst (pc2 := 561) dL_isWell_560 rfl ?_
                    refine r_callv_1 (pc2 := 564) dL_isWell_561 rfl rs_99_9 rfl (by decide) rfl (Nat.le_of_ble_eq_true rfl) (Nat.le_of_ble_eq_true rfl) (by assumption) (by assumption) (ot_count J 4 (by omega)) (fun r_ w_ h_ => ?_)
                    obtain ⟨e_, J⟩ := h_
                    rw [e_]
                    clear e_ r_
                    have n_ := J.1
                    obtain ⟨⟨z0, f0, z0w⟩, z33, f33, z33w⟩ := J.cells
                    refine ⟨by omega, ?_⟩
                    refine r_same (pc2 := 567) dL_isWell_564 rfl (by decide) ?_
                    refine r_iload (pc2 := 569) dL_isWell_567 rfl rfl ?_
                    refine r_aload_n (pc2 := 570) dL_isWell_569 rfl rfl ?_
                    refine r_iconst (pc2 := 571) dL_isWell_570 rfl ?_
                    refine r_callv_1 (pc2 := 574) dL_isWell_571 rfl rs_99_9 rfl (by decide) rfl (Nat.le_of_ble_eq_true rfl) (Nat.le_of_ble_eq_true rfl) (by assumption) (by assumption) (ot_count J 5 (by omega)) (fun r_ w_ h_ => ?_)
                    obtain ⟨e_, J⟩ := h_
                    rw [e_]
                    clear e_ r_
                    have n_ := J.1
                    obtain ⟨⟨z0, f0, z0w⟩, z33, f33, z33w⟩ := J.cells
                    refine ⟨by omega, ?_⟩
                    refine r_same (pc2 := 577) dL_isWell_574 rfl (by decide) ?_
                    refine r_iload (pc2 := 579) dL_isWell_577 rfl rfl ?_
                    refine r_aload_n (pc2 := 580) dL_isWell_579 rfl rfl ?_
                    refine r_bipush (pc2 := 582) dL_isWell_580 rfl (by decide) ?_
                    refine r_callv_1 (pc2 := 585) dL_isWell_582 rfl rs_99_9 rfl (by decide) rfl (Nat.le_of_ble_eq_true rfl) (Nat.le_of_ble_eq_true rfl) (by assumption) (by assumption) (ot_count J 6 (by omega)) (fun r_ w_ h_ => ?_)
                    obtain ⟨e_, J⟩ := h_
                    rw [e_]
                    clear e_ r_
                    have n_ := J.1
                    obtain ⟨⟨z0, f0, z0w⟩, z33, f33, z33w⟩ := J.cells
                    refine ⟨by omega, ?_⟩
                    refine r_same (pc2 := 588) dL_isWell_585 rfl (by decide) ?_
                    refine r_aload_n (pc2 := 589) dL_isWell_588 rfl rfl ?_
                    refine r_bipush (pc2 := 591) dL_isWell_589 rfl (by decide) ?_
                    refine r_callv_1 (pc2 := 594) dL_isWell_591 rfl rs_99_9 rfl (by decide) rfl (Nat.le_of_ble_eq_true rfl) (Nat.le_of_ble_eq_true rfl) (by assumption) (by assumption) (ot_count J 8 (by omega)) (fun r_ w_ h_ => ?_)
                    obtain ⟨e_, J⟩ := h_
                    rw [e_]
                    clear e_ r_
                    have n_ := J.1
                    obtain ⟨⟨z0, f0, z0w⟩, z33, f33, z33w⟩ := J.cells
                    refine ⟨by omega, ?_⟩
                    refine r_aload_n (pc2 := 595) dL_isWell_594 rfl rfl ?_
                    refine r_bipush (pc2 := 597) dL_isWell_595 rfl (by decide) ?_
                    refine r_callv_1 (pc2 := 600) dL_isWell_597 rfl rs_99_9 rfl (by decide) rfl (Nat.le_of_ble_eq_true rfl) (Nat.le_of_ble_eq_true rfl) (by assumption) (by assumption) (ot_count J 9 (by omega)) (fun r_ w_ h_ => ?_)
                    obtain ⟨e_, J⟩ := h_
                    rw [e_]
                    clear e_ r_
                    have n_ := J.1
                    obtain ⟨⟨z0, f0, z0w⟩, z33, f33, z33w⟩ := J.cells
                    refine ⟨by omega, ?_⟩
                    refine r_iadd (pc2 := 601) dL_isWell_600 rfl ?_
                    refine r_aload_n (pc2 := 602) dL_isWell_601 rfl rfl ?_
                    refine r_bipush (pc2 := 604) dL_isWell_602 rfl (by decide) ?_
                    refine r_callv_1 (pc2 := 607) dL_isWell_604 rfl rs_99_9 rfl (by decide) rfl (Nat.le_of_ble_eq_true rfl) (Nat.le_of_ble_eq_true rfl) (by assumption) (by assumption) (ot_count J 7 (by omega)) (fun r_ w_ h_ => ?_)
                    obtain ⟨e_, J⟩ := h_
                    rw [e_]
                    clear e_ r_
                    have n_ := J.1
                    obtain ⟨⟨z0, f0, z0w⟩, z33, f33, z33w⟩ := J.cells
                    refine ⟨by omega, ?_⟩
                    rw [show o_count (v, p, sh, ln, pr, gd, co, c, s) 0 0 8 + o_count (v, p, sh, ln, pr, gd, co, c, s) 0 0 9 = o_count (v, p, sh, ln, pr, gd, co, c, s) 0 0 7 from (show gd + (pr - gd) = pr by omega)]
                    refine r_same (pc2 := 610) dL_isWell_607 rfl (by decide) ?_
                    refine r_iconst (pc2 := 611) dL_isWell_610 rfl ?_
                    refine r_goto (tgt := 615) dL_isWell_611 (by decide) ?_
                    refine r_retb dL_isWell_615 rfl (by first | exact Or.inl rfl | exact Or.inr rfl | exact bz_01) ?_
                    exact ⟨rfl, J⟩
      · have ha9 : -9 ≤ a ∧ a ≤ 9 := by omega
        refine r_iload (pc2 := 30) dL_isWell_28 rfl rfl ?_
        refine r_if_eq (pc2 := 33) (tgt := 405) dL_isWell_30 rfl (by decide) (by omega) (fun h30 => ?_) (fun h30 => ?_)
        · exfalso
          omega
        · refine r_iconst (pc2 := 34) dL_isWell_33 rfl ?_
          refine r_ist_8 (pc2 := 36) dL_isWell_34 rfl rfl ?_
          refine r_iconst (pc2 := 37) dL_isWell_36 rfl ?_
          refine r_ist_9 (pc2 := 39) dL_isWell_37 rfl rfl ?_
          refine r_iconst (pc2 := 40) dL_isWell_39 rfl ?_
          refine r_ist_10 (pc2 := 42) dL_isWell_40 rfl rfl ?_
          refine r_iconst (pc2 := 43) dL_isWell_42 rfl ?_
          refine r_ist_11 (pc2 := 45) dL_isWell_43 rfl rfl ?_
          have kont : ∀ (r : Int) (wz : av_W) (b12 b13 : Option Value), r = 12 → JJ sc wz (v, p, sh, ln, pr, gd, co, c, s) U len len2 t t2 → rn ML_isWell 249 [some (.ref 0), some (.int (iN x)), some (.int (iN p)), some (.int (iN (sm (a + 9).toNat (fun i => o_at (v, p, sh, ln, pr, gd, co, c, s) ((i : Int) - 9) 0)))), some (.int (iN (sm (a + 9).toNat (fun i => bz (¬ o_at (v, p, sh, ln, pr, gd, co, c, s) ((i : Int) - 9) 1 = -105))))), some (.int (iN (btB (v, p, sh, ln, pr, gd, co, c, s) (a + 9).toNat))), some (.int (iN 1)), some (.int (iN a)), some (.int (iN (sm r.toNat (fun i => o_seen (v, p, sh, ln, pr, gd, co, c, s) a (i : Int) 3)))), some (.int (iN (sm r.toNat (fun i => bz (o_seen (v, p, sh, ln, pr, gd, co, c, s) a (i : Int) 0 = -105))))), some (.int (iN (sm r.toNat (fun i => bz (o_seen (v, p, sh, ln, pr, gd, co, c, s) a (i : Int) 0 = o_seen (v, p, sh, ln, pr, gd, co, c, s) a 0 0))))), some (.int (iN r)), b12, b13] [] wz (fun r' w' => r' = some (.int (iN 1)) ∧ JJ sc w' (v, p, sh, ln, pr, gd, co, c, s) U len len2 t t2) := by
            intro r wz b12 b13 hr J
            have hr12 : r = 12 := hr
            subst hr12
            rw [show (12 : Int).toNat = 12 from rfl, w_gi ha9, w_nt k2 k1 k5 ha9]
            obtain ⟨x1, x2, x3⟩ := w_an (sh := sh) (ln := ln) (pr := pr) (gd := gd) (co := co) (c := c) k2 k1 k5 ha9 (al := (sm 12 (fun i => bz (o_seen (v, p, sh, ln, pr, gd, co, c, s) a (i : Int) 0 = o_seen (v, p, sh, ln, pr, gd, co, c, s) a 0 0)))) rfl
            have y1 := sm_rg (n := 12) (f := fun i => bz (o_seen (v, p, sh, ln, pr, gd, co, c, s) a (i : Int) 0 = o_seen (v, p, sh, ln, pr, gd, co, c, s) a 0 0)) (L := 0) (H := 1) (fun j _ => bz_rg)
            have y0 : 0 ≤ (o_at (v, p, sh, ln, pr, gd, co, c, s) a 0) ∧ (o_at (v, p, sh, ln, pr, gd, co, c, s) a 0) ≤ 12 := by rw [at_0 ha9]; exact ghF_rg _ _ _
            have y4 : 0 ≤ (o_at (v, p, sh, ln, pr, gd, co, c, s) a 4) ∧ (o_at (v, p, sh, ln, pr, gd, co, c, s) a 4) ≤ 12 := by rw [at_4 ha9]; exact rsF_rg _ _ _ _
            have wr := whF_rgv (sh := sh) (ln := ln) k1 k2 k5 (stZ p a)
            have y5 : (o_at (v, p, sh, ln, pr, gd, co, c, s) a 1) = -105 ∨ (0 ≤ (o_at (v, p, sh, ln, pr, gd, co, c, s) a 1) ∧ (o_at (v, p, sh, ln, pr, gd, co, c, s) a 1) ≤ 3) := by
              rw [at_1 ha9]
              unfold nn
              split <;> omega
            generalize (sm 12 (fun i => bz (o_seen (v, p, sh, ln, pr, gd, co, c, s) a (i : Int) 0 = o_seen (v, p, sh, ln, pr, gd, co, c, s) a 0 0))) = al at x1 x3 y1 ⊢
            have n_ := J.1
            obtain ⟨⟨z0, f0, z0w⟩, z33, f33, z33w⟩ := J.cells
            refine r_aload_n (pc2 := 250) dL_isWell_249 rfl rfl ?_
            refine r_iload (pc2 := 252) dL_isWell_250 rfl rfl ?_
            refine r_iconst (pc2 := 253) dL_isWell_252 rfl ?_
            refine r_callv_2 (pc2 := 256) dL_isWell_253 rfl rs_99_83 rfl (by decide) rfl (Nat.le_of_ble_eq_true rfl) (Nat.le_of_ble_eq_true rfl) (by assumption) (by assumption) (ot_at J a 1 (by unfold RG; omega) (by unfold RG; omega)) (fun r_ w_ h_ => ?_)
            obtain ⟨e_, J⟩ := h_
            rw [e_]
            clear e_ r_
            have n_ := J.1
            obtain ⟨⟨z0, f0, z0w⟩, z33, f33, z33w⟩ := J.cells
            refine ⟨by omega, ?_⟩
            refine r_ist_11 (pc2 := 258) dL_isWell_256 rfl rfl ?_
            refine r_iload_n (pc2 := 259) dL_isWell_258 rfl rfl ?_
            refine r_iload (pc2 := 261) dL_isWell_259 rfl rfl ?_
            refine r_iadd (pc2 := 262) dL_isWell_261 rfl ?_
            refine r_ist_3 (pc2 := 263) dL_isWell_262 rfl rfl ?_
            refine r_iload (pc2 := 265) dL_isWell_263 rfl rfl ?_
            refine r_iload (pc2 := 267) dL_isWell_265 rfl rfl ?_
            refine r_bipush (pc2 := 269) dL_isWell_267 rfl (by decide) ?_
            refine r_dian_if_icmp_ne (A := 276) (B := 277) dL_isWell_269 (by decide) dL_isWell_272 dL_isWell_273 (by decide) dL_isWell_276 rfl (by omega) (by omega) ?_
            refine r_iadd (pc2 := 278) dL_isWell_277 rfl ?_
            refine r_ist_4 (pc2 := 280) dL_isWell_278 rfl rfl ?_
            refine r_iload (pc2 := 282) dL_isWell_280 rfl rfl ?_
            refine r_iload (pc2 := 284) dL_isWell_282 rfl rfl ?_
            refine r_bipush (pc2 := 286) dL_isWell_284 rfl (by decide) ?_
            refine r_icmp_ne (pc2 := 289) (tgt := 293) dL_isWell_286 rfl (by decide) (by omega) (by omega) (fun h286 => ?_) (fun h286 => ?_)
            · refine r_iconst (pc2 := 294) dL_isWell_293 rfl ?_
              refine r_iload (pc2 := 296) dL_isWell_294 rfl rfl ?_
              refine r_zshl (pc2 := 297) dL_isWell_296 rfl ?_
              refine r_zor (pc2 := 298) dL_isWell_297 rfl ?_
              refine r_ist_5 (pc2 := 300) dL_isWell_298 rfl rfl ?_
              refine r_iload (pc2 := 302) dL_isWell_300 rfl rfl ?_
              refine r_if_eq (pc2 := 305) (tgt := 396) dL_isWell_302 rfl (by decide) (by omega) (fun h302 => ?_) (fun h302 => ?_)
              · exfalso
                omega
              · refine r_aload_n (pc2 := 306) dL_isWell_305 rfl rfl ?_
                refine r_iload (pc2 := 308) dL_isWell_306 rfl rfl ?_
                refine r_iconst (pc2 := 309) dL_isWell_308 rfl ?_
                refine r_callv_2 (pc2 := 312) dL_isWell_309 rfl rs_99_83 rfl (by decide) rfl (Nat.le_of_ble_eq_true rfl) (Nat.le_of_ble_eq_true rfl) (by assumption) (by assumption) (ot_at J a 0 (by unfold RG; omega) (by unfold RG; omega)) (fun r_ w_ h_ => ?_)
                obtain ⟨e_, J⟩ := h_
                rw [e_]
                clear e_ r_
                have n_ := J.1
                obtain ⟨⟨z0, f0, z0w⟩, z33, f33, z33w⟩ := J.cells
                refine ⟨by omega, ?_⟩
                refine r_iload (pc2 := 314) dL_isWell_312 rfl rfl ?_
                refine r_same (pc2 := 317) dL_isWell_314 rfl (by decide) ?_
                refine r_aload_n (pc2 := 318) dL_isWell_317 rfl rfl ?_
                refine r_iload (pc2 := 320) dL_isWell_318 rfl rfl ?_
                refine r_iconst (pc2 := 321) dL_isWell_320 rfl ?_
                refine r_callv_2 (pc2 := 324) dL_isWell_321 rfl rs_99_83 rfl (by decide) rfl (Nat.le_of_ble_eq_true rfl) (Nat.le_of_ble_eq_true rfl) (by assumption) (by assumption) (ot_at J a 4 (by unfold RG; omega) (by unfold RG; omega)) (fun r_ w_ h_ => ?_)
                obtain ⟨e_, J⟩ := h_
                rw [e_]
                clear e_ r_
                have n_ := J.1
                obtain ⟨⟨z0, f0, z0w⟩, z33, f33, z33w⟩ := J.cells
                refine ⟨by omega, ?_⟩
                refine r_iload (pc2 := 326) dL_isWell_324 rfl rfl ?_
                refine r_same (pc2 := 329) dL_isWell_326 rfl (by decide) ?_
                refine r_iload (pc2 := 331) dL_isWell_329 rfl rfl ?_
                refine r_dia_ifCond_ne (A := 338) (B := 339) dL_isWell_331 (by decide) dL_isWell_334 dL_isWell_335 (by decide) dL_isWell_338 rfl (by omega) ?_
                refine r_iload (pc2 := 341) dL_isWell_339 rfl rfl ?_
                refine r_bipush (pc2 := 343) dL_isWell_341 rfl (by decide) ?_
                refine r_dia_if_icmp_ne (A := 350) (B := 351) dL_isWell_343 (by decide) dL_isWell_346 dL_isWell_347 (by decide) dL_isWell_350 rfl (by omega) (by omega) ?_
                rw [bz_iff x1]
                refine r_same (pc2 := 354) dL_isWell_351 rfl (by decide) ?_
                refine r_iload (pc2 := 356) dL_isWell_354 rfl rfl ?_
                refine r_bipush (pc2 := 358) dL_isWell_356 rfl (by decide) ?_
                refine r_dia_if_icmp_eq (A := 365) (B := 366) dL_isWell_358 (by decide) dL_isWell_361 dL_isWell_362 (by decide) dL_isWell_365 rfl (by omega) (by omega) ?_
                refine r_iload (pc2 := 368) dL_isWell_366 rfl rfl ?_
                refine r_bipush (pc2 := 370) dL_isWell_368 rfl (by decide) ?_
                refine r_icmp_ne (pc2 := 373) (tgt := 382) dL_isWell_370 rfl (by decide) (by omega) (by omega) (fun h370 => ?_) (fun h370 => ?_)
                · have hw1 : bz (¬ (o_at (v, p, sh, ln, pr, gd, co, c, s) a 1) = -105) = 0 := bz_f (by omega)
                  refine r_iconst (pc2 := 383) dL_isWell_382 rfl ?_
                  refine r_icmp_ne (pc2 := 386) (tgt := 396) dL_isWell_383 rfl (by decide) (by omega) (by omega) (fun h383 => ?_) (fun h383 => ?_)
                  · exfalso
                    omega
                  · refine r_iload (pc2 := 388) dL_isWell_386 rfl rfl ?_
                    refine r_iconst (pc2 := 389) dL_isWell_388 rfl ?_
                    refine r_icmp_eq (pc2 := 392) (tgt := 396) dL_isWell_389 rfl (by decide) (by omega) (by omega) (fun h389 => ?_) (fun h389 => ?_)
                    · exfalso
                      omega
                    · refine r_iconst (pc2 := 393) dL_isWell_392 rfl ?_
                      refine r_goto (tgt := 397) dL_isWell_393 (by decide) ?_
                      refine r_ist_6 (pc2 := 399) dL_isWell_397 rfl rfl ?_
                      refine r_iinc_7 (pc2 := 402) dL_isWell_399 rfl rfl ?_
                      refine r_goto (tgt := 21) dL_isWell_402 (by decide) ?_
                      have q1 : sm (a + 1 + 9).toNat (fun i => o_at (v, p, sh, ln, pr, gd, co, c, s) ((i : Int) - 9) 0) = (sm (a + 9).toNat (fun i => o_at (v, p, sh, ln, pr, gd, co, c, s) ((i : Int) - 9) 0)) + (o_at (v, p, sh, ln, pr, gd, co, c, s) a 0) := by
                        rw [show a + 1 + 9 = a + 9 + 1 by omega, sm_step (by omega)]
                        try dsimp only
                        rw [tn (by omega), show a + 9 - 9 = a by omega]
                      have q2 : sm (a + 1 + 9).toNat (fun i => bz (¬ o_at (v, p, sh, ln, pr, gd, co, c, s) ((i : Int) - 9) 1 = -105)) = (sm (a + 9).toNat (fun i => bz (¬ o_at (v, p, sh, ln, pr, gd, co, c, s) ((i : Int) - 9) 1 = -105))) + bz (¬ (o_at (v, p, sh, ln, pr, gd, co, c, s) a 1) = -105) := by
                        rw [show a + 1 + 9 = a + 9 + 1 by omega, sm_step (by omega)]
                        try dsimp only
                        rw [tn (by omega), show a + 9 - 9 = a by omega]
                      rw [← q1, ← q2]
                      first
                        | (rw [bt_or (v, p, sh, ln, pr, gd, co, c, s) (a := a) (by omega) (by omega)]; exact ih (a + 1) _ _ _ _ _ _ _ (by omega) J)
                        | (rw [bt_no (v, p, sh, ln, pr, gd, co, c, s) (a := a) (by omega) (by omega)]; exact ih (a + 1) _ _ _ _ _ _ _ (by omega) J)
                · refine r_iload (pc2 := 375) dL_isWell_373 rfl rfl ?_
                  refine r_if_ne (pc2 := 378) (tgt := 382) dL_isWell_375 rfl (by decide) (by omega) (fun h375 => ?_) (fun h375 => ?_)
                  · have hw1 : bz (¬ (o_at (v, p, sh, ln, pr, gd, co, c, s) a 1) = -105) = 0 := bz_f (by omega)
                    refine r_iconst (pc2 := 383) dL_isWell_382 rfl ?_
                    refine r_icmp_ne (pc2 := 386) (tgt := 396) dL_isWell_383 rfl (by decide) (by omega) (by omega) (fun h383 => ?_) (fun h383 => ?_)
                    · exfalso
                      omega
                    · refine r_iload (pc2 := 388) dL_isWell_386 rfl rfl ?_
                      refine r_iconst (pc2 := 389) dL_isWell_388 rfl ?_
                      refine r_icmp_eq (pc2 := 392) (tgt := 396) dL_isWell_389 rfl (by decide) (by omega) (by omega) (fun h389 => ?_) (fun h389 => ?_)
                      · exfalso
                        omega
                      · refine r_iconst (pc2 := 393) dL_isWell_392 rfl ?_
                        refine r_goto (tgt := 397) dL_isWell_393 (by decide) ?_
                        refine r_ist_6 (pc2 := 399) dL_isWell_397 rfl rfl ?_
                        refine r_iinc_7 (pc2 := 402) dL_isWell_399 rfl rfl ?_
                        refine r_goto (tgt := 21) dL_isWell_402 (by decide) ?_
                        have q1 : sm (a + 1 + 9).toNat (fun i => o_at (v, p, sh, ln, pr, gd, co, c, s) ((i : Int) - 9) 0) = (sm (a + 9).toNat (fun i => o_at (v, p, sh, ln, pr, gd, co, c, s) ((i : Int) - 9) 0)) + (o_at (v, p, sh, ln, pr, gd, co, c, s) a 0) := by
                          rw [show a + 1 + 9 = a + 9 + 1 by omega, sm_step (by omega)]
                          try dsimp only
                          rw [tn (by omega), show a + 9 - 9 = a by omega]
                        have q2 : sm (a + 1 + 9).toNat (fun i => bz (¬ o_at (v, p, sh, ln, pr, gd, co, c, s) ((i : Int) - 9) 1 = -105)) = (sm (a + 9).toNat (fun i => bz (¬ o_at (v, p, sh, ln, pr, gd, co, c, s) ((i : Int) - 9) 1 = -105))) + bz (¬ (o_at (v, p, sh, ln, pr, gd, co, c, s) a 1) = -105) := by
                          rw [show a + 1 + 9 = a + 9 + 1 by omega, sm_step (by omega)]
                          try dsimp only
                          rw [tn (by omega), show a + 9 - 9 = a by omega]
                        rw [← q1, ← q2]
                        first
                          | (rw [bt_or (v, p, sh, ln, pr, gd, co, c, s) (a := a) (by omega) (by omega)]; exact ih (a + 1) _ _ _ _ _ _ _ (by omega) J)
                          | (rw [bt_no (v, p, sh, ln, pr, gd, co, c, s) (a := a) (by omega) (by omega)]; exact ih (a + 1) _ _ _ _ _ _ _ (by omega) J)
                  · have hw1 : bz (¬ (o_at (v, p, sh, ln, pr, gd, co, c, s) a 1) = -105) = 1 := bz_t (by omega)
                    refine r_iconst (pc2 := 379) dL_isWell_378 rfl ?_
                    refine r_goto (tgt := 383) dL_isWell_379 (by decide) ?_
                    refine r_icmp_ne (pc2 := 386) (tgt := 396) dL_isWell_383 rfl (by decide) (by omega) (by omega) (fun h383 => ?_) (fun h383 => ?_)
                    · exfalso
                      omega
                    · refine r_iload (pc2 := 388) dL_isWell_386 rfl rfl ?_
                      refine r_iconst (pc2 := 389) dL_isWell_388 rfl ?_
                      refine r_icmp_eq (pc2 := 392) (tgt := 396) dL_isWell_389 rfl (by decide) (by omega) (by omega) (fun h389 => ?_) (fun h389 => ?_)
                      · exfalso
                        omega
                      · refine r_iconst (pc2 := 393) dL_isWell_392 rfl ?_
                        refine r_goto (tgt := 397) dL_isWell_393 (by decide) ?_
                        refine r_ist_6 (pc2 := 399) dL_isWell_397 rfl rfl ?_
                        refine r_iinc_7 (pc2 := 402) dL_isWell_399 rfl rfl ?_
                        refine r_goto (tgt := 21) dL_isWell_402 (by decide) ?_
                        have q1 : sm (a + 1 + 9).toNat (fun i => o_at (v, p, sh, ln, pr, gd, co, c, s) ((i : Int) - 9) 0) = (sm (a + 9).toNat (fun i => o_at (v, p, sh, ln, pr, gd, co, c, s) ((i : Int) - 9) 0)) + (o_at (v, p, sh, ln, pr, gd, co, c, s) a 0) := by
                          rw [show a + 1 + 9 = a + 9 + 1 by omega, sm_step (by omega)]
                          try dsimp only
                          rw [tn (by omega), show a + 9 - 9 = a by omega]
                        have q2 : sm (a + 1 + 9).toNat (fun i => bz (¬ o_at (v, p, sh, ln, pr, gd, co, c, s) ((i : Int) - 9) 1 = -105)) = (sm (a + 9).toNat (fun i => bz (¬ o_at (v, p, sh, ln, pr, gd, co, c, s) ((i : Int) - 9) 1 = -105))) + bz (¬ (o_at (v, p, sh, ln, pr, gd, co, c, s) a 1) = -105) := by
                          rw [show a + 1 + 9 = a + 9 + 1 by omega, sm_step (by omega)]
                          try dsimp only
                          rw [tn (by omega), show a + 9 - 9 = a by omega]
                        rw [← q1, ← q2]
                        first
                          | (rw [bt_or (v, p, sh, ln, pr, gd, co, c, s) (a := a) (by omega) (by omega)]; exact ih (a + 1) _ _ _ _ _ _ _ (by omega) J)
                          | (rw [bt_no (v, p, sh, ln, pr, gd, co, c, s) (a := a) (by omega) (by omega)]; exact ih (a + 1) _ _ _ _ _ _ _ (by omega) J)
            · refine r_iconst (pc2 := 290) dL_isWell_289 rfl ?_
              refine r_goto (tgt := 297) dL_isWell_290 (by decide) ?_
              refine r_zor (pc2 := 298) dL_isWell_297 rfl ?_
              refine r_ist_5 (pc2 := 300) dL_isWell_298 rfl rfl ?_
              refine r_iload (pc2 := 302) dL_isWell_300 rfl rfl ?_
              refine r_if_eq (pc2 := 305) (tgt := 396) dL_isWell_302 rfl (by decide) (by omega) (fun h302 => ?_) (fun h302 => ?_)
              · exfalso
                omega
              · refine r_aload_n (pc2 := 306) dL_isWell_305 rfl rfl ?_
                refine r_iload (pc2 := 308) dL_isWell_306 rfl rfl ?_
                refine r_iconst (pc2 := 309) dL_isWell_308 rfl ?_
                refine r_callv_2 (pc2 := 312) dL_isWell_309 rfl rs_99_83 rfl (by decide) rfl (Nat.le_of_ble_eq_true rfl) (Nat.le_of_ble_eq_true rfl) (by assumption) (by assumption) (ot_at J a 0 (by unfold RG; omega) (by unfold RG; omega)) (fun r_ w_ h_ => ?_)
                obtain ⟨e_, J⟩ := h_
                rw [e_]
                clear e_ r_
                have n_ := J.1
                obtain ⟨⟨z0, f0, z0w⟩, z33, f33, z33w⟩ := J.cells
                refine ⟨by omega, ?_⟩
                refine r_iload (pc2 := 314) dL_isWell_312 rfl rfl ?_
                refine r_same (pc2 := 317) dL_isWell_314 rfl (by decide) ?_
                refine r_aload_n (pc2 := 318) dL_isWell_317 rfl rfl ?_
                refine r_iload (pc2 := 320) dL_isWell_318 rfl rfl ?_
                refine r_iconst (pc2 := 321) dL_isWell_320 rfl ?_
                refine r_callv_2 (pc2 := 324) dL_isWell_321 rfl rs_99_83 rfl (by decide) rfl (Nat.le_of_ble_eq_true rfl) (Nat.le_of_ble_eq_true rfl) (by assumption) (by assumption) (ot_at J a 4 (by unfold RG; omega) (by unfold RG; omega)) (fun r_ w_ h_ => ?_)
                obtain ⟨e_, J⟩ := h_
                rw [e_]
                clear e_ r_
                have n_ := J.1
                obtain ⟨⟨z0, f0, z0w⟩, z33, f33, z33w⟩ := J.cells
                refine ⟨by omega, ?_⟩
                refine r_iload (pc2 := 326) dL_isWell_324 rfl rfl ?_
                refine r_same (pc2 := 329) dL_isWell_326 rfl (by decide) ?_
                refine r_iload (pc2 := 331) dL_isWell_329 rfl rfl ?_
                refine r_dia_ifCond_ne (A := 338) (B := 339) dL_isWell_331 (by decide) dL_isWell_334 dL_isWell_335 (by decide) dL_isWell_338 rfl (by omega) ?_
                refine r_iload (pc2 := 341) dL_isWell_339 rfl rfl ?_
                refine r_bipush (pc2 := 343) dL_isWell_341 rfl (by decide) ?_
                refine r_dia_if_icmp_ne (A := 350) (B := 351) dL_isWell_343 (by decide) dL_isWell_346 dL_isWell_347 (by decide) dL_isWell_350 rfl (by omega) (by omega) ?_
                rw [bz_iff x1]
                refine r_same (pc2 := 354) dL_isWell_351 rfl (by decide) ?_
                refine r_iload (pc2 := 356) dL_isWell_354 rfl rfl ?_
                refine r_bipush (pc2 := 358) dL_isWell_356 rfl (by decide) ?_
                refine r_dia_if_icmp_eq (A := 365) (B := 366) dL_isWell_358 (by decide) dL_isWell_361 dL_isWell_362 (by decide) dL_isWell_365 rfl (by omega) (by omega) ?_
                refine r_iload (pc2 := 368) dL_isWell_366 rfl rfl ?_
                refine r_bipush (pc2 := 370) dL_isWell_368 rfl (by decide) ?_
                refine r_icmp_ne (pc2 := 373) (tgt := 382) dL_isWell_370 rfl (by decide) (by omega) (by omega) (fun h370 => ?_) (fun h370 => ?_)
                · have hw1 : bz (¬ (o_at (v, p, sh, ln, pr, gd, co, c, s) a 1) = -105) = 0 := bz_f (by omega)
                  refine r_iconst (pc2 := 383) dL_isWell_382 rfl ?_
                  refine r_icmp_ne (pc2 := 386) (tgt := 396) dL_isWell_383 rfl (by decide) (by omega) (by omega) (fun h383 => ?_) (fun h383 => ?_)
                  · exfalso
                    omega
                  · refine r_iload (pc2 := 388) dL_isWell_386 rfl rfl ?_
                    refine r_iconst (pc2 := 389) dL_isWell_388 rfl ?_
                    refine r_icmp_eq (pc2 := 392) (tgt := 396) dL_isWell_389 rfl (by decide) (by omega) (by omega) (fun h389 => ?_) (fun h389 => ?_)
                    · exfalso
                      omega
                    · refine r_iconst (pc2 := 393) dL_isWell_392 rfl ?_
                      refine r_goto (tgt := 397) dL_isWell_393 (by decide) ?_
                      refine r_ist_6 (pc2 := 399) dL_isWell_397 rfl rfl ?_
                      refine r_iinc_7 (pc2 := 402) dL_isWell_399 rfl rfl ?_
                      refine r_goto (tgt := 21) dL_isWell_402 (by decide) ?_
                      have q1 : sm (a + 1 + 9).toNat (fun i => o_at (v, p, sh, ln, pr, gd, co, c, s) ((i : Int) - 9) 0) = (sm (a + 9).toNat (fun i => o_at (v, p, sh, ln, pr, gd, co, c, s) ((i : Int) - 9) 0)) + (o_at (v, p, sh, ln, pr, gd, co, c, s) a 0) := by
                        rw [show a + 1 + 9 = a + 9 + 1 by omega, sm_step (by omega)]
                        try dsimp only
                        rw [tn (by omega), show a + 9 - 9 = a by omega]
                      have q2 : sm (a + 1 + 9).toNat (fun i => bz (¬ o_at (v, p, sh, ln, pr, gd, co, c, s) ((i : Int) - 9) 1 = -105)) = (sm (a + 9).toNat (fun i => bz (¬ o_at (v, p, sh, ln, pr, gd, co, c, s) ((i : Int) - 9) 1 = -105))) + bz (¬ (o_at (v, p, sh, ln, pr, gd, co, c, s) a 1) = -105) := by
                        rw [show a + 1 + 9 = a + 9 + 1 by omega, sm_step (by omega)]
                        try dsimp only
                        rw [tn (by omega), show a + 9 - 9 = a by omega]
                      rw [← q1, ← q2]
                      first
                        | (rw [bt_or (v, p, sh, ln, pr, gd, co, c, s) (a := a) (by omega) (by omega)]; exact ih (a + 1) _ _ _ _ _ _ _ (by omega) J)
                        | (rw [bt_no (v, p, sh, ln, pr, gd, co, c, s) (a := a) (by omega) (by omega)]; exact ih (a + 1) _ _ _ _ _ _ _ (by omega) J)
                · refine r_iload (pc2 := 375) dL_isWell_373 rfl rfl ?_
                  refine r_if_ne (pc2 := 378) (tgt := 382) dL_isWell_375 rfl (by decide) (by omega) (fun h375 => ?_) (fun h375 => ?_)
                  · have hw1 : bz (¬ (o_at (v, p, sh, ln, pr, gd, co, c, s) a 1) = -105) = 0 := bz_f (by omega)
                    refine r_iconst (pc2 := 383) dL_isWell_382 rfl ?_
                    refine r_icmp_ne (pc2 := 386) (tgt := 396) dL_isWell_383 rfl (by decide) (by omega) (by omega) (fun h383 => ?_) (fun h383 => ?_)
                    · exfalso
                      omega
                    · refine r_iload (pc2 := 388) dL_isWell_386 rfl rfl ?_
                      refine r_iconst (pc2 := 389) dL_isWell_388 rfl ?_
                      refine r_icmp_eq (pc2 := 392) (tgt := 396) dL_isWell_389 rfl (by decide) (by omega) (by omega) (fun h389 => ?_) (fun h389 => ?_)
                      · exfalso
                        omega
                      · refine r_iconst (pc2 := 393) dL_isWell_392 rfl ?_
                        refine r_goto (tgt := 397) dL_isWell_393 (by decide) ?_
                        refine r_ist_6 (pc2 := 399) dL_isWell_397 rfl rfl ?_
                        refine r_iinc_7 (pc2 := 402) dL_isWell_399 rfl rfl ?_
                        refine r_goto (tgt := 21) dL_isWell_402 (by decide) ?_
                        have q1 : sm (a + 1 + 9).toNat (fun i => o_at (v, p, sh, ln, pr, gd, co, c, s) ((i : Int) - 9) 0) = (sm (a + 9).toNat (fun i => o_at (v, p, sh, ln, pr, gd, co, c, s) ((i : Int) - 9) 0)) + (o_at (v, p, sh, ln, pr, gd, co, c, s) a 0) := by
                          rw [show a + 1 + 9 = a + 9 + 1 by omega, sm_step (by omega)]
                          try dsimp only
                          rw [tn (by omega), show a + 9 - 9 = a by omega]
                        have q2 : sm (a + 1 + 9).toNat (fun i => bz (¬ o_at (v, p, sh, ln, pr, gd, co, c, s) ((i : Int) - 9) 1 = -105)) = (sm (a + 9).toNat (fun i => bz (¬ o_at (v, p, sh, ln, pr, gd, co, c, s) ((i : Int) - 9) 1 = -105))) + bz (¬ (o_at (v, p, sh, ln, pr, gd, co, c, s) a 1) = -105) := by
                          rw [show a + 1 + 9 = a + 9 + 1 by omega, sm_step (by omega)]
                          try dsimp only
                          rw [tn (by omega), show a + 9 - 9 = a by omega]
                        rw [← q1, ← q2]
                        first
                          | (rw [bt_or (v, p, sh, ln, pr, gd, co, c, s) (a := a) (by omega) (by omega)]; exact ih (a + 1) _ _ _ _ _ _ _ (by omega) J)
                          | (rw [bt_no (v, p, sh, ln, pr, gd, co, c, s) (a := a) (by omega) (by omega)]; exact ih (a + 1) _ _ _ _ _ _ _ (by omega) J)
                  · have hw1 : bz (¬ (o_at (v, p, sh, ln, pr, gd, co, c, s) a 1) = -105) = 1 := bz_t (by omega)
                    refine r_iconst (pc2 := 379) dL_isWell_378 rfl ?_
                    refine r_goto (tgt := 383) dL_isWell_379 (by decide) ?_
                    refine r_icmp_ne (pc2 := 386) (tgt := 396) dL_isWell_383 rfl (by decide) (by omega) (by omega) (fun h383 => ?_) (fun h383 => ?_)
                    · exfalso
                      omega
                    · refine r_iload (pc2 := 388) dL_isWell_386 rfl rfl ?_
                      refine r_iconst (pc2 := 389) dL_isWell_388 rfl ?_
                      refine r_icmp_eq (pc2 := 392) (tgt := 396) dL_isWell_389 rfl (by decide) (by omega) (by omega) (fun h389 => ?_) (fun h389 => ?_)
                      · exfalso
                        omega
                      · refine r_iconst (pc2 := 393) dL_isWell_392 rfl ?_
                        refine r_goto (tgt := 397) dL_isWell_393 (by decide) ?_
                        refine r_ist_6 (pc2 := 399) dL_isWell_397 rfl rfl ?_
                        refine r_iinc_7 (pc2 := 402) dL_isWell_399 rfl rfl ?_
                        refine r_goto (tgt := 21) dL_isWell_402 (by decide) ?_
                        have q1 : sm (a + 1 + 9).toNat (fun i => o_at (v, p, sh, ln, pr, gd, co, c, s) ((i : Int) - 9) 0) = (sm (a + 9).toNat (fun i => o_at (v, p, sh, ln, pr, gd, co, c, s) ((i : Int) - 9) 0)) + (o_at (v, p, sh, ln, pr, gd, co, c, s) a 0) := by
                          rw [show a + 1 + 9 = a + 9 + 1 by omega, sm_step (by omega)]
                          try dsimp only
                          rw [tn (by omega), show a + 9 - 9 = a by omega]
                        have q2 : sm (a + 1 + 9).toNat (fun i => bz (¬ o_at (v, p, sh, ln, pr, gd, co, c, s) ((i : Int) - 9) 1 = -105)) = (sm (a + 9).toNat (fun i => bz (¬ o_at (v, p, sh, ln, pr, gd, co, c, s) ((i : Int) - 9) 1 = -105))) + bz (¬ (o_at (v, p, sh, ln, pr, gd, co, c, s) a 1) = -105) := by
                          rw [show a + 1 + 9 = a + 9 + 1 by omega, sm_step (by omega)]
                          try dsimp only
                          rw [tn (by omega), show a + 9 - 9 = a by omega]
                        rw [← q1, ← q2]
                        first
                          | (rw [bt_or (v, p, sh, ln, pr, gd, co, c, s) (a := a) (by omega) (by omega)]; exact ih (a + 1) _ _ _ _ _ _ _ (by omega) J)
                          | (rw [bt_no (v, p, sh, ln, pr, gd, co, c, s) (a := a) (by omega) (by omega)]; exact ih (a + 1) _ _ _ _ _ _ _ (by omega) J)
          have inr : ∀ (n2 : Nat) (r : Int) (wk : av_W) (b12 : Option Value) (b13 : Option Value), (0 ≤ r ∧ r ≤ 12 ∧ 13 ≤ r + n2) → (JJ sc wk (v, p, sh, ln, pr, gd, co, c, s) U len len2 t t2) → rn ML_isWell 45 [some (.ref 0), some (.int (iN x)), some (.int (iN p)), some (.int (iN (sm (a + 9).toNat (fun i => o_at (v, p, sh, ln, pr, gd, co, c, s) ((i : Int) - 9) 0)))), some (.int (iN (sm (a + 9).toNat (fun i => bz (¬ o_at (v, p, sh, ln, pr, gd, co, c, s) ((i : Int) - 9) 1 = -105))))), some (.int (iN (btB (v, p, sh, ln, pr, gd, co, c, s) (a + 9).toNat))), some (.int (iN 1)), some (.int (iN a)), some (.int (iN (sm r.toNat (fun i => o_seen (v, p, sh, ln, pr, gd, co, c, s) a (i : Int) 3)))), some (.int (iN (sm r.toNat (fun i => bz (o_seen (v, p, sh, ln, pr, gd, co, c, s) a (i : Int) 0 = -105))))), some (.int (iN (sm r.toNat (fun i => bz (o_seen (v, p, sh, ln, pr, gd, co, c, s) a (i : Int) 0 = o_seen (v, p, sh, ln, pr, gd, co, c, s) a 0 0))))), some (.int (iN r)), b12, b13] [] wk (fun r' w' => r' = some (.int (iN 1)) ∧ JJ sc w' (v, p, sh, ln, pr, gd, co, c, s) U len len2 t t2) := by
            intro n2
            induction n2 with
            | zero =>
              intro r wk b12 b13 hj0 hj1
              exfalso
              omega
            | succ n2 ih2 =>
              intro r wk b12 b13 hj0 hj1
              have J := hj1
              have n_ := J.1
              obtain ⟨⟨z0, f0, z0w⟩, z33, f33, z33w⟩ := J.cells
              refine r_iload (pc2 := 47) dL_isWell_45 rfl rfl ?_
              refine r_bipush (pc2 := 49) dL_isWell_47 rfl (by decide) ?_
              refine r_icmp_ge (pc2 := 52) (tgt := 249) dL_isWell_49 rfl (by decide) (by omega) (by omega) (fun h49 => ?_) (fun h49 => ?_)
              · exact kont r _ _ _ (by omega) J
              · have hr : 0 ≤ r ∧ r ≤ 11 := by omega
                have m2 := w_place (v := v) (sh := sh) (ln := ln) (pr := pr) (gd := gd) (co := co) (c := c) (s := s) k2 ha9 hr
                have m0 := (b_seen0 (sh := sh) (ln := ln) (pr := pr) (gd := gd) (co := co) (c := c) (c2 := c) (s2 := fun j => v - 1 - s j) k1 k2 k5 (fun j _ => rfl) ha9 hr).2
                have m00 := (b_seen0 (sh := sh) (ln := ln) (pr := pr) (gd := gd) (co := co) (c := c) (c2 := c) (s2 := fun j => v - 1 - s j) k1 k2 k5 (fun j _ => rfl) ha9 (show 0 ≤ (0 : Int) ∧ (0 : Int) ≤ 11 by omega)).2
                have mb0 := w_b0 (v := v) (sh := sh) (ln := ln) (pr := pr) (gd := gd) (co := co) (c := c) (s := s) k2 ha9 hr
                have mb1 := w_b1 (v := v) (sh := sh) (ln := ln) (pr := pr) (gd := gd) (co := co) (c := c) (s := s) k2 ha9 hr
                refine r_iload (pc2 := 54) dL_isWell_52 rfl rfl ?_
                refine r_if_eq (pc2 := 57) (tgt := 249) dL_isWell_54 rfl (by decide) (by omega) (fun h54 => ?_) (fun h54 => ?_)
                · exfalso
                  omega
                · refine r_aload_n (pc2 := 58) dL_isWell_57 rfl rfl ?_
                  refine r_iload (pc2 := 60) dL_isWell_58 rfl rfl ?_
                  refine r_iload (pc2 := 62) dL_isWell_60 rfl rfl ?_
                  refine r_iconst (pc2 := 63) dL_isWell_62 rfl ?_
                  refine r_callv_3 (pc2 := 66) dL_isWell_63 rfl rs_99_86 rfl (by decide) rfl (Nat.le_of_ble_eq_true rfl) (Nat.le_of_ble_eq_true rfl) (by assumption) (by assumption) (ot_seen J (a) (r) 2 (by unfold RG; omega) (by unfold RG; omega) (by unfold RG; omega)) (fun r_ w_ h_ => ?_)
                  obtain ⟨e_, J⟩ := h_
                  rw [e_]
                  clear e_ r_
                  have n_ := J.1
                  obtain ⟨⟨z0, f0, z0w⟩, z33, f33, z33w⟩ := J.cells
                  refine ⟨by omega, ?_⟩
                  refine r_ist_12 (pc2 := 68) dL_isWell_66 rfl rfl ?_
                  refine r_aload_n (pc2 := 69) dL_isWell_68 rfl rfl ?_
                  refine r_iload (pc2 := 71) dL_isWell_69 rfl rfl ?_
                  refine r_iload (pc2 := 73) dL_isWell_71 rfl rfl ?_
                  refine r_iconst (pc2 := 74) dL_isWell_73 rfl ?_
                  refine r_callv_3 (pc2 := 77) dL_isWell_74 rfl rs_99_86 rfl (by decide) rfl (Nat.le_of_ble_eq_true rfl) (Nat.le_of_ble_eq_true rfl) (by assumption) (by assumption) (ot_seen J (a) (r) 0 (by unfold RG; omega) (by unfold RG; omega) (by unfold RG; omega)) (fun r_ w_ h_ => ?_)
                  obtain ⟨e_, J⟩ := h_
                  rw [e_]
                  clear e_ r_
                  have n_ := J.1
                  obtain ⟨⟨z0, f0, z0w⟩, z33, f33, z33w⟩ := J.cells
                  refine ⟨by omega, ?_⟩
                  refine r_ist_13 (pc2 := 79) dL_isWell_77 rfl rfl ?_
                  refine r_iload (pc2 := 81) dL_isWell_79 rfl rfl ?_
                  refine r_aload_n (pc2 := 82) dL_isWell_81 rfl rfl ?_
                  refine r_iload (pc2 := 84) dL_isWell_82 rfl rfl ?_
                  refine r_iload (pc2 := 86) dL_isWell_84 rfl rfl ?_
                  refine r_iconst (pc2 := 87) dL_isWell_86 rfl ?_
                  refine r_callv_3 (pc2 := 90) dL_isWell_87 rfl rs_99_86 rfl (by decide) rfl (Nat.le_of_ble_eq_true rfl) (Nat.le_of_ble_eq_true rfl) (by assumption) (by assumption) (ot_seen J (a) (r) 3 (by unfold RG; omega) (by unfold RG; omega) (by unfold RG; omega)) (fun r_ w_ h_ => ?_)
                  obtain ⟨e_, J⟩ := h_
                  rw [e_]
                  clear e_ r_
                  have n_ := J.1
                  obtain ⟨⟨z0, f0, z0w⟩, z33, f33, z33w⟩ := J.cells
                  refine ⟨by omega, ?_⟩
                  refine r_iadd (pc2 := 91) dL_isWell_90 rfl ?_
                  refine r_ist_8 (pc2 := 93) dL_isWell_91 rfl rfl ?_
                  refine r_iload (pc2 := 95) dL_isWell_93 rfl rfl ?_
                  refine r_iload (pc2 := 97) dL_isWell_95 rfl rfl ?_
                  refine r_bipush (pc2 := 99) dL_isWell_97 rfl (by decide) ?_
                  refine r_dia_if_icmp_ne (A := 106) (B := 107) dL_isWell_99 (by decide) dL_isWell_102 dL_isWell_103 (by decide) dL_isWell_106 rfl (by omega) (by omega) ?_
                  refine r_iadd (pc2 := 108) dL_isWell_107 rfl ?_
                  refine r_ist_9 (pc2 := 110) dL_isWell_108 rfl rfl ?_
                  refine r_iload (pc2 := 112) dL_isWell_110 rfl rfl ?_
                  refine r_iload (pc2 := 114) dL_isWell_112 rfl rfl ?_
                  refine r_aload_n (pc2 := 115) dL_isWell_114 rfl rfl ?_
                  refine r_iload (pc2 := 117) dL_isWell_115 rfl rfl ?_
                  refine r_iconst (pc2 := 118) dL_isWell_117 rfl ?_
                  refine r_iconst (pc2 := 119) dL_isWell_118 rfl ?_
                  refine r_callv_3 (pc2 := 122) dL_isWell_119 rfl rs_99_86 rfl (by decide) rfl (Nat.le_of_ble_eq_true rfl) (Nat.le_of_ble_eq_true rfl) (by assumption) (by assumption) (ot_seen J (a) (0) 0 (by unfold RG; omega) (by unfold RG; omega) (by unfold RG; omega)) (fun r_ w_ h_ => ?_)
                  obtain ⟨e_, J⟩ := h_
                  rw [e_]
                  clear e_ r_
                  have n_ := J.1
                  obtain ⟨⟨z0, f0, z0w⟩, z33, f33, z33w⟩ := J.cells
                  refine ⟨by omega, ?_⟩
                  refine r_dia_if_icmp_ne (A := 129) (B := 130) dL_isWell_122 (by decide) dL_isWell_125 dL_isWell_126 (by decide) dL_isWell_129 rfl (by omega) (by omega) ?_
                  refine r_iadd (pc2 := 131) dL_isWell_130 rfl ?_
                  refine r_ist_10 (pc2 := 133) dL_isWell_131 rfl rfl ?_
                  refine r_iload (pc2 := 135) dL_isWell_133 rfl rfl ?_
                  refine r_if_lt (pc2 := 138) (tgt := 240) dL_isWell_135 rfl (by decide) (by omega) (fun h135 => ?_) (fun h135 => ?_)
                  · exfalso
                    omega
                  · refine r_iload (pc2 := 140) dL_isWell_138 rfl rfl ?_
                    refine r_iload_n (pc2 := 141) dL_isWell_140 rfl rfl ?_
                    refine r_icmp_ge (pc2 := 144) (tgt := 240) dL_isWell_141 rfl (by decide) (by omega) (by omega) (fun h141 => ?_) (fun h141 => ?_)
                    · exfalso
                      omega
                    · refine r_aload_n (pc2 := 145) dL_isWell_144 rfl rfl ?_
                      refine r_iload (pc2 := 147) dL_isWell_145 rfl rfl ?_
                      refine r_iload (pc2 := 149) dL_isWell_147 rfl rfl ?_
                      refine r_iconst (pc2 := 150) dL_isWell_149 rfl ?_
                      refine r_callv_3 (pc2 := 153) dL_isWell_150 rfl rs_99_92 rfl (by decide) rfl (Nat.le_of_ble_eq_true rfl) (Nat.le_of_ble_eq_true rfl) (by assumption) (by assumption) (ot_behind J r (o_seen (v, p, sh, ln, pr, gd, co, c, s) a r 2) 0 (by unfold RG; omega) (by unfold RG; omega) (by unfold RG; omega)) (fun r_ w_ h_ => ?_)
                      obtain ⟨e_, J⟩ := h_
                      rw [e_, mb0]
                      clear e_ r_
                      have n_ := J.1
                      obtain ⟨⟨z0, f0, z0w⟩, z33, f33, z33w⟩ := J.cells
                      refine ⟨by omega, ?_⟩
                      refine r_iload (pc2 := 155) dL_isWell_153 rfl rfl ?_
                      refine r_same (pc2 := 158) dL_isWell_155 rfl (by decide) ?_
                      refine r_aload_n (pc2 := 159) dL_isWell_158 rfl rfl ?_
                      refine r_iload (pc2 := 161) dL_isWell_159 rfl rfl ?_
                      refine r_iload (pc2 := 163) dL_isWell_161 rfl rfl ?_
                      refine r_iconst (pc2 := 164) dL_isWell_163 rfl ?_
                      refine r_callv_3 (pc2 := 167) dL_isWell_164 rfl rs_99_92 rfl (by decide) rfl (Nat.le_of_ble_eq_true rfl) (Nat.le_of_ble_eq_true rfl) (by assumption) (by assumption) (ot_behind J r (o_seen (v, p, sh, ln, pr, gd, co, c, s) a r 2) 1 (by unfold RG; omega) (by unfold RG; omega) (by unfold RG; omega)) (fun r_ w_ h_ => ?_)
                      obtain ⟨e_, J⟩ := h_
                      rw [e_, mb1]
                      clear e_ r_
                      have n_ := J.1
                      obtain ⟨⟨z0, f0, z0w⟩, z33, f33, z33w⟩ := J.cells
                      refine ⟨by omega, ?_⟩
                      refine r_aload_n (pc2 := 168) dL_isWell_167 rfl rfl ?_
                      refine r_iload (pc2 := 170) dL_isWell_168 rfl rfl ?_
                      refine r_iload (pc2 := 172) dL_isWell_170 rfl rfl ?_
                      refine r_iconst (pc2 := 173) dL_isWell_172 rfl ?_
                      refine r_callv_3 (pc2 := 176) dL_isWell_173 rfl rs_99_86 rfl (by decide) rfl (Nat.le_of_ble_eq_true rfl) (Nat.le_of_ble_eq_true rfl) (by assumption) (by assumption) (ot_seen J (a) (r) 1 (by unfold RG; omega) (by unfold RG; omega) (by unfold RG; omega)) (fun r_ w_ h_ => ?_)
                      obtain ⟨e_, J⟩ := h_
                      rw [e_]
                      clear e_ r_
                      have n_ := J.1
                      obtain ⟨⟨z0, f0, z0w⟩, z33, f33, z33w⟩ := J.cells
                      refine ⟨by omega, ?_⟩
                      refine r_same (pc2 := 179) dL_isWell_176 rfl (by decide) ?_
                      refine r_iload (pc2 := 181) dL_isWell_179 rfl rfl ?_
                      refine r_bipush (pc2 := 183) dL_isWell_181 rfl (by decide) ?_
                      refine r_icmp_eq (pc2 := 186) (tgt := 202) dL_isWell_183 rfl (by decide) (by omega) (by omega) (fun h183 => ?_) (fun h183 => ?_)
                      · refine r_iload (pc2 := 204) dL_isWell_202 rfl rfl ?_
                        refine r_bipush (pc2 := 206) dL_isWell_204 rfl (by decide) ?_
                        refine r_icmp_eq (pc2 := 209) (tgt := 236) dL_isWell_206 rfl (by decide) (by omega) (by omega) (fun h206 => ?_) (fun h206 => ?_)
                        · refine r_iconst (pc2 := 237) dL_isWell_236 rfl ?_
                          refine r_goto (tgt := 241) dL_isWell_237 (by decide) ?_
                          refine r_ist_6 (pc2 := 243) dL_isWell_241 rfl rfl ?_
                          refine r_iinc_11 (pc2 := 246) dL_isWell_243 rfl rfl ?_
                          refine r_goto (tgt := 45) dL_isWell_246 (by decide) ?_
                          have s1 : sm (r + 1).toNat (fun i => o_seen (v, p, sh, ln, pr, gd, co, c, s) a (i : Int) 3) = (sm r.toNat (fun i => o_seen (v, p, sh, ln, pr, gd, co, c, s) a (i : Int) 3)) + o_seen (v, p, sh, ln, pr, gd, co, c, s) a r 3 := (sm_step hr.1 _).trans (by rw [tn hr.1])
                          have s2 : sm (r + 1).toNat (fun i => bz (o_seen (v, p, sh, ln, pr, gd, co, c, s) a (i : Int) 0 = -105)) = (sm r.toNat (fun i => bz (o_seen (v, p, sh, ln, pr, gd, co, c, s) a (i : Int) 0 = -105))) + bz (o_seen (v, p, sh, ln, pr, gd, co, c, s) a r 0 = -105) := (sm_step hr.1 _).trans (by rw [tn hr.1])
                          have s3 : sm (r + 1).toNat (fun i => bz (o_seen (v, p, sh, ln, pr, gd, co, c, s) a (i : Int) 0 = o_seen (v, p, sh, ln, pr, gd, co, c, s) a 0 0)) = (sm r.toNat (fun i => bz (o_seen (v, p, sh, ln, pr, gd, co, c, s) a (i : Int) 0 = o_seen (v, p, sh, ln, pr, gd, co, c, s) a 0 0))) + bz (o_seen (v, p, sh, ln, pr, gd, co, c, s) a r 0 = o_seen (v, p, sh, ln, pr, gd, co, c, s) a 0 0) := (sm_step hr.1 _).trans (by rw [tn hr.1])
                          rw [← s1, ← s2, ← s3]
                          exact ih2 (r + 1) _ _ _ (by omega) J
                        · have mcol := w_col (sh := sh) (ln := ln) (pr := pr) (gd := gd) (co := co) (c := c) (s := s) k1 k2 k5 k6 ha9 hr h206
                          rw [w_b2 k2 hr m2] at mcol
                          refine r_aload_n (pc2 := 210) dL_isWell_209 rfl rfl ?_
                          refine r_iload (pc2 := 212) dL_isWell_210 rfl rfl ?_
                          refine r_iload (pc2 := 214) dL_isWell_212 rfl rfl ?_
                          refine r_iconst (pc2 := 215) dL_isWell_214 rfl ?_
                          refine r_callv_3 (pc2 := 218) dL_isWell_215 rfl rs_99_86 rfl (by decide) rfl (Nat.le_of_ble_eq_true rfl) (Nat.le_of_ble_eq_true rfl) (by assumption) (by assumption) (ot_seen J (a) (r) 1 (by unfold RG; omega) (by unfold RG; omega) (by unfold RG; omega)) (fun r_ w_ h_ => ?_)
                          obtain ⟨e_, J⟩ := h_
                          rw [e_]
                          clear e_ r_
                          have n_ := J.1
                          obtain ⟨⟨z0, f0, z0w⟩, z33, f33, z33w⟩ := J.cells
                          refine ⟨by omega, ?_⟩
                          refine r_aload_n (pc2 := 219) dL_isWell_218 rfl rfl ?_
                          refine r_iload (pc2 := 221) dL_isWell_219 rfl rfl ?_
                          refine r_aload_n (pc2 := 222) dL_isWell_221 rfl rfl ?_
                          refine r_iload (pc2 := 224) dL_isWell_222 rfl rfl ?_
                          refine r_iload (pc2 := 226) dL_isWell_224 rfl rfl ?_
                          refine r_iconst (pc2 := 227) dL_isWell_226 rfl ?_
                          refine r_callv_3 (pc2 := 230) dL_isWell_227 rfl rs_99_92 rfl (by decide) rfl (Nat.le_of_ble_eq_true rfl) (Nat.le_of_ble_eq_true rfl) (by assumption) (by assumption) (ot_behind J r (o_seen (v, p, sh, ln, pr, gd, co, c, s) a r 2) 2 (by unfold RG; omega) (by unfold RG; omega) (by unfold RG; omega)) (fun r_ w_ h_ => ?_)
                          obtain ⟨e_, J⟩ := h_
                          rw [e_, w_b2 k2 hr m2]
                          clear e_ r_
                          have n_ := J.1
                          obtain ⟨⟨z0, f0, z0w⟩, z33, f33, z33w⟩ := J.cells
                          refine ⟨by omega, ?_⟩
                          have z2 := rdZ_rg (sh := sh) (r := r) (pl := (o_seen (v, p, sh, ln, pr, gd, co, c, s) a r 2)) k2
                          have z3 := nn_rg (x := rdZ p sh r (o_seen (v, p, sh, ln, pr, gd, co, c, s) a r 2)) (by omega)
                          refine r_callv_2 (pc2 := 233) dL_isWell_230 rfl rs_99_42 rfl (by decide) rfl (Nat.le_of_ble_eq_true rfl) (Nat.le_of_ble_eq_true rfl) (by assumption) (by assumption) (ot_colourOf J (o_seen (v, p, sh, ln, pr, gd, co, c, s) a r 0) _ (by unfold RG; omega) (by unfold RG; omega)) (fun r_ w_ h_ => ?_)
                          obtain ⟨e_, J⟩ := h_
                          rw [e_, mcol]
                          clear e_ r_
                          have n_ := J.1
                          obtain ⟨⟨z0, f0, z0w⟩, z33, f33, z33w⟩ := J.cells
                          refine ⟨by omega, ?_⟩
                          refine r_same (pc2 := 236) dL_isWell_233 rfl (by decide) ?_
                          refine r_iconst (pc2 := 237) dL_isWell_236 rfl ?_
                          refine r_goto (tgt := 241) dL_isWell_237 (by decide) ?_
                          refine r_ist_6 (pc2 := 243) dL_isWell_241 rfl rfl ?_
                          refine r_iinc_11 (pc2 := 246) dL_isWell_243 rfl rfl ?_
                          refine r_goto (tgt := 45) dL_isWell_246 (by decide) ?_
                          have s1 : sm (r + 1).toNat (fun i => o_seen (v, p, sh, ln, pr, gd, co, c, s) a (i : Int) 3) = (sm r.toNat (fun i => o_seen (v, p, sh, ln, pr, gd, co, c, s) a (i : Int) 3)) + o_seen (v, p, sh, ln, pr, gd, co, c, s) a r 3 := (sm_step hr.1 _).trans (by rw [tn hr.1])
                          have s2 : sm (r + 1).toNat (fun i => bz (o_seen (v, p, sh, ln, pr, gd, co, c, s) a (i : Int) 0 = -105)) = (sm r.toNat (fun i => bz (o_seen (v, p, sh, ln, pr, gd, co, c, s) a (i : Int) 0 = -105))) + bz (o_seen (v, p, sh, ln, pr, gd, co, c, s) a r 0 = -105) := (sm_step hr.1 _).trans (by rw [tn hr.1])
                          have s3 : sm (r + 1).toNat (fun i => bz (o_seen (v, p, sh, ln, pr, gd, co, c, s) a (i : Int) 0 = o_seen (v, p, sh, ln, pr, gd, co, c, s) a 0 0)) = (sm r.toNat (fun i => bz (o_seen (v, p, sh, ln, pr, gd, co, c, s) a (i : Int) 0 = o_seen (v, p, sh, ln, pr, gd, co, c, s) a 0 0))) + bz (o_seen (v, p, sh, ln, pr, gd, co, c, s) a r 0 = o_seen (v, p, sh, ln, pr, gd, co, c, s) a 0 0) := (sm_step hr.1 _).trans (by rw [tn hr.1])
                          rw [← s1, ← s2, ← s3]
                          exact ih2 (r + 1) _ _ _ (by omega) J
                      · refine r_iload (pc2 := 188) dL_isWell_186 rfl rfl ?_
                        refine r_aload_n (pc2 := 189) dL_isWell_188 rfl rfl ?_
                        refine r_iload (pc2 := 191) dL_isWell_189 rfl rfl ?_
                        refine r_iconst (pc2 := 192) dL_isWell_191 rfl ?_
                        refine r_isub (pc2 := 193) dL_isWell_192 rfl ?_
                        refine r_iload (pc2 := 195) dL_isWell_193 rfl rfl ?_
                        refine r_iconst (pc2 := 196) dL_isWell_195 rfl ?_
                        refine r_callv_3 (pc2 := 199) dL_isWell_196 rfl rs_99_86 rfl (by decide) rfl (Nat.le_of_ble_eq_true rfl) (Nat.le_of_ble_eq_true rfl) (by assumption) (by assumption) (ot_seen J (a - 1) (r) 2 (by unfold RG; omega) (by unfold RG; omega) (by unfold RG; omega)) (fun r_ w_ h_ => ?_)
                        have mm := w_mono (v := v) (sh := sh) (ln := ln) (pr := pr) (gd := gd) (co := co) (c := c) (s := s) k2 (a := a) (b := r) (by omega) hr
                        have mp := w_place (v := v) (sh := sh) (ln := ln) (pr := pr) (gd := gd) (co := co) (c := c) (s := s) k2 (a := a - 1) (by omega) hr
                        obtain ⟨e_, J⟩ := h_
                        rw [e_]
                        clear e_ r_
                        have n_ := J.1
                        obtain ⟨⟨z0, f0, z0w⟩, z33, f33, z33w⟩ := J.cells
                        refine ⟨by omega, ?_⟩
                        refine r_icmp_lt (pc2 := 202) (tgt := 240) dL_isWell_199 rfl (by decide) (by omega) (by omega) (fun h199 => ?_) (fun h199 => ?_)
                        · exfalso
                          omega
                        · refine r_iload (pc2 := 204) dL_isWell_202 rfl rfl ?_
                          refine r_bipush (pc2 := 206) dL_isWell_204 rfl (by decide) ?_
                          refine r_icmp_eq (pc2 := 209) (tgt := 236) dL_isWell_206 rfl (by decide) (by omega) (by omega) (fun h206 => ?_) (fun h206 => ?_)
                          · refine r_iconst (pc2 := 237) dL_isWell_236 rfl ?_
                            refine r_goto (tgt := 241) dL_isWell_237 (by decide) ?_
                            refine r_ist_6 (pc2 := 243) dL_isWell_241 rfl rfl ?_
                            refine r_iinc_11 (pc2 := 246) dL_isWell_243 rfl rfl ?_
                            refine r_goto (tgt := 45) dL_isWell_246 (by decide) ?_
                            have s1 : sm (r + 1).toNat (fun i => o_seen (v, p, sh, ln, pr, gd, co, c, s) a (i : Int) 3) = (sm r.toNat (fun i => o_seen (v, p, sh, ln, pr, gd, co, c, s) a (i : Int) 3)) + o_seen (v, p, sh, ln, pr, gd, co, c, s) a r 3 := (sm_step hr.1 _).trans (by rw [tn hr.1])
                            have s2 : sm (r + 1).toNat (fun i => bz (o_seen (v, p, sh, ln, pr, gd, co, c, s) a (i : Int) 0 = -105)) = (sm r.toNat (fun i => bz (o_seen (v, p, sh, ln, pr, gd, co, c, s) a (i : Int) 0 = -105))) + bz (o_seen (v, p, sh, ln, pr, gd, co, c, s) a r 0 = -105) := (sm_step hr.1 _).trans (by rw [tn hr.1])
                            have s3 : sm (r + 1).toNat (fun i => bz (o_seen (v, p, sh, ln, pr, gd, co, c, s) a (i : Int) 0 = o_seen (v, p, sh, ln, pr, gd, co, c, s) a 0 0)) = (sm r.toNat (fun i => bz (o_seen (v, p, sh, ln, pr, gd, co, c, s) a (i : Int) 0 = o_seen (v, p, sh, ln, pr, gd, co, c, s) a 0 0))) + bz (o_seen (v, p, sh, ln, pr, gd, co, c, s) a r 0 = o_seen (v, p, sh, ln, pr, gd, co, c, s) a 0 0) := (sm_step hr.1 _).trans (by rw [tn hr.1])
                            rw [← s1, ← s2, ← s3]
                            exact ih2 (r + 1) _ _ _ (by omega) J
                          · have mcol := w_col (sh := sh) (ln := ln) (pr := pr) (gd := gd) (co := co) (c := c) (s := s) k1 k2 k5 k6 ha9 hr h206
                            rw [w_b2 k2 hr m2] at mcol
                            refine r_aload_n (pc2 := 210) dL_isWell_209 rfl rfl ?_
                            refine r_iload (pc2 := 212) dL_isWell_210 rfl rfl ?_
                            refine r_iload (pc2 := 214) dL_isWell_212 rfl rfl ?_
                            refine r_iconst (pc2 := 215) dL_isWell_214 rfl ?_
                            refine r_callv_3 (pc2 := 218) dL_isWell_215 rfl rs_99_86 rfl (by decide) rfl (Nat.le_of_ble_eq_true rfl) (Nat.le_of_ble_eq_true rfl) (by assumption) (by assumption) (ot_seen J (a) (r) 1 (by unfold RG; omega) (by unfold RG; omega) (by unfold RG; omega)) (fun r_ w_ h_ => ?_)
                            obtain ⟨e_, J⟩ := h_
                            rw [e_]
                            clear e_ r_
                            have n_ := J.1
                            obtain ⟨⟨z0, f0, z0w⟩, z33, f33, z33w⟩ := J.cells
                            refine ⟨by omega, ?_⟩
                            refine r_aload_n (pc2 := 219) dL_isWell_218 rfl rfl ?_
                            refine r_iload (pc2 := 221) dL_isWell_219 rfl rfl ?_
                            refine r_aload_n (pc2 := 222) dL_isWell_221 rfl rfl ?_
                            refine r_iload (pc2 := 224) dL_isWell_222 rfl rfl ?_
                            refine r_iload (pc2 := 226) dL_isWell_224 rfl rfl ?_
                            refine r_iconst (pc2 := 227) dL_isWell_226 rfl ?_
                            refine r_callv_3 (pc2 := 230) dL_isWell_227 rfl rs_99_92 rfl (by decide) rfl (Nat.le_of_ble_eq_true rfl) (Nat.le_of_ble_eq_true rfl) (by assumption) (by assumption) (ot_behind J r (o_seen (v, p, sh, ln, pr, gd, co, c, s) a r 2) 2 (by unfold RG; omega) (by unfold RG; omega) (by unfold RG; omega)) (fun r_ w_ h_ => ?_)
                            obtain ⟨e_, J⟩ := h_
                            rw [e_, w_b2 k2 hr m2]
                            clear e_ r_
                            have n_ := J.1
                            obtain ⟨⟨z0, f0, z0w⟩, z33, f33, z33w⟩ := J.cells
                            refine ⟨by omega, ?_⟩
                            have z2 := rdZ_rg (sh := sh) (r := r) (pl := (o_seen (v, p, sh, ln, pr, gd, co, c, s) a r 2)) k2
                            have z3 := nn_rg (x := rdZ p sh r (o_seen (v, p, sh, ln, pr, gd, co, c, s) a r 2)) (by omega)
                            refine r_callv_2 (pc2 := 233) dL_isWell_230 rfl rs_99_42 rfl (by decide) rfl (Nat.le_of_ble_eq_true rfl) (Nat.le_of_ble_eq_true rfl) (by assumption) (by assumption) (ot_colourOf J (o_seen (v, p, sh, ln, pr, gd, co, c, s) a r 0) _ (by unfold RG; omega) (by unfold RG; omega)) (fun r_ w_ h_ => ?_)
                            obtain ⟨e_, J⟩ := h_
                            rw [e_, mcol]
                            clear e_ r_
                            have n_ := J.1
                            obtain ⟨⟨z0, f0, z0w⟩, z33, f33, z33w⟩ := J.cells
                            refine ⟨by omega, ?_⟩
                            refine r_same (pc2 := 236) dL_isWell_233 rfl (by decide) ?_
                            refine r_iconst (pc2 := 237) dL_isWell_236 rfl ?_
                            refine r_goto (tgt := 241) dL_isWell_237 (by decide) ?_
                            refine r_ist_6 (pc2 := 243) dL_isWell_241 rfl rfl ?_
                            refine r_iinc_11 (pc2 := 246) dL_isWell_243 rfl rfl ?_
                            refine r_goto (tgt := 45) dL_isWell_246 (by decide) ?_
                            have s1 : sm (r + 1).toNat (fun i => o_seen (v, p, sh, ln, pr, gd, co, c, s) a (i : Int) 3) = (sm r.toNat (fun i => o_seen (v, p, sh, ln, pr, gd, co, c, s) a (i : Int) 3)) + o_seen (v, p, sh, ln, pr, gd, co, c, s) a r 3 := (sm_step hr.1 _).trans (by rw [tn hr.1])
                            have s2 : sm (r + 1).toNat (fun i => bz (o_seen (v, p, sh, ln, pr, gd, co, c, s) a (i : Int) 0 = -105)) = (sm r.toNat (fun i => bz (o_seen (v, p, sh, ln, pr, gd, co, c, s) a (i : Int) 0 = -105))) + bz (o_seen (v, p, sh, ln, pr, gd, co, c, s) a r 0 = -105) := (sm_step hr.1 _).trans (by rw [tn hr.1])
                            have s3 : sm (r + 1).toNat (fun i => bz (o_seen (v, p, sh, ln, pr, gd, co, c, s) a (i : Int) 0 = o_seen (v, p, sh, ln, pr, gd, co, c, s) a 0 0)) = (sm r.toNat (fun i => bz (o_seen (v, p, sh, ln, pr, gd, co, c, s) a (i : Int) 0 = o_seen (v, p, sh, ln, pr, gd, co, c, s) a 0 0))) + bz (o_seen (v, p, sh, ln, pr, gd, co, c, s) a r 0 = o_seen (v, p, sh, ln, pr, gd, co, c, s) a 0 0) := (sm_step hr.1 _).trans (by rw [tn hr.1])
                            rw [← s1, ← s2, ← s3]
                            exact ih2 (r + 1) _ _ _ (by omega) J
          exact inr 13 0 _ _ _ (by omega) J
  refine r_aload_n (pc2 := 1) dL_isWell_0 rfl rfl ?_
  refine r_iconst (pc2 := 2) dL_isWell_1 rfl ?_
  refine r_callv_1 (pc2 := 5) dL_isWell_2 rfl rs_99_9 rfl (by decide) rfl (Nat.le_of_ble_eq_true rfl) (Nat.le_of_ble_eq_true rfl) (by assumption) (by assumption) (oc1 J) (fun r_ w_ h_ => ?_)
  obtain ⟨e_, J⟩ := h_
  rw [e_]
  clear e_ r_
  have n_ := J.1
  obtain ⟨⟨z0, f0, z0w⟩, z33, f33, z33w⟩ := J.cells
  refine ⟨by omega, ?_⟩
  refine r_ist_2 (pc2 := 6) dL_isWell_5 rfl rfl ?_
  refine r_iconst (pc2 := 7) dL_isWell_6 rfl ?_
  refine r_ist_3 (pc2 := 8) dL_isWell_7 rfl rfl ?_
  refine r_iconst (pc2 := 9) dL_isWell_8 rfl ?_
  refine r_ist_4 (pc2 := 11) dL_isWell_9 rfl rfl ?_
  refine r_iconst (pc2 := 12) dL_isWell_11 rfl ?_
  refine r_ist_5 (pc2 := 14) dL_isWell_12 rfl rfl ?_
  refine r_iconst (pc2 := 15) dL_isWell_14 rfl ?_
  refine r_ist_6 (pc2 := 17) dL_isWell_15 rfl rfl ?_
  refine r_bipush (pc2 := 19) dL_isWell_17 rfl (by decide) ?_
  refine r_ist_7 (pc2 := 21) dL_isWell_19 rfl rfl ?_
  have e1 : sm ((-9 : Int) + 9).toNat (fun i => o_at (v, p, sh, ln, pr, gd, co, c, s) ((i : Int) - 9) 0) = 0 := rfl
  have e2 : sm ((-9 : Int) + 9).toNat (fun i => bz (¬ o_at (v, p, sh, ln, pr, gd, co, c, s) ((i : Int) - 9) 1 = -105)) = 0 := rfl
  have e3 : btB (v, p, sh, ln, pr, gd, co, c, s) ((-9 : Int) + 9).toNat = 0 := rfl
  have e4 := lpa 20 (-9) _ none none none none none none (by omega) J
  rw [e1, e2, e3] at e4
  exact e4

theorem l_isWell {sc : av_E} {w : av_W} (h : JM sc w) (x : Int) : cl ML_isWell [.ref 0, .int (iN x)] w (fun r' w' => r' = some (.int (iN 1)) ∧ JM sc w') := by
  obtain ⟨V, U, len, len2, t, t2, J, hM⟩ := h
  obtain ⟨v, p, sh, ln, pr, gd, co, c, s⟩ := V
  exact (l_isWellT J x).imp (fun r' w' q => ⟨q.1, _, _, _, _, _, _, q.2, hM⟩)

