/-! the law's look at a store -/
set_option maxRecDepth 100000 in
set_option maxHeartbeats 4000000 in
theorem c_L_house {l : Launch} {D : va_G} {ty : Nat → ClassId} {ad : Int → Nat} {N : Int} {σ : Int → va_E} {x n k len t : Int} {u : Int → Int → Int} {s tx : Int → Int} (hx : 0 ≤ x ∧ x + 145 ≤ N) (ho : okX s n u len tx) (hi : ok2 t s) (ht : t ≤ 1000) : gM0 l yL_house cL_house 6 (some .boolean) 8 250 [.ref (ad x)] D ty ad N (xput ad ty σ x s n k u len tx) (some (.int (gI 1))) (xput ad ty σ x s n k u len tx) := by
  refine gMet_of [some (.ref (ad x)), none, none, none, none, none] (by decide +kernel) rfl (Nat.le_of_ble_eq_true rfl) rfl ?_
  intro X hl hD hty C hini
  subst hl hD hty
  have hs := ho.1
  have hbox := hs.box
  have hdra := hs.dra
  have hrd := hi.2.2.2
  have hsh := share_cmp hs
  have hcb := cb_rng hs
  have hth := thg_rng hs
  have hnf := nextF_spec hs
  have hnd := needS_spec hs
  have hca := toL_spec hs (q := 0) (by omega)
  have k503 : V X 0 0 (gQ X (gD (some (.int (gI 1))) ad N (xput ad (gty X) σ x s n k u len tx)) 0 0) 503 [some (.ref (ad x)), some (.int (gI (cb s))), some (.int (gI (thg s))), some (.int (gI 1)), some (.int (gI 6)), none] [] ad N (xput ad (gty X) σ x s n k u len tx) := by
    refine r_iconst C dL_house_503 ?_
    refine r_goto (tgt := 508) C dL_house_504 (by decide) ?_
    exact r_zretD C dL_house_508 (Or.inr rfl) rfl rfl
  have k465 : V X 0 0 (gQ X (gD (some (.int (gI 1))) ad N (xput ad (gty X) σ x s n k u len tx)) 0 0) 465 [some (.ref (ad x)), some (.int (gI (cb s))), some (.int (gI (thg s))), some (.int (gI 1)), some (.int (gI 6)), none] [] ad N (xput ad (gty X) σ x s n k u len tx) := by
    refine r_aload_n C dL_house_465 rfl rfl ?_
    refine r_cV C cwL_56 (c_X4_needy (by omega) ho) dL_house_466 rfl (by omega) xput_0 rfl rfl rfl (Nat.le_of_ble_eq_true rfl) ⟨Nat.le_of_ble_eq_true rfl, Nat.le_of_ble_eq_true rfl⟩ ⟨Nat.le_of_ble_eq_true rfl, Nat.le_of_ble_eq_true rfl⟩ ?_
    refine r_iconst C dL_house_469 ?_
    refine r_icmp_ne (tgt := 477) C dL_house_470 (by decide) (by omega) (by omega) (fun h470 => ?_) (fun h470 => ?_)
    · refine r_iconst C dL_house_477 ?_
      refine r_iload_n C dL_house_478 rfl rfl ?_
      refine r_if_ne (tgt := 486) C dL_house_479 (by decide) (by omega) (fun h479 => ?_) (fun h479 => ?_)
      · refine r_iconst C dL_house_486 ?_
        refine r_icmp_ne (tgt := 507) C dL_house_487 (by decide) (by omega) (by omega) (fun h487 => ?_) (fun h487 => ?_)
        · exfalso; omega
        · refine r_iload_n C dL_house_490 rfl rfl ?_
          refine r_if_gt (tgt := 503) C dL_house_491 (by decide) (by omega) (fun h491 => ?_) (fun h491 => ?_)
          · exact k503
          · refine r_aload_n C dL_house_494 rfl rfl ?_
            refine r_iconst C dL_house_495 ?_
            refine r_cV C cwL_38 (c_X4_carried (by omega) ho (by omega)) dL_house_496 rfl (by omega) xput_0 rfl rfl rfl (Nat.le_of_ble_eq_true rfl) ⟨Nat.le_of_ble_eq_true rfl, Nat.le_of_ble_eq_true rfl⟩ ⟨Nat.le_of_ble_eq_true rfl, Nat.le_of_ble_eq_true rfl⟩ ?_
            refine r_iconst C dL_house_499 ?_
            refine r_icmp_gt (tgt := 507) C dL_house_500 (by decide) (by omega) (by omega) (fun h500 => ?_) (fun h500 => ?_)
            · exfalso; omega
            · exact k503
      · refine r_iconst C dL_house_482 ?_
        refine r_goto (tgt := 487) C dL_house_483 (by decide) ?_
        refine r_icmp_ne (tgt := 507) C dL_house_487 (by decide) (by omega) (by omega) (fun h487 => ?_) (fun h487 => ?_)
        · exfalso; omega
        · refine r_iload_n C dL_house_490 rfl rfl ?_
          refine r_if_gt (tgt := 503) C dL_house_491 (by decide) (by omega) (fun h491 => ?_) (fun h491 => ?_)
          · exact k503
          · refine r_aload_n C dL_house_494 rfl rfl ?_
            refine r_iconst C dL_house_495 ?_
            refine r_cV C cwL_38 (c_X4_carried (by omega) ho (by omega)) dL_house_496 rfl (by omega) xput_0 rfl rfl rfl (Nat.le_of_ble_eq_true rfl) ⟨Nat.le_of_ble_eq_true rfl, Nat.le_of_ble_eq_true rfl⟩ ⟨Nat.le_of_ble_eq_true rfl, Nat.le_of_ble_eq_true rfl⟩ ?_
            refine r_iconst C dL_house_499 ?_
            refine r_icmp_gt (tgt := 507) C dL_house_500 (by decide) (by omega) (by omega) (fun h500 => ?_) (fun h500 => ?_)
            · exfalso; omega
            · exact k503
    · refine r_iconst C dL_house_473 ?_
      refine r_goto (tgt := 478) C dL_house_474 (by decide) ?_
      refine r_iload_n C dL_house_478 rfl rfl ?_
      refine r_if_ne (tgt := 486) C dL_house_479 (by decide) (by omega) (fun h479 => ?_) (fun h479 => ?_)
      · refine r_iconst C dL_house_486 ?_
        refine r_icmp_ne (tgt := 507) C dL_house_487 (by decide) (by omega) (by omega) (fun h487 => ?_) (fun h487 => ?_)
        · exfalso; omega
        · refine r_iload_n C dL_house_490 rfl rfl ?_
          refine r_if_gt (tgt := 503) C dL_house_491 (by decide) (by omega) (fun h491 => ?_) (fun h491 => ?_)
          · exact k503
          · refine r_aload_n C dL_house_494 rfl rfl ?_
            refine r_iconst C dL_house_495 ?_
            refine r_cV C cwL_38 (c_X4_carried (by omega) ho (by omega)) dL_house_496 rfl (by omega) xput_0 rfl rfl rfl (Nat.le_of_ble_eq_true rfl) ⟨Nat.le_of_ble_eq_true rfl, Nat.le_of_ble_eq_true rfl⟩ ⟨Nat.le_of_ble_eq_true rfl, Nat.le_of_ble_eq_true rfl⟩ ?_
            refine r_iconst C dL_house_499 ?_
            refine r_icmp_gt (tgt := 507) C dL_house_500 (by decide) (by omega) (by omega) (fun h500 => ?_) (fun h500 => ?_)
            · exfalso; omega
            · exact k503
      · refine r_iconst C dL_house_482 ?_
        refine r_goto (tgt := 487) C dL_house_483 (by decide) ?_
        refine r_icmp_ne (tgt := 507) C dL_house_487 (by decide) (by omega) (by omega) (fun h487 => ?_) (fun h487 => ?_)
        · exfalso; omega
        · refine r_iload_n C dL_house_490 rfl rfl ?_
          refine r_if_gt (tgt := 503) C dL_house_491 (by decide) (by omega) (fun h491 => ?_) (fun h491 => ?_)
          · exact k503
          · refine r_aload_n C dL_house_494 rfl rfl ?_
            refine r_iconst C dL_house_495 ?_
            refine r_cV C cwL_38 (c_X4_carried (by omega) ho (by omega)) dL_house_496 rfl (by omega) xput_0 rfl rfl rfl (Nat.le_of_ble_eq_true rfl) ⟨Nat.le_of_ble_eq_true rfl, Nat.le_of_ble_eq_true rfl⟩ ⟨Nat.le_of_ble_eq_true rfl, Nat.le_of_ble_eq_true rfl⟩ ?_
            refine r_iconst C dL_house_499 ?_
            refine r_icmp_gt (tgt := 507) C dL_house_500 (by decide) (by omega) (by omega) (fun h500 => ?_) (fun h500 => ?_)
            · exfalso; omega
            · exact k503
  have k418 : V X 0 0 (gQ X (gD (some (.int (gI 1))) ad N (xput ad (gty X) σ x s n k u len tx)) 0 0) 418 [some (.ref (ad x)), some (.int (gI (cb s))), some (.int (gI (thg s))), some (.int (gI 1)), some (.int (gI 6)), none] [] ad N (xput ad (gty X) σ x s n k u len tx) := by
    refine r_iload_n C dL_house_418 rfl rfl ?_
    refine r_if_eq (tgt := 507) C dL_house_419 (by decide) (by omega) (fun h419 => ?_) (fun h419 => ?_)
    · exfalso; omega
    · refine r_aload_n C dL_house_422 rfl rfl ?_
      refine r_iconst C dL_house_423 ?_
      refine r_cV C cwL_31 (q_count (w := 2) (z := cb s) (by omega) ho (by omega) rfl) dL_house_424 rfl (by omega) xput_0 rfl rfl rfl (Nat.le_of_ble_eq_true rfl) ⟨Nat.le_of_ble_eq_true rfl, Nat.le_of_ble_eq_true rfl⟩ ⟨Nat.le_of_ble_eq_true rfl, Nat.le_of_ble_eq_true rfl⟩ ?_
      refine r_iload_n C dL_house_427 rfl rfl ?_
      refine r_icmp_ne (tgt := 507) C dL_house_428 (by decide) (by omega) (by omega) (fun h428 => ?_) (fun h428 => ?_)
      · exfalso; omega
      · refine r_aload_n C dL_house_431 rfl rfl ?_
        refine r_iconst C dL_house_432 ?_
        refine r_cV C cwL_31 (q_count (w := 3) (z := thg s) (by omega) ho (by omega) rfl) dL_house_433 rfl (by omega) xput_0 rfl rfl rfl (Nat.le_of_ble_eq_true rfl) ⟨Nat.le_of_ble_eq_true rfl, Nat.le_of_ble_eq_true rfl⟩ ⟨Nat.le_of_ble_eq_true rfl, Nat.le_of_ble_eq_true rfl⟩ ?_
        refine r_iload_n C dL_house_436 rfl rfl ?_
        refine r_icmp_ne (tgt := 507) C dL_house_437 (by decide) (by omega) (by omega) (fun h437 => ?_) (fun h437 => ?_)
        · exfalso; omega
        · refine r_aload_n C dL_house_440 rfl rfl ?_
          refine r_cV C cwL_53 (c_X4_nextForgotten (by omega) ho) dL_house_441 rfl (by omega) xput_0 rfl rfl rfl (Nat.le_of_ble_eq_true rfl) ⟨Nat.le_of_ble_eq_true rfl, Nat.le_of_ble_eq_true rfl⟩ ⟨Nat.le_of_ble_eq_true rfl, Nat.le_of_ble_eq_true rfl⟩ ?_
          refine r_iconst C dL_house_444 ?_
          refine r_icmp_ne (tgt := 452) C dL_house_445 (by decide) (by omega) (by omega) (fun h445 => ?_) (fun h445 => ?_)
          · refine r_iconst C dL_house_452 ?_
            refine r_iload_n C dL_house_453 rfl rfl ?_
            refine r_if_ne (tgt := 461) C dL_house_454 (by decide) (by omega) (fun h454 => ?_) (fun h454 => ?_)
            · refine r_iconst C dL_house_461 ?_
              refine r_icmp_ne (tgt := 507) C dL_house_462 (by decide) (by omega) (by omega) (fun h462 => ?_) (fun h462 => ?_)
              · exfalso; omega
              · exact k465
            · refine r_iconst C dL_house_457 ?_
              refine r_goto (tgt := 462) C dL_house_458 (by decide) ?_
              refine r_icmp_ne (tgt := 507) C dL_house_462 (by decide) (by omega) (by omega) (fun h462 => ?_) (fun h462 => ?_)
              · exfalso; omega
              · exact k465
          · refine r_iconst C dL_house_448 ?_
            refine r_goto (tgt := 453) C dL_house_449 (by decide) ?_
            refine r_iload_n C dL_house_453 rfl rfl ?_
            refine r_if_ne (tgt := 461) C dL_house_454 (by decide) (by omega) (fun h454 => ?_) (fun h454 => ?_)
            · refine r_iconst C dL_house_461 ?_
              refine r_icmp_ne (tgt := 507) C dL_house_462 (by decide) (by omega) (by omega) (fun h462 => ?_) (fun h462 => ?_)
              · exfalso; omega
              · exact k465
            · refine r_iconst C dL_house_457 ?_
              refine r_goto (tgt := 462) C dL_house_458 (by decide) ?_
              refine r_icmp_ne (tgt := 507) C dL_house_462 (by decide) (by omega) (by omega) (fun h462 => ?_) (fun h462 => ?_)
              · exfalso; omega
              · exact k465
  have lp : ∀ (n1 : Nat) (q B T : Int), 0 ≤ q → q + n1 = 6 → B + sumF (fun r => rm s r 1) n1 q = cb s → T + sumF (fun r => rm s r 6) n1 q = thg s → V X 0 0 (gQ X (gD (some (.int (gI 1))) ad N (xput ad (gty X) σ x s n k u len tx)) 0 0) 95 [some (.ref (ad x)), some (.int (gI B)), some (.int (gI T)), some (.int (gI 1)), some (.int (gI q)), none] [] ad N (xput ad (gty X) σ x s n k u len tx) := by
    intro n1
    induction n1 with
    | zero =>
      intro q B T hq0 hqn hB hT
      have e1 : q = 6 := by omega
      have e2 : B = cb s := by rw [← hB]; exact (Int.add_zero B).symm
      have e3 : T = thg s := by rw [← hT]; exact (Int.add_zero T).symm
      subst e1 e2 e3
      refine r_iload C dL_house_95 rfl ?_
      refine r_bipush C dL_house_97 (by decide) ?_
      refine r_icmp_ge (tgt := 418) C dL_house_99 (by decide) (by omega) (by omega) (fun h99 => ?_) (fun h99 => ?_)
      · exact k418
      · exfalso; omega
    | succ n1 ih =>
      intro q B T hq0 hqn hB hT
      have hq : 0 ≤ q ∧ q < 6 := by omega
      have hB2 : B + rm s q 1 + sumF (fun r => rm s r 1) n1 (q + 1) = cb s := by
        have h := hB
        rw [show sumF (fun r => rm s r 1) (n1 + 1) q = rm s q 1 + sumF (fun r => rm s r 1) n1 (q + 1) from rfl] at h
        omega
      have hT2 : T + rm s q 6 + sumF (fun r => rm s r 6) n1 (q + 1) = thg s := by
        have h := hT
        rw [show sumF (fun r => rm s r 6) (n1 + 1) q = rm s q 6 + sumF (fun r => rm s r 6) n1 (q + 1) from rfl] at h
        omega
      clear hB hT
      obtain ⟨f1, f2, f3, f4, f5, f6, f7, f8⟩ := house_room hi hq
      have k412 : V X 0 0 (gQ X (gD (some (.int (gI 1))) ad N (xput ad (gty X) σ x s n k u len tx)) 0 0) 412 [some (.ref (ad x)), some (.int (gI (B + rm s q 1))), some (.int (gI (T + rm s q 6))), some (.int (gI 1)), some (.int (gI q)), some (.int (gI (toL s q)))] [] ad N (xput ad (gty X) σ x s n k u len tx) := by
        refine r_iinc C dL_house_412 rfl rfl ?_
        dsimp only [List.set]
        refine r_goto (tgt := 95) C dL_house_415 (by decide) ?_
        exact V_drop 5 (ih (q + 1) _ _ (by omega) (by omega) hB2 hT2)
      have k336 : V X 0 0 (gQ X (gD (some (.int (gI 1))) ad N (xput ad (gty X) σ x s n k u len tx)) 0 0) 336 [some (.ref (ad x)), some (.int (gI (B + rm s q 1))), some (.int (gI (T + rm s q 6))), some (.int (gI 1)), some (.int (gI q)), some (.int (gI (toL s q)))] [] ad N (xput ad (gty X) σ x s n k u len tx) := by
        refine r_aload_n C dL_house_336 rfl rfl ?_
        refine r_iload C dL_house_337 rfl ?_
        refine r_cV C cwL_47 (c_X4_lasts (by omega) ho hq) dL_house_339 rfl (by omega) xput_0 rfl rfl rfl (Nat.le_of_ble_eq_true rfl) ⟨Nat.le_of_ble_eq_true rfl, Nat.le_of_ble_eq_true rfl⟩ ⟨Nat.le_of_ble_eq_true rfl, Nat.le_of_ble_eq_true rfl⟩ ?_
        refine r_aload_n C dL_house_342 rfl rfl ?_
        refine r_iload C dL_house_343 rfl ?_
        refine r_iconst C dL_house_345 ?_
        refine r_cV C cwL_41 (q_room (w := 0) (z := rm s q 0) (by omega) ho hq (by omega) rfl) dL_house_346 rfl (by omega) xput_0 rfl rfl rfl (Nat.le_of_ble_eq_true rfl) ⟨Nat.le_of_ble_eq_true rfl, Nat.le_of_ble_eq_true rfl⟩ ⟨Nat.le_of_ble_eq_true rfl, Nat.le_of_ble_eq_true rfl⟩ ?_
        refine r_icmp_gt (tgt := 356) C dL_house_349 (by decide) (by omega) (by omega) (fun h349 => ?_) (fun h349 => ?_)
        · exfalso; omega
        · refine r_iconst C dL_house_352 ?_
          refine r_goto (tgt := 357) C dL_house_353 (by decide) ?_
          refine r_istore_n C dL_house_357 rfl (Nat.le_of_ble_eq_true rfl) rfl ?_
          dsimp only [List.set]
          refine r_iload_n C dL_house_358 rfl rfl ?_
          refine r_if_eq (tgt := 412) C dL_house_359 (by decide) (by omega) (fun h359 => ?_) (fun h359 => ?_)
          · exfalso; omega
          · refine r_aload_n C dL_house_362 rfl rfl ?_
            refine r_iload C dL_house_363 rfl ?_
            refine r_iconst C dL_house_365 ?_
            refine r_cV C cwL_41 (q_room (w := 4) (z := rm s q 6) (by omega) ho hq (by omega) rfl) dL_house_366 rfl (by omega) xput_0 rfl rfl rfl (Nat.le_of_ble_eq_true rfl) ⟨Nat.le_of_ble_eq_true rfl, Nat.le_of_ble_eq_true rfl⟩ ⟨Nat.le_of_ble_eq_true rfl, Nat.le_of_ble_eq_true rfl⟩ ?_
            refine r_if_le (tgt := 412) C dL_house_369 (by decide) (by omega) (fun h369 => ?_) (fun h369 => ?_)
            · exact k412
            · refine r_aload_n C dL_house_372 rfl rfl ?_
              refine r_aload_n C dL_house_373 rfl rfl ?_
              refine r_iload C dL_house_374 rfl ?_
              refine r_bipush C dL_house_376 (by decide) ?_
              refine r_cV C cwL_41 (q_room (w := 7) (z := keyR (rm s q) 0) (by omega) ho hq (by omega) rfl) dL_house_378 rfl (by omega) xput_0 rfl rfl rfl (Nat.le_of_ble_eq_true rfl) ⟨Nat.le_of_ble_eq_true rfl, Nat.le_of_ble_eq_true rfl⟩ ⟨Nat.le_of_ble_eq_true rfl, Nat.le_of_ble_eq_true rfl⟩ ?_
              refine r_iconst C dL_house_381 ?_
              refine r_cV C cwL_50 (q_thing (w := 0) (z := q) (by omega) ho (by omega) (by omega) (by first | exact (first_spec hi hq (by omega)).1 | exact (first_spec hi hq (by omega)).2)) dL_house_382 rfl (by omega) xput_0 rfl rfl rfl (Nat.le_of_ble_eq_true rfl) ⟨Nat.le_of_ble_eq_true rfl, Nat.le_of_ble_eq_true rfl⟩ ⟨Nat.le_of_ble_eq_true rfl, Nat.le_of_ble_eq_true rfl⟩ ?_
              refine r_iload C dL_house_385 rfl ?_
              refine r_icmp_ne (tgt := 410) C dL_house_387 (by decide) (by omega) (by omega) (fun h387 => ?_) (fun h387 => ?_)
              · exfalso; omega
              · refine r_aload_n C dL_house_390 rfl rfl ?_
                refine r_aload_n C dL_house_391 rfl rfl ?_
                refine r_iload C dL_house_392 rfl ?_
                refine r_bipush C dL_house_394 (by decide) ?_
                refine r_cV C cwL_41 (q_room (w := 7) (z := keyR (rm s q) 0) (by omega) ho hq (by omega) rfl) dL_house_396 rfl (by omega) xput_0 rfl rfl rfl (Nat.le_of_ble_eq_true rfl) ⟨Nat.le_of_ble_eq_true rfl, Nat.le_of_ble_eq_true rfl⟩ ⟨Nat.le_of_ble_eq_true rfl, Nat.le_of_ble_eq_true rfl⟩ ?_
                refine r_iconst C dL_house_399 ?_
                refine r_cV C cwL_50 (q_thing (w := 2) (z := 0) (by omega) ho (by omega) (by omega) (by first | exact (first_spec hi hq (by omega)).1 | exact (first_spec hi hq (by omega)).2)) dL_house_400 rfl (by omega) xput_0 rfl rfl rfl (Nat.le_of_ble_eq_true rfl) ⟨Nat.le_of_ble_eq_true rfl, Nat.le_of_ble_eq_true rfl⟩ ⟨Nat.le_of_ble_eq_true rfl, Nat.le_of_ble_eq_true rfl⟩ ?_
                refine r_if_ne (tgt := 410) C dL_house_403 (by decide) (by omega) (fun h403 => ?_) (fun h403 => ?_)
                · exfalso; omega
                · refine r_iconst C dL_house_406 ?_
                  refine r_goto (tgt := 411) C dL_house_407 (by decide) ?_
                  refine r_istore_n C dL_house_411 rfl (Nat.le_of_ble_eq_true rfl) rfl ?_
                  dsimp only [List.set]
                  exact k412
      have k295 : V X 0 0 (gQ X (gD (some (.int (gI 1))) ad N (xput ad (gty X) σ x s n k u len tx)) 0 0) 295 [some (.ref (ad x)), some (.int (gI (B + rm s q 1))), some (.int (gI (T + rm s q 6))), some (.int (gI 1)), some (.int (gI q)), some (.int (gI (toL s q)))] [] ad N (xput ad (gty X) σ x s n k u len tx) := by
        refine r_aload_n C dL_house_295 rfl rfl ?_
        refine r_iload C dL_house_296 rfl ?_
        refine r_cV C cwL_44 (c_X4_saves (by omega) ho hq) dL_house_298 rfl (by omega) xput_0 rfl rfl rfl (Nat.le_of_ble_eq_true rfl) ⟨Nat.le_of_ble_eq_true rfl, Nat.le_of_ble_eq_true rfl⟩ ⟨Nat.le_of_ble_eq_true rfl, Nat.le_of_ble_eq_true rfl⟩ ?_
        refine r_if_lt (tgt := 356) C dL_house_301 (by decide) (by omega) (fun h301 => ?_) (fun h301 => ?_)
        · exfalso; omega
        · refine r_aload_n C dL_house_304 rfl rfl ?_
          refine r_iload C dL_house_305 rfl ?_
          refine r_cV C cwL_47 (c_X4_lasts (by omega) ho hq) dL_house_307 rfl (by omega) xput_0 rfl rfl rfl (Nat.le_of_ble_eq_true rfl) ⟨Nat.le_of_ble_eq_true rfl, Nat.le_of_ble_eq_true rfl⟩ ⟨Nat.le_of_ble_eq_true rfl, Nat.le_of_ble_eq_true rfl⟩ ?_
          refine r_if_ne (tgt := 317) C dL_house_310 (by decide) (by omega) (fun h310 => ?_) (fun h310 => ?_)
          · refine r_iconst C dL_house_317 ?_
            refine r_aload_n C dL_house_318 rfl rfl ?_
            refine r_iload C dL_house_319 rfl ?_
            refine r_iconst C dL_house_321 ?_
            refine r_cV C cwL_41 (q_room (w := 1) (z := rm s q 1) (by omega) ho hq (by omega) rfl) dL_house_322 rfl (by omega) xput_0 rfl rfl rfl (Nat.le_of_ble_eq_true rfl) ⟨Nat.le_of_ble_eq_true rfl, Nat.le_of_ble_eq_true rfl⟩ ⟨Nat.le_of_ble_eq_true rfl, Nat.le_of_ble_eq_true rfl⟩ ?_
            refine r_if_ne (tgt := 332) C dL_house_325 (by decide) (by omega) (fun h325 => ?_) (fun h325 => ?_)
            · refine r_iconst C dL_house_332 ?_
              refine r_icmp_ne (tgt := 356) C dL_house_333 (by decide) (by omega) (by omega) (fun h333 => ?_) (fun h333 => ?_)
              · exfalso; omega
              · exact k336
            · refine r_iconst C dL_house_328 ?_
              refine r_goto (tgt := 333) C dL_house_329 (by decide) ?_
              refine r_icmp_ne (tgt := 356) C dL_house_333 (by decide) (by omega) (by omega) (fun h333 => ?_) (fun h333 => ?_)
              · exfalso; omega
              · exact k336
          · refine r_iconst C dL_house_313 ?_
            refine r_goto (tgt := 318) C dL_house_314 (by decide) ?_
            refine r_aload_n C dL_house_318 rfl rfl ?_
            refine r_iload C dL_house_319 rfl ?_
            refine r_iconst C dL_house_321 ?_
            refine r_cV C cwL_41 (q_room (w := 1) (z := rm s q 1) (by omega) ho hq (by omega) rfl) dL_house_322 rfl (by omega) xput_0 rfl rfl rfl (Nat.le_of_ble_eq_true rfl) ⟨Nat.le_of_ble_eq_true rfl, Nat.le_of_ble_eq_true rfl⟩ ⟨Nat.le_of_ble_eq_true rfl, Nat.le_of_ble_eq_true rfl⟩ ?_
            refine r_if_ne (tgt := 332) C dL_house_325 (by decide) (by omega) (fun h325 => ?_) (fun h325 => ?_)
            · refine r_iconst C dL_house_332 ?_
              refine r_icmp_ne (tgt := 356) C dL_house_333 (by decide) (by omega) (by omega) (fun h333 => ?_) (fun h333 => ?_)
              · exfalso; omega
              · exact k336
            · refine r_iconst C dL_house_328 ?_
              refine r_goto (tgt := 333) C dL_house_329 (by decide) ?_
              refine r_icmp_ne (tgt := 356) C dL_house_333 (by decide) (by omega) (by omega) (fun h333 => ?_) (fun h333 => ?_)
              · exfalso; omega
              · exact k336
      have k275 : V X 0 0 (gQ X (gD (some (.int (gI 1))) ad N (xput ad (gty X) σ x s n k u len tx)) 0 0) 275 [some (.ref (ad x)), some (.int (gI (B + rm s q 1))), some (.int (gI (T + rm s q 6))), some (.int (gI 1)), some (.int (gI q)), some (.int (gI (toL s q)))] [] ad N (xput ad (gty X) σ x s n k u len tx) := by
        refine r_aload_n C dL_house_275 rfl rfl ?_
        refine r_iload C dL_house_276 rfl ?_
        refine r_iconst C dL_house_278 ?_
        refine r_cV C cwL_41 (q_room (w := 1) (z := rm s q 1) (by omega) ho hq (by omega) rfl) dL_house_279 rfl (by omega) xput_0 rfl rfl rfl (Nat.le_of_ble_eq_true rfl) ⟨Nat.le_of_ble_eq_true rfl, Nat.le_of_ble_eq_true rfl⟩ ⟨Nat.le_of_ble_eq_true rfl, Nat.le_of_ble_eq_true rfl⟩ ?_
        refine r_iconst C dL_house_282 ?_
        refine r_icmp_eq (tgt := 295) C dL_house_283 (by decide) (by omega) (by omega) (fun h283 => ?_) (fun h283 => ?_)
        · exact k295
        · refine r_aload_n C dL_house_286 rfl rfl ?_
          refine r_iload C dL_house_287 rfl ?_
          refine r_cV C cwL_44 (c_X4_saves (by omega) ho hq) dL_house_289 rfl (by omega) xput_0 rfl rfl rfl (Nat.le_of_ble_eq_true rfl) ⟨Nat.le_of_ble_eq_true rfl, Nat.le_of_ble_eq_true rfl⟩ ⟨Nat.le_of_ble_eq_true rfl, Nat.le_of_ble_eq_true rfl⟩ ?_
          refine r_if_ne (tgt := 356) C dL_house_292 (by decide) (by omega) (fun h292 => ?_) (fun h292 => ?_)
          · exfalso; omega
          · exact k295
      have k253 : V X 0 0 (gQ X (gD (some (.int (gI 1))) ad N (xput ad (gty X) σ x s n k u len tx)) 0 0) 253 [some (.ref (ad x)), some (.int (gI (B + rm s q 1))), some (.int (gI (T + rm s q 6))), some (.int (gI 1)), some (.int (gI q)), some (.int (gI (toL s q)))] [] ad N (xput ad (gty X) σ x s n k u len tx) := by
        refine r_iload C dL_house_253 rfl ?_
        refine r_iconst C dL_house_255 ?_
        refine r_icmp_gt (tgt := 356) C dL_house_256 (by decide) (by omega) (by omega) (fun h256 => ?_) (fun h256 => ?_)
        · exfalso; omega
        · refine r_iload C dL_house_259 rfl ?_
          refine r_iconst C dL_house_261 ?_
          refine r_icmp_lt (tgt := 275) C dL_house_262 (by decide) (by omega) (by omega) (fun h262 => ?_) (fun h262 => ?_)
          · exact k275
          · refine r_aload_n C dL_house_265 rfl rfl ?_
            refine r_iload C dL_house_266 rfl ?_
            refine r_iconst C dL_house_268 ?_
            refine r_cV C cwL_41 (q_room (w := 0) (z := rm s q 0) (by omega) ho hq (by omega) rfl) dL_house_269 rfl (by omega) xput_0 rfl rfl rfl (Nat.le_of_ble_eq_true rfl) ⟨Nat.le_of_ble_eq_true rfl, Nat.le_of_ble_eq_true rfl⟩ ⟨Nat.le_of_ble_eq_true rfl, Nat.le_of_ble_eq_true rfl⟩ ?_
            refine r_if_le (tgt := 356) C dL_house_272 (by decide) (by omega) (fun h272 => ?_) (fun h272 => ?_)
            · exfalso; omega
            · exact k275
      have k224 : V X 0 0 (gQ X (gD (some (.int (gI 1))) ad N (xput ad (gty X) σ x s n k u len tx)) 0 0) 224 [some (.ref (ad x)), some (.int (gI (B + rm s q 1))), some (.int (gI (T + rm s q 6))), some (.int (gI 1)), some (.int (gI q)), some (.int (gI (toL s q)))] [] ad N (xput ad (gty X) σ x s n k u len tx) := by
        refine r_iload C dL_house_224 rfl ?_
        refine r_if_ne (tgt := 233) C dL_house_226 (by decide) (by omega) (fun h226 => ?_) (fun h226 => ?_)
        · refine r_iconst C dL_house_233 ?_
          refine r_aload_n C dL_house_234 rfl rfl ?_
          refine r_iload C dL_house_235 rfl ?_
          refine r_iconst C dL_house_237 ?_
          refine r_cV C cwL_41 (q_room (w := 1) (z := rm s q 1) (by omega) ho hq (by omega) rfl) dL_house_238 rfl (by omega) xput_0 rfl rfl rfl (Nat.le_of_ble_eq_true rfl) ⟨Nat.le_of_ble_eq_true rfl, Nat.le_of_ble_eq_true rfl⟩ ⟨Nat.le_of_ble_eq_true rfl, Nat.le_of_ble_eq_true rfl⟩ ?_
          refine r_iconst C dL_house_241 ?_
          refine r_icmp_ne (tgt := 249) C dL_house_242 (by decide) (by omega) (by omega) (fun h242 => ?_) (fun h242 => ?_)
          · refine r_iconst C dL_house_249 ?_
            refine r_icmp_ne (tgt := 356) C dL_house_250 (by decide) (by omega) (by omega) (fun h250 => ?_) (fun h250 => ?_)
            · exfalso; omega
            · exact k253
          · refine r_iconst C dL_house_245 ?_
            refine r_goto (tgt := 250) C dL_house_246 (by decide) ?_
            refine r_icmp_ne (tgt := 356) C dL_house_250 (by decide) (by omega) (by omega) (fun h250 => ?_) (fun h250 => ?_)
            · exfalso; omega
            · exact k253
        · refine r_iconst C dL_house_229 ?_
          refine r_goto (tgt := 234) C dL_house_230 (by decide) ?_
          refine r_aload_n C dL_house_234 rfl rfl ?_
          refine r_iload C dL_house_235 rfl ?_
          refine r_iconst C dL_house_237 ?_
          refine r_cV C cwL_41 (q_room (w := 1) (z := rm s q 1) (by omega) ho hq (by omega) rfl) dL_house_238 rfl (by omega) xput_0 rfl rfl rfl (Nat.le_of_ble_eq_true rfl) ⟨Nat.le_of_ble_eq_true rfl, Nat.le_of_ble_eq_true rfl⟩ ⟨Nat.le_of_ble_eq_true rfl, Nat.le_of_ble_eq_true rfl⟩ ?_
          refine r_iconst C dL_house_241 ?_
          refine r_icmp_ne (tgt := 249) C dL_house_242 (by decide) (by omega) (by omega) (fun h242 => ?_) (fun h242 => ?_)
          · refine r_iconst C dL_house_249 ?_
            refine r_icmp_ne (tgt := 356) C dL_house_250 (by decide) (by omega) (by omega) (fun h250 => ?_) (fun h250 => ?_)
            · exfalso; omega
            · exact k253
          · refine r_iconst C dL_house_245 ?_
            refine r_goto (tgt := 250) C dL_house_246 (by decide) ?_
            refine r_icmp_ne (tgt := 356) C dL_house_250 (by decide) (by omega) (by omega) (fun h250 => ?_) (fun h250 => ?_)
            · exfalso; omega
            · exact k253
      have k154 : V X 0 0 (gQ X (gD (some (.int (gI 1))) ad N (xput ad (gty X) σ x s n k u len tx)) 0 0) 154 [some (.ref (ad x)), some (.int (gI (B + rm s q 1))), some (.int (gI (T + rm s q 6))), some (.int (gI 1)), some (.int (gI q)), some (.int (gI (toL s q)))] [] ad N (xput ad (gty X) σ x s n k u len tx) := by
        refine r_aload_n C dL_house_154 rfl rfl ?_
        refine r_iload C dL_house_155 rfl ?_
        refine r_iconst C dL_house_157 ?_
        refine r_cV C cwL_41 (q_room (w := 0) (z := rm s q 0) (by omega) ho hq (by omega) rfl) dL_house_158 rfl (by omega) xput_0 rfl rfl rfl (Nat.le_of_ble_eq_true rfl) ⟨Nat.le_of_ble_eq_true rfl, Nat.le_of_ble_eq_true rfl⟩ ⟨Nat.le_of_ble_eq_true rfl, Nat.le_of_ble_eq_true rfl⟩ ?_
        refine r_bipush C dL_house_161 (by decide) ?_
        refine r_icmp_gt (tgt := 356) C dL_house_163 (by decide) (by omega) (by omega) (fun h163 => ?_) (fun h163 => ?_)
        · exfalso; omega
        · refine r_aload_n C dL_house_166 rfl rfl ?_
          refine r_iload C dL_house_167 rfl ?_
          refine r_iconst C dL_house_169 ?_
          refine r_cV C cwL_41 (q_room (w := 2) (z := rm s q 2) (by omega) ho hq (by omega) rfl) dL_house_170 rfl (by omega) xput_0 rfl rfl rfl (Nat.le_of_ble_eq_true rfl) ⟨Nat.le_of_ble_eq_true rfl, Nat.le_of_ble_eq_true rfl⟩ ⟨Nat.le_of_ble_eq_true rfl, Nat.le_of_ble_eq_true rfl⟩ ?_
          refine r_bipush C dL_house_173 (by decide) ?_
          refine r_icmp_gt (tgt := 356) C dL_house_175 (by decide) (by omega) (by omega) (fun h175 => ?_) (fun h175 => ?_)
          · exfalso; omega
          · refine r_aload_n C dL_house_178 rfl rfl ?_
            refine r_iload C dL_house_179 rfl ?_
            refine r_iconst C dL_house_181 ?_
            refine r_cV C cwL_41 (q_room (w := 4) (z := rm s q 6) (by omega) ho hq (by omega) rfl) dL_house_182 rfl (by omega) xput_0 rfl rfl rfl (Nat.le_of_ble_eq_true rfl) ⟨Nat.le_of_ble_eq_true rfl, Nat.le_of_ble_eq_true rfl⟩ ⟨Nat.le_of_ble_eq_true rfl, Nat.le_of_ble_eq_true rfl⟩ ?_
            refine r_iconst C dL_house_185 ?_
            refine r_icmp_gt (tgt := 356) C dL_house_186 (by decide) (by omega) (by omega) (fun h186 => ?_) (fun h186 => ?_)
            · exfalso; omega
            · refine r_aload_n C dL_house_189 rfl rfl ?_
              refine r_iload C dL_house_190 rfl ?_
              refine r_bipush C dL_house_192 (by decide) ?_
              refine r_cV C cwL_41 (q_room (w := 7) (z := keyR (rm s q) 0) (by omega) ho hq (by omega) rfl) dL_house_194 rfl (by omega) xput_0 rfl rfl rfl (Nat.le_of_ble_eq_true rfl) ⟨Nat.le_of_ble_eq_true rfl, Nat.le_of_ble_eq_true rfl⟩ ⟨Nat.le_of_ble_eq_true rfl, Nat.le_of_ble_eq_true rfl⟩ ?_
              refine r_iconst C dL_house_197 ?_
              refine r_icmp_ne (tgt := 205) C dL_house_198 (by decide) (by omega) (by omega) (fun h198 => ?_) (fun h198 => ?_)
              · refine r_iconst C dL_house_205 ?_
                refine r_aload_n C dL_house_206 rfl rfl ?_
                refine r_iload C dL_house_207 rfl ?_
                refine r_iconst C dL_house_209 ?_
                refine r_cV C cwL_41 (q_room (w := 4) (z := rm s q 6) (by omega) ho hq (by omega) rfl) dL_house_210 rfl (by omega) xput_0 rfl rfl rfl (Nat.le_of_ble_eq_true rfl) ⟨Nat.le_of_ble_eq_true rfl, Nat.le_of_ble_eq_true rfl⟩ ⟨Nat.le_of_ble_eq_true rfl, Nat.le_of_ble_eq_true rfl⟩ ?_
                refine r_if_ne (tgt := 220) C dL_house_213 (by decide) (by omega) (fun h213 => ?_) (fun h213 => ?_)
                · refine r_iconst C dL_house_220 ?_
                  refine r_icmp_ne (tgt := 356) C dL_house_221 (by decide) (by omega) (by omega) (fun h221 => ?_) (fun h221 => ?_)
                  · exfalso; omega
                  · exact k224
                · refine r_iconst C dL_house_216 ?_
                  refine r_goto (tgt := 221) C dL_house_217 (by decide) ?_
                  refine r_icmp_ne (tgt := 356) C dL_house_221 (by decide) (by omega) (by omega) (fun h221 => ?_) (fun h221 => ?_)
                  · exfalso; omega
                  · exact k224
              · refine r_iconst C dL_house_201 ?_
                refine r_goto (tgt := 206) C dL_house_202 (by decide) ?_
                refine r_aload_n C dL_house_206 rfl rfl ?_
                refine r_iload C dL_house_207 rfl ?_
                refine r_iconst C dL_house_209 ?_
                refine r_cV C cwL_41 (q_room (w := 4) (z := rm s q 6) (by omega) ho hq (by omega) rfl) dL_house_210 rfl (by omega) xput_0 rfl rfl rfl (Nat.le_of_ble_eq_true rfl) ⟨Nat.le_of_ble_eq_true rfl, Nat.le_of_ble_eq_true rfl⟩ ⟨Nat.le_of_ble_eq_true rfl, Nat.le_of_ble_eq_true rfl⟩ ?_
                refine r_if_ne (tgt := 220) C dL_house_213 (by decide) (by omega) (fun h213 => ?_) (fun h213 => ?_)
                · refine r_iconst C dL_house_220 ?_
                  refine r_icmp_ne (tgt := 356) C dL_house_221 (by decide) (by omega) (by omega) (fun h221 => ?_) (fun h221 => ?_)
                  · exfalso; omega
                  · exact k224
                · refine r_iconst C dL_house_216 ?_
                  refine r_goto (tgt := 221) C dL_house_217 (by decide) ?_
                  refine r_icmp_ne (tgt := 356) C dL_house_221 (by decide) (by omega) (by omega) (fun h221 => ?_) (fun h221 => ?_)
                  · exfalso; omega
                  · exact k224
      refine r_iload C dL_house_95 rfl ?_
      refine r_bipush C dL_house_97 (by decide) ?_
      refine r_icmp_ge (tgt := 418) C dL_house_99 (by decide) (by omega) (by omega) (fun h99 => ?_) (fun h99 => ?_)
      · exfalso; omega
      · refine r_iload_n C dL_house_102 rfl rfl ?_
        refine r_if_eq (tgt := 418) C dL_house_103 (by decide) (by omega) (fun h103 => ?_) (fun h103 => ?_)
        · exfalso; omega
        · refine r_aload_n C dL_house_106 rfl rfl ?_
          refine r_iload C dL_house_107 rfl ?_
          refine r_cV C cwL_38 (c_X4_carried (by omega) ho hq) dL_house_109 rfl (by omega) xput_0 rfl rfl rfl (Nat.le_of_ble_eq_true rfl) ⟨Nat.le_of_ble_eq_true rfl, Nat.le_of_ble_eq_true rfl⟩ ⟨Nat.le_of_ble_eq_true rfl, Nat.le_of_ble_eq_true rfl⟩ ?_
          refine r_istore C dL_house_112 (Nat.le_of_ble_eq_true rfl) rfl ?_
          dsimp only [List.set]
          refine r_iload_n C dL_house_114 rfl rfl ?_
          refine r_aload_n C dL_house_115 rfl rfl ?_
          refine r_iload C dL_house_116 rfl ?_
          refine r_iconst C dL_house_118 ?_
          refine r_cV C cwL_41 (q_room (w := 1) (z := rm s q 1) (by omega) ho hq (by omega) rfl) dL_house_119 rfl (by omega) xput_0 rfl rfl rfl (Nat.le_of_ble_eq_true rfl) ⟨Nat.le_of_ble_eq_true rfl, Nat.le_of_ble_eq_true rfl⟩ ⟨Nat.le_of_ble_eq_true rfl, Nat.le_of_ble_eq_true rfl⟩ ?_
          refine r_iadd C dL_house_122 ?_
          refine r_istore_n C dL_house_123 rfl (Nat.le_of_ble_eq_true rfl) rfl ?_
          dsimp only [List.set]
          refine r_iload_n C dL_house_124 rfl rfl ?_
          refine r_aload_n C dL_house_125 rfl rfl ?_
          refine r_iload C dL_house_126 rfl ?_
          refine r_iconst C dL_house_128 ?_
          refine r_cV C cwL_41 (q_room (w := 4) (z := rm s q 6) (by omega) ho hq (by omega) rfl) dL_house_129 rfl (by omega) xput_0 rfl rfl rfl (Nat.le_of_ble_eq_true rfl) ⟨Nat.le_of_ble_eq_true rfl, Nat.le_of_ble_eq_true rfl⟩ ⟨Nat.le_of_ble_eq_true rfl, Nat.le_of_ble_eq_true rfl⟩ ?_
          refine r_iadd C dL_house_132 ?_
          refine r_istore_n C dL_house_133 rfl (Nat.le_of_ble_eq_true rfl) rfl ?_
          dsimp only [List.set]
          refine r_aload_n C dL_house_134 rfl rfl ?_
          refine r_iload C dL_house_135 rfl ?_
          refine r_iconst C dL_house_137 ?_
          refine r_cV C cwL_41 (q_room (w := 1) (z := rm s q 1) (by omega) ho hq (by omega) rfl) dL_house_138 rfl (by omega) xput_0 rfl rfl rfl (Nat.le_of_ble_eq_true rfl) ⟨Nat.le_of_ble_eq_true rfl, Nat.le_of_ble_eq_true rfl⟩ ⟨Nat.le_of_ble_eq_true rfl, Nat.le_of_ble_eq_true rfl⟩ ?_
          refine r_if_eq (tgt := 154) C dL_house_141 (by decide) (by omega) (fun h141 => ?_) (fun h141 => ?_)
          · exact k154
          · refine r_aload_n C dL_house_144 rfl rfl ?_
            refine r_iload C dL_house_145 rfl ?_
            refine r_iconst C dL_house_147 ?_
            refine r_cV C cwL_41 (q_room (w := 0) (z := rm s q 0) (by omega) ho hq (by omega) rfl) dL_house_148 rfl (by omega) xput_0 rfl rfl rfl (Nat.le_of_ble_eq_true rfl) ⟨Nat.le_of_ble_eq_true rfl, Nat.le_of_ble_eq_true rfl⟩ ⟨Nat.le_of_ble_eq_true rfl, Nat.le_of_ble_eq_true rfl⟩ ?_
            refine r_if_le (tgt := 356) C dL_house_151 (by decide) (by omega) (fun h151 => ?_) (fun h151 => ?_)
            · exfalso; omega
            · exact k154
  have k68 : V X 0 0 (gQ X (gD (some (.int (gI 1))) ad N (xput ad (gty X) σ x s n k u len tx)) 0 0) 68 [some (.ref (ad x)), some (.int (gI 0)), some (.int (gI 0)), none, none, none] [] ad N (xput ad (gty X) σ x s n k u len tx) := by
    refine r_aload_n C dL_house_68 rfl rfl ?_
    refine r_cV C cwL_34 (c_X4_lit (by omega) ho) dL_house_69 rfl (by omega) xput_0 rfl rfl rfl (Nat.le_of_ble_eq_true rfl) ⟨Nat.le_of_ble_eq_true rfl, Nat.le_of_ble_eq_true rfl⟩ ⟨Nat.le_of_ble_eq_true rfl, Nat.le_of_ble_eq_true rfl⟩ ?_
    refine r_dconst_0 C dL_house_72 ?_
    refine r_dcmpT C dL_house_73 ?_
    refine r_if_lt (tgt := 90) C dL_house_74 (by decide) (cmpT_rng _ _ _) (fun h74 => ?_) (fun h74 => ?_)
    · exfalso; omega
    · refine r_aload_n C dL_house_77 rfl rfl ?_
      refine r_cV C cwL_34 (c_X4_lit (by omega) ho) dL_house_78 rfl (by omega) xput_0 rfl rfl rfl (Nat.le_of_ble_eq_true rfl) ⟨Nat.le_of_ble_eq_true rfl, Nat.le_of_ble_eq_true rfl⟩ ⟨Nat.le_of_ble_eq_true rfl, Nat.le_of_ble_eq_true rfl⟩ ?_
      refine r_dconst_1 C dL_house_81 ?_
      refine r_dcmpT C dL_house_82 ?_
      refine r_if_gt (tgt := 90) C dL_house_83 (by decide) (cmpT_rng _ _ _) (fun h83 => ?_) (fun h83 => ?_)
      · exfalso; omega
      · refine r_iconst C dL_house_86 ?_
        refine r_goto (tgt := 91) C dL_house_87 (by decide) ?_
        refine r_istore_n C dL_house_91 rfl (Nat.le_of_ble_eq_true rfl) rfl ?_
        dsimp only [List.set]
        refine r_iconst C dL_house_92 ?_
        refine r_istore C dL_house_93 (Nat.le_of_ble_eq_true rfl) rfl ?_
        dsimp only [List.set]
        exact lp 6 0 0 0 (by omega) (by omega) (Int.zero_add _) (Int.zero_add _)
  refine r_iconst C dL_house_0 ?_
  refine r_istore_n C dL_house_1 rfl (Nat.le_of_ble_eq_true rfl) rfl ?_
  dsimp only [List.set]
  refine r_iconst C dL_house_2 ?_
  refine r_istore_n C dL_house_3 rfl (Nat.le_of_ble_eq_true rfl) rfl ?_
  dsimp only [List.set]
  refine r_aload_n C dL_house_4 rfl rfl ?_
  refine r_bipush C dL_house_5 (by decide) ?_
  refine r_cV C cwL_31 (q_count (w := 6) (z := s 5) (by omega) ho (by omega) rfl) dL_house_7 rfl (by omega) xput_0 rfl rfl rfl (Nat.le_of_ble_eq_true rfl) ⟨Nat.le_of_ble_eq_true rfl, Nat.le_of_ble_eq_true rfl⟩ ⟨Nat.le_of_ble_eq_true rfl, Nat.le_of_ble_eq_true rfl⟩ ?_
  refine r_aload_n C dL_house_10 rfl rfl ?_
  refine r_iconst C dL_house_11 ?_
  refine r_cV C cwL_31 (q_count (w := 5) (z := s 4) (by omega) ho (by omega) rfl) dL_house_12 rfl (by omega) xput_0 rfl rfl rfl (Nat.le_of_ble_eq_true rfl) ⟨Nat.le_of_ble_eq_true rfl, Nat.le_of_ble_eq_true rfl⟩ ⟨Nat.le_of_ble_eq_true rfl, Nat.le_of_ble_eq_true rfl⟩ ?_
  refine r_icmp_gt (tgt := 90) C dL_house_15 (by decide) (by omega) (by omega) (fun h15 => ?_) (fun h15 => ?_)
  · exfalso; omega
  · refine r_aload_n C dL_house_18 rfl rfl ?_
    refine r_iconst C dL_house_19 ?_
    refine r_cV C cwL_31 (q_count (w := 1) (z := s 1) (by omega) ho (by omega) rfl) dL_house_20 rfl (by omega) xput_0 rfl rfl rfl (Nat.le_of_ble_eq_true rfl) ⟨Nat.le_of_ble_eq_true rfl, Nat.le_of_ble_eq_true rfl⟩ ⟨Nat.le_of_ble_eq_true rfl, Nat.le_of_ble_eq_true rfl⟩ ?_
    refine r_if_lt (tgt := 90) C dL_house_23 (by decide) (by omega) (fun h23 => ?_) (fun h23 => ?_)
    · exfalso; omega
    · refine r_aload_n C dL_house_26 rfl rfl ?_
      refine r_iconst C dL_house_27 ?_
      refine r_cV C cwL_31 (q_count (w := 1) (z := s 1) (by omega) ho (by omega) rfl) dL_house_28 rfl (by omega) xput_0 rfl rfl rfl (Nat.le_of_ble_eq_true rfl) ⟨Nat.le_of_ble_eq_true rfl, Nat.le_of_ble_eq_true rfl⟩ ⟨Nat.le_of_ble_eq_true rfl, Nat.le_of_ble_eq_true rfl⟩ ?_
      refine r_bipush C dL_house_31 (by decide) ?_
      refine r_icmp_gt (tgt := 90) C dL_house_33 (by decide) (by omega) (by omega) (fun h33 => ?_) (fun h33 => ?_)
      · exfalso; omega
      · refine r_aload_n C dL_house_36 rfl rfl ?_
        refine r_bipush C dL_house_37 (by decide) ?_
        refine r_cV C cwL_31 (q_count (w := 8) (z := s 7) (by omega) ho (by omega) rfl) dL_house_39 rfl (by omega) xput_0 rfl rfl rfl (Nat.le_of_ble_eq_true rfl) ⟨Nat.le_of_ble_eq_true rfl, Nat.le_of_ble_eq_true rfl⟩ ⟨Nat.le_of_ble_eq_true rfl, Nat.le_of_ble_eq_true rfl⟩ ?_
        refine r_iconst C dL_house_42 ?_
        refine r_icmp_ne (tgt := 50) C dL_house_43 (by decide) (by omega) (by omega) (fun h43 => ?_) (fun h43 => ?_)
        · refine r_iconst C dL_house_50 ?_
          refine r_aload_n C dL_house_51 rfl rfl ?_
          refine r_bipush C dL_house_52 (by decide) ?_
          refine r_cV C cwL_31 (q_count (w := 9) (z := s 8) (by omega) ho (by omega) rfl) dL_house_54 rfl (by omega) xput_0 rfl rfl rfl (Nat.le_of_ble_eq_true rfl) ⟨Nat.le_of_ble_eq_true rfl, Nat.le_of_ble_eq_true rfl⟩ ⟨Nat.le_of_ble_eq_true rfl, Nat.le_of_ble_eq_true rfl⟩ ?_
          refine r_if_ne (tgt := 64) C dL_house_57 (by decide) (by omega) (fun h57 => ?_) (fun h57 => ?_)
          · refine r_iconst C dL_house_64 ?_
            refine r_icmp_ne (tgt := 90) C dL_house_65 (by decide) (by omega) (by omega) (fun h65 => ?_) (fun h65 => ?_)
            · exfalso; omega
            · exact k68
          · refine r_iconst C dL_house_60 ?_
            refine r_goto (tgt := 65) C dL_house_61 (by decide) ?_
            refine r_icmp_ne (tgt := 90) C dL_house_65 (by decide) (by omega) (by omega) (fun h65 => ?_) (fun h65 => ?_)
            · exfalso; omega
            · exact k68
        · refine r_iconst C dL_house_46 ?_
          refine r_goto (tgt := 51) C dL_house_47 (by decide) ?_
          refine r_aload_n C dL_house_51 rfl rfl ?_
          refine r_bipush C dL_house_52 (by decide) ?_
          refine r_cV C cwL_31 (q_count (w := 9) (z := s 8) (by omega) ho (by omega) rfl) dL_house_54 rfl (by omega) xput_0 rfl rfl rfl (Nat.le_of_ble_eq_true rfl) ⟨Nat.le_of_ble_eq_true rfl, Nat.le_of_ble_eq_true rfl⟩ ⟨Nat.le_of_ble_eq_true rfl, Nat.le_of_ble_eq_true rfl⟩ ?_
          refine r_if_ne (tgt := 64) C dL_house_57 (by decide) (by omega) (fun h57 => ?_) (fun h57 => ?_)
          · refine r_iconst C dL_house_64 ?_
            refine r_icmp_ne (tgt := 90) C dL_house_65 (by decide) (by omega) (by omega) (fun h65 => ?_) (fun h65 => ?_)
            · exfalso; omega
            · exact k68
          · refine r_iconst C dL_house_60 ?_
            refine r_goto (tgt := 65) C dL_house_61 (by decide) ?_
            refine r_icmp_ne (tgt := 90) C dL_house_65 (by decide) (by omega) (by omega) (fun h65 => ?_) (fun h65 => ?_)
            · exfalso; omega
            · exact k68
