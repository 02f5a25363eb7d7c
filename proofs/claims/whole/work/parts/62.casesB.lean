/-! the law, case by case -/
set_option maxRecDepth 100000 in
set_option maxHeartbeats 4000000 in
theorem lw_draught {X : gT} {rt : Option FieldType} {kc kn : Nat} {Q : State → Prop} {ad : Int → Nat} {σ : Int → va_E} {b Ls : Nat} {xz : Int → Int} {i : Int} {s tx v t p q : Int → Int} {n k len : Int} {u : Int → Int → Int} {g : Nat → Int64} (C : gOk X cL_law 9 RL room_1 rt) (hX : gXk X) (hsc : gSc X b Ls xz) (hi : 0 ≤ i ∧ i + 3 ≤ Ls) (hc : kc + 1 ≤ 628140 ∧ kn + 6 ≤ 7211684) (I : LI s n k u len tx v p) (K : LK X ad σ Q kc kn b i) (hr : 0 ≤ xz (i + 1) ∧ xz (i + 1) < 6) (ht : 1 ≤ xz (i + 2) ∧ xz (i + 2) ≤ 6) : V X kc kn Q 500 (LL b ad i) [] ad 152 (LW ad (gty X) σ s n k u len tx v s t p tx q g) := by
  obtain ⟨ho, hh, hv3, hv5⟩ := I
  subst hv3 hv5
  have hs := ho.1
  have hn := ho.2.1
  have hxt := ho.2.2.2
  have hlen := hxt.1
  have hz1 := hsc.2.2 (i + 1)
  have hz2 := hsc.2.2 (i + 2)
  show V X kc kn Q 500 [some (.ref b), some (.ref (ad 0)), some (.ref (ad 145)), some (.ref (ad 151)), some (.int (gI i)), none, none, none, none] [] ad 152 _
  refine r_aload_n C dL_law_500 rfl rfl ?_
  refine r_aload_n C dL_law_501 rfl rfl ?_
  refine r_iload C dL_law_502 rfl ?_
  refine r_iconst C dL_law_504 ?_
  refine r_iadd C dL_law_505 ?_
  refine r_sld C hsc dL_law_506 (by omega) ?_
  refine r_aload_n C dL_law_507 rfl rfl ?_
  refine r_iload C dL_law_508 rfl ?_
  refine r_iconst C dL_law_510 ?_
  refine r_iadd C dL_law_511 ?_
  refine r_sld C hsc dL_law_512 (by omega) ?_
  refine r_aload_n C dL_law_513 rfl rfl ?_
  refine r_cW C hX.2 cwL_103 (lw_w (w_L_draught hX.1 (by omega) ho (by omega) lw_g hr ht)) dL_law_514 rfl rfl rfl (Nat.le_of_ble_eq_true rfl) ⟨Nat.le_of_ble_eq_true rfl, Nat.le_of_ble_eq_true rfl⟩ hc ?_
  refine r_istore C dL_law_517 (Nat.le_of_ble_eq_true rfl) rfl ?_
  dsimp only [List.set]
  refine r_aload_n C dL_law_519 rfl rfl ?_
  refine r_aload_n C dL_law_520 rfl rfl ?_
  refine r_iload C dL_law_521 rfl ?_
  refine r_iconst C dL_law_523 ?_
  refine r_iadd C dL_law_524 ?_
  refine r_sld C hsc dL_law_525 (by omega) ?_
  refine r_aload_n C dL_law_526 rfl rfl ?_
  refine r_iload C dL_law_527 rfl ?_
  refine r_iconst C dL_law_529 ?_
  refine r_iadd C dL_law_530 ?_
  refine r_sld C hsc dL_law_531 (by omega) ?_
  refine r_cV C cwL_105 (lw_m (by decide) (c_X5_draught (by omega) hn hs hr ht)) dL_law_532 rfl (by omega) (lw_r5 (by decide)) rfl rfl rfl (Nat.le_of_ble_eq_true rfl) ⟨Nat.le_of_ble_eq_true rfl, Nat.le_of_ble_eq_true rfl⟩ hc ?_
  refine r_istore C dL_law_535 (Nat.le_of_ble_eq_true rfl) rfl ?_
  dsimp only [List.set]
  refine r_aload_n C dL_law_537 rfl rfl ?_
  refine r_cV C cwL_86 (lw_m (by decide) (c_X5_thrown (by omega))) dL_law_538 rfl (by omega) (lw_r5 (by decide)) rfl rfl rfl (Nat.le_of_ble_eq_true rfl) ⟨Nat.le_of_ble_eq_true rfl, Nat.le_of_ble_eq_true rfl⟩ hc ?_
  rw [show (up (up v 6 0) 3 (pshN (v 3))) 6 = 0 from rfl]
  refine r_iload C dL_law_541 rfl ?_
  refine r_icmpE (tgt := 548) C dL_law_543 (by decide) ?_
  refine r_iload C dL_law_548 rfl ?_
  refine r_ifne0 (tgt := 565) C dL_law_550 (by decide) ?_
  refine r_aload_n C dL_law_553 rfl rfl ?_
  refine r_iconst C dL_law_554 ?_
  refine r_lald C dL_law_555 (by omega) lw_g2 (by omega) (by decide) ?_
  show V _ _ _ _ _ _ (.long (gI (cbF (draS s (xz (i + 1)) (xz (i + 2))) (xz (i + 1)) (blown (draS s (xz (i + 1)) (xz (i + 2)))))).toInt64 :: _) _ _ _
  refine r_iload C dL_law_556 rfl ?_
  refine r_i2l C dL_law_558 ?_
  refine r_lcmpE C dL_law_559 ?_
  refine r_ifeq0 (tgt := 565) C dL_law_560 (by decide) ?_
  refine r_goto (tgt := 1415) C dL_law_565 (by decide) ?_
  refine V_drop 5 ?_
  dsimp only [List.set]
  refine V_drop 6 ?_
  dsimp only [List.set]
  exact K _ _ _ _ _ _ _ _ _ _ _ ⟨okX_push ho (okS_dra hs hr ht), hist_push hh hn, rfl, rfl⟩

set_option maxRecDepth 100000 in
set_option maxHeartbeats 4000000 in
theorem lw_draught_f1 {X : gT} {rt : Option FieldType} {kc kn : Nat} {Q : State → Prop} {ad : Int → Nat} {σ : Int → va_E} {b Ls : Nat} {xz : Int → Int} {i : Int} {s tx v t p q : Int → Int} {n k len : Int} {u : Int → Int → Int} {g : Nat → Int64} (C : gOk X cL_law 9 RL room_1 rt) (hX : gXk X) (hsc : gSc X b Ls xz) (hi : 0 ≤ i ∧ i + 3 ≤ Ls) (hc : kc + 1 ≤ 628140 ∧ kn + 6 ≤ 7211684) (I : LI s n k u len tx v p) (K : LK X ad σ Q kc kn b i) (hnr : ¬ (0 ≤ xz (i + 1) ∧ xz (i + 1) < 6)) : V X kc kn Q 500 (LL b ad i) [] ad 152 (LW ad (gty X) σ s n k u len tx v s t p tx q g) := by
  obtain ⟨ho, hh, hv3, hv5⟩ := I
  subst hv3 hv5
  have hs := ho.1
  have hn := ho.2.1
  have hxt := ho.2.2.2
  have hlen := hxt.1
  have hz1 := hsc.2.2 (i + 1)
  have hz2 := hsc.2.2 (i + 2)
  show V X kc kn Q 500 [some (.ref b), some (.ref (ad 0)), some (.ref (ad 145)), some (.ref (ad 151)), some (.int (gI i)), none, none, none, none] [] ad 152 _
  refine r_aload_n C dL_law_500 rfl rfl ?_
  refine r_aload_n C dL_law_501 rfl rfl ?_
  refine r_iload C dL_law_502 rfl ?_
  refine r_iconst C dL_law_504 ?_
  refine r_iadd C dL_law_505 ?_
  refine r_sld C hsc dL_law_506 (by omega) ?_
  refine r_aload_n C dL_law_507 rfl rfl ?_
  refine r_iload C dL_law_508 rfl ?_
  refine r_iconst C dL_law_510 ?_
  refine r_iadd C dL_law_511 ?_
  refine r_sld C hsc dL_law_512 (by omega) ?_
  refine r_aload_n C dL_law_513 rfl rfl ?_
  refine r_cW C hX.2 cwL_103 (w_L_draught_f1 hX.1 (by omega) ho (by omega) lw_g hnr hz1) dL_law_514 rfl rfl rfl (Nat.le_of_ble_eq_true rfl) ⟨Nat.le_of_ble_eq_true rfl, Nat.le_of_ble_eq_true rfl⟩ hc ?_
  refine r_istore C dL_law_517 (Nat.le_of_ble_eq_true rfl) rfl ?_
  dsimp only [List.set]
  refine r_aload_n C dL_law_519 rfl rfl ?_
  refine r_aload_n C dL_law_520 rfl rfl ?_
  refine r_iload C dL_law_521 rfl ?_
  refine r_iconst C dL_law_523 ?_
  refine r_iadd C dL_law_524 ?_
  refine r_sld C hsc dL_law_525 (by omega) ?_
  refine r_aload_n C dL_law_526 rfl rfl ?_
  refine r_iload C dL_law_527 rfl ?_
  refine r_iconst C dL_law_529 ?_
  refine r_iadd C dL_law_530 ?_
  refine r_sld C hsc dL_law_531 (by omega) ?_
  refine r_cV C cwL_105 (lw_m (by decide) (c_X5_draught_f1 (by omega) hnr hz1)) dL_law_532 rfl (by omega) (lw_r5 (by decide)) rfl rfl rfl (Nat.le_of_ble_eq_true rfl) ⟨Nat.le_of_ble_eq_true rfl, Nat.le_of_ble_eq_true rfl⟩ hc ?_
  refine r_istore C dL_law_535 (Nat.le_of_ble_eq_true rfl) rfl ?_
  dsimp only [List.set]
  refine r_aload_n C dL_law_537 rfl rfl ?_
  refine r_cV C cwL_86 (lw_m (by decide) (c_X5_thrown (by omega))) dL_law_538 rfl (by omega) (lw_r5 (by decide)) rfl rfl rfl (Nat.le_of_ble_eq_true rfl) ⟨Nat.le_of_ble_eq_true rfl, Nat.le_of_ble_eq_true rfl⟩ hc ?_
  rw [show (up v 6 1) 6 = 1 from rfl]
  refine r_iload C dL_law_541 rfl ?_
  refine r_icmpE (tgt := 548) C dL_law_543 (by decide) ?_
  refine r_iload C dL_law_548 rfl ?_
  refine r_ifneK (tgt := 565) C dL_law_550 (by decide) (by decide) ?_
  refine r_goto (tgt := 1415) C dL_law_565 (by decide) ?_
  refine V_drop 5 ?_
  dsimp only [List.set]
  refine V_drop 6 ?_
  dsimp only [List.set]
  exact K _ _ _ _ _ _ _ _ _ _ _ ⟨ho, hh, rfl, rfl⟩

set_option maxRecDepth 100000 in
set_option maxHeartbeats 4000000 in
theorem lw_draught_f2 {X : gT} {rt : Option FieldType} {kc kn : Nat} {Q : State → Prop} {ad : Int → Nat} {σ : Int → va_E} {b Ls : Nat} {xz : Int → Int} {i : Int} {s tx v t p q : Int → Int} {n k len : Int} {u : Int → Int → Int} {g : Nat → Int64} (C : gOk X cL_law 9 RL room_1 rt) (hX : gXk X) (hsc : gSc X b Ls xz) (hi : 0 ≤ i ∧ i + 3 ≤ Ls) (hc : kc + 1 ≤ 628140 ∧ kn + 6 ≤ 7211684) (I : LI s n k u len tx v p) (K : LK X ad σ Q kc kn b i) (hr : 0 ≤ xz (i + 1) ∧ xz (i + 1) < 6) (hnt : ¬ (1 ≤ xz (i + 2) ∧ xz (i + 2) ≤ 6)) : V X kc kn Q 500 (LL b ad i) [] ad 152 (LW ad (gty X) σ s n k u len tx v s t p tx q g) := by
  obtain ⟨ho, hh, hv3, hv5⟩ := I
  subst hv3 hv5
  have hs := ho.1
  have hn := ho.2.1
  have hxt := ho.2.2.2
  have hlen := hxt.1
  have hz1 := hsc.2.2 (i + 1)
  have hz2 := hsc.2.2 (i + 2)
  show V X kc kn Q 500 [some (.ref b), some (.ref (ad 0)), some (.ref (ad 145)), some (.ref (ad 151)), some (.int (gI i)), none, none, none, none] [] ad 152 _
  refine r_aload_n C dL_law_500 rfl rfl ?_
  refine r_aload_n C dL_law_501 rfl rfl ?_
  refine r_iload C dL_law_502 rfl ?_
  refine r_iconst C dL_law_504 ?_
  refine r_iadd C dL_law_505 ?_
  refine r_sld C hsc dL_law_506 (by omega) ?_
  refine r_aload_n C dL_law_507 rfl rfl ?_
  refine r_iload C dL_law_508 rfl ?_
  refine r_iconst C dL_law_510 ?_
  refine r_iadd C dL_law_511 ?_
  refine r_sld C hsc dL_law_512 (by omega) ?_
  refine r_aload_n C dL_law_513 rfl rfl ?_
  refine r_cW C hX.2 cwL_103 (w_L_draught_f2 hX.1 (by omega) ho (by omega) lw_g hr hnt hz2) dL_law_514 rfl rfl rfl (Nat.le_of_ble_eq_true rfl) ⟨Nat.le_of_ble_eq_true rfl, Nat.le_of_ble_eq_true rfl⟩ hc ?_
  refine r_istore C dL_law_517 (Nat.le_of_ble_eq_true rfl) rfl ?_
  dsimp only [List.set]
  refine r_aload_n C dL_law_519 rfl rfl ?_
  refine r_aload_n C dL_law_520 rfl rfl ?_
  refine r_iload C dL_law_521 rfl ?_
  refine r_iconst C dL_law_523 ?_
  refine r_iadd C dL_law_524 ?_
  refine r_sld C hsc dL_law_525 (by omega) ?_
  refine r_aload_n C dL_law_526 rfl rfl ?_
  refine r_iload C dL_law_527 rfl ?_
  refine r_iconst C dL_law_529 ?_
  refine r_iadd C dL_law_530 ?_
  refine r_sld C hsc dL_law_531 (by omega) ?_
  refine r_cV C cwL_105 (lw_m (by decide) (c_X5_draught_f2 (by omega) hr hnt hz2)) dL_law_532 rfl (by omega) (lw_r5 (by decide)) rfl rfl rfl (Nat.le_of_ble_eq_true rfl) ⟨Nat.le_of_ble_eq_true rfl, Nat.le_of_ble_eq_true rfl⟩ hc ?_
  refine r_istore C dL_law_535 (Nat.le_of_ble_eq_true rfl) rfl ?_
  dsimp only [List.set]
  refine r_aload_n C dL_law_537 rfl rfl ?_
  refine r_cV C cwL_86 (lw_m (by decide) (c_X5_thrown (by omega))) dL_law_538 rfl (by omega) (lw_r5 (by decide)) rfl rfl rfl (Nat.le_of_ble_eq_true rfl) ⟨Nat.le_of_ble_eq_true rfl, Nat.le_of_ble_eq_true rfl⟩ hc ?_
  rw [show (up v 6 2) 6 = 2 from rfl]
  refine r_iload C dL_law_541 rfl ?_
  refine r_icmpE (tgt := 548) C dL_law_543 (by decide) ?_
  refine r_iload C dL_law_548 rfl ?_
  refine r_ifneK (tgt := 565) C dL_law_550 (by decide) (by decide) ?_
  refine r_goto (tgt := 1415) C dL_law_565 (by decide) ?_
  refine V_drop 5 ?_
  dsimp only [List.set]
  refine V_drop 6 ?_
  dsimp only [List.set]
  exact K _ _ _ _ _ _ _ _ _ _ _ ⟨ho, hh, rfl, rfl⟩

set_option maxRecDepth 100000 in
set_option maxHeartbeats 4000000 in
theorem lw_set {X : gT} {rt : Option FieldType} {kc kn : Nat} {Q : State → Prop} {ad : Int → Nat} {σ : Int → va_E} {b Ls : Nat} {xz : Int → Int} {i : Int} {s tx v t p q : Int → Int} {n k len : Int} {u : Int → Int → Int} {g : Nat → Int64} (C : gOk X cL_law 9 RL room_1 rt) (hX : gXk X) (hsc : gSc X b Ls xz) (hi : 0 ≤ i ∧ i + 3 ≤ Ls) (hc : kc + 1 ≤ 628140 ∧ kn + 6 ≤ 7211684) (I : LI s n k u len tx v p) (K : LK X ad σ Q kc kn b i) (hz : 1 ≤ xz (i + 1) ∧ xz (i + 1) ≤ 50) : V X kc kn Q 568 (LL b ad i) [] ad 152 (LW ad (gty X) σ s n k u len tx v s t p tx q g) := by
  obtain ⟨ho, hh, hv3, hv5⟩ := I
  subst hv3 hv5
  have hs := ho.1
  have hn := ho.2.1
  have hxt := ho.2.2.2
  have hlen := hxt.1
  have hz1 := hsc.2.2 (i + 1)
  have hz2 := hsc.2.2 (i + 2)
  show V X kc kn Q 568 [some (.ref b), some (.ref (ad 0)), some (.ref (ad 145)), some (.ref (ad 151)), some (.int (gI i)), none, none, none, none] [] ad 152 _
  refine r_aload_n C dL_law_568 rfl rfl ?_
  refine r_aload_n C dL_law_569 rfl rfl ?_
  refine r_iload C dL_law_570 rfl ?_
  refine r_iconst C dL_law_572 ?_
  refine r_iadd C dL_law_573 ?_
  refine r_sld C hsc dL_law_574 (by omega) ?_
  refine r_aload_n C dL_law_575 rfl rfl ?_
  refine r_cW C hX.2 cwL_106 (lw_w (w_L_set hX.1 (by omega) ho (by omega) lw_g hz)) dL_law_576 rfl rfl rfl (Nat.le_of_ble_eq_true rfl) ⟨Nat.le_of_ble_eq_true rfl, Nat.le_of_ble_eq_true rfl⟩ hc ?_
  refine r_istore C dL_law_579 (Nat.le_of_ble_eq_true rfl) rfl ?_
  dsimp only [List.set]
  refine r_aload_n C dL_law_581 rfl rfl ?_
  refine r_aload_n C dL_law_582 rfl rfl ?_
  refine r_iload C dL_law_583 rfl ?_
  refine r_iconst C dL_law_585 ?_
  refine r_iadd C dL_law_586 ?_
  refine r_sld C hsc dL_law_587 (by omega) ?_
  refine r_cV C cwL_108 (lw_m (by decide) (c_X5_set (by omega) hn hz)) dL_law_588 rfl (by omega) (lw_r5 (by decide)) rfl rfl rfl (Nat.le_of_ble_eq_true rfl) ⟨Nat.le_of_ble_eq_true rfl, Nat.le_of_ble_eq_true rfl⟩ hc ?_
  refine r_istore C dL_law_591 (Nat.le_of_ble_eq_true rfl) rfl ?_
  dsimp only [List.set]
  refine r_aload_n C dL_law_593 rfl rfl ?_
  refine r_cV C cwL_86 (lw_m (by decide) (c_X5_thrown (by omega))) dL_law_594 rfl (by omega) (lw_r5 (by decide)) rfl rfl rfl (Nat.le_of_ble_eq_true rfl) ⟨Nat.le_of_ble_eq_true rfl, Nat.le_of_ble_eq_true rfl⟩ hc ?_
  rw [show (up (up v 6 0) 3 (pshN (v 3))) 6 = 0 from rfl]
  refine r_iload C dL_law_597 rfl ?_
  refine r_icmpE (tgt := 604) C dL_law_599 (by decide) ?_
  refine r_iload C dL_law_604 rfl ?_
  refine r_ifne0 (tgt := 621) C dL_law_606 (by decide) ?_
  refine r_aload_n C dL_law_609 rfl rfl ?_
  refine r_iconst C dL_law_610 ?_
  refine r_lald C dL_law_611 (by omega) lw_g2 (by omega) (by decide) ?_
  show V _ _ _ _ _ _ (.long (gI (s 0)).toInt64 :: _) _ _ _
  refine r_iload C dL_law_612 rfl ?_
  refine r_i2l C dL_law_614 ?_
  refine r_lcmpE C dL_law_615 ?_
  refine r_ifeq0 (tgt := 621) C dL_law_616 (by decide) ?_
  refine r_goto (tgt := 1415) C dL_law_621 (by decide) ?_
  refine V_drop 5 ?_
  dsimp only [List.set]
  refine V_drop 6 ?_
  dsimp only [List.set]
  exact K _ _ _ _ _ _ _ _ _ _ _ ⟨okX_push ho (okS_set hs hz), hist_push hh hn, rfl, rfl⟩

set_option maxRecDepth 100000 in
set_option maxHeartbeats 4000000 in
theorem lw_set_f1 {X : gT} {rt : Option FieldType} {kc kn : Nat} {Q : State → Prop} {ad : Int → Nat} {σ : Int → va_E} {b Ls : Nat} {xz : Int → Int} {i : Int} {s tx v t p q : Int → Int} {n k len : Int} {u : Int → Int → Int} {g : Nat → Int64} (C : gOk X cL_law 9 RL room_1 rt) (hX : gXk X) (hsc : gSc X b Ls xz) (hi : 0 ≤ i ∧ i + 3 ≤ Ls) (hc : kc + 1 ≤ 628140 ∧ kn + 6 ≤ 7211684) (I : LI s n k u len tx v p) (K : LK X ad σ Q kc kn b i) (hz : ¬ (1 ≤ xz (i + 1) ∧ xz (i + 1) ≤ 50)) : V X kc kn Q 568 (LL b ad i) [] ad 152 (LW ad (gty X) σ s n k u len tx v s t p tx q g) := by
  obtain ⟨ho, hh, hv3, hv5⟩ := I
  subst hv3 hv5
  have hs := ho.1
  have hn := ho.2.1
  have hxt := ho.2.2.2
  have hlen := hxt.1
  have hz1 := hsc.2.2 (i + 1)
  have hz2 := hsc.2.2 (i + 2)
  show V X kc kn Q 568 [some (.ref b), some (.ref (ad 0)), some (.ref (ad 145)), some (.ref (ad 151)), some (.int (gI i)), none, none, none, none] [] ad 152 _
  refine r_aload_n C dL_law_568 rfl rfl ?_
  refine r_aload_n C dL_law_569 rfl rfl ?_
  refine r_iload C dL_law_570 rfl ?_
  refine r_iconst C dL_law_572 ?_
  refine r_iadd C dL_law_573 ?_
  refine r_sld C hsc dL_law_574 (by omega) ?_
  refine r_aload_n C dL_law_575 rfl rfl ?_
  refine r_cW C hX.2 cwL_106 (w_L_set_f1 hX.1 (by omega) ho (by omega) lw_g hz hz1) dL_law_576 rfl rfl rfl (Nat.le_of_ble_eq_true rfl) ⟨Nat.le_of_ble_eq_true rfl, Nat.le_of_ble_eq_true rfl⟩ hc ?_
  refine r_istore C dL_law_579 (Nat.le_of_ble_eq_true rfl) rfl ?_
  dsimp only [List.set]
  refine r_aload_n C dL_law_581 rfl rfl ?_
  refine r_aload_n C dL_law_582 rfl rfl ?_
  refine r_iload C dL_law_583 rfl ?_
  refine r_iconst C dL_law_585 ?_
  refine r_iadd C dL_law_586 ?_
  refine r_sld C hsc dL_law_587 (by omega) ?_
  refine r_cV C cwL_108 (lw_m (by decide) (c_X5_set_f1 (by omega) hz hz1)) dL_law_588 rfl (by omega) (lw_r5 (by decide)) rfl rfl rfl (Nat.le_of_ble_eq_true rfl) ⟨Nat.le_of_ble_eq_true rfl, Nat.le_of_ble_eq_true rfl⟩ hc ?_
  refine r_istore C dL_law_591 (Nat.le_of_ble_eq_true rfl) rfl ?_
  dsimp only [List.set]
  refine r_aload_n C dL_law_593 rfl rfl ?_
  refine r_cV C cwL_86 (lw_m (by decide) (c_X5_thrown (by omega))) dL_law_594 rfl (by omega) (lw_r5 (by decide)) rfl rfl rfl (Nat.le_of_ble_eq_true rfl) ⟨Nat.le_of_ble_eq_true rfl, Nat.le_of_ble_eq_true rfl⟩ hc ?_
  rw [show (up v 6 1) 6 = 1 from rfl]
  refine r_iload C dL_law_597 rfl ?_
  refine r_icmpE (tgt := 604) C dL_law_599 (by decide) ?_
  refine r_iload C dL_law_604 rfl ?_
  refine r_ifneK (tgt := 621) C dL_law_606 (by decide) (by decide) ?_
  refine r_goto (tgt := 1415) C dL_law_621 (by decide) ?_
  refine V_drop 5 ?_
  dsimp only [List.set]
  refine V_drop 6 ?_
  dsimp only [List.set]
  exact K _ _ _ _ _ _ _ _ _ _ _ ⟨ho, hh, rfl, rfl⟩

set_option maxRecDepth 100000 in
set_option maxHeartbeats 4000000 in
theorem lw_keep {X : gT} {rt : Option FieldType} {kc kn : Nat} {Q : State → Prop} {ad : Int → Nat} {σ : Int → va_E} {b Ls : Nat} {xz : Int → Int} {i : Int} {s tx v t p q : Int → Int} {n k len : Int} {u : Int → Int → Int} {g : Nat → Int64} (C : gOk X cL_law 9 RL room_1 rt) (hX : gXk X) (hsc : gSc X b Ls xz) (hi : 0 ≤ i ∧ i + 3 ≤ Ls) (hc : kc + 1 ≤ 628140 ∧ kn + 6 ≤ 7211684) (I : LI s n k u len tx v p) (K : LK X ad σ Q kc kn b i) (hr : 0 ≤ xz (i + 1) ∧ xz (i + 1) < 6) (hk : 0 ≤ xz (i + 2) ∧ xz (i + 2) < 100) (hm : mayK s (xz (i + 1)) (xz (i + 2))) : V X kc kn Q 624 (LL b ad i) [] ad 152 (LW ad (gty X) σ s n k u len tx v s t p tx q g) := by
  obtain ⟨ho, hh, hv3, hv5⟩ := I
  subst hv3 hv5
  have hs := ho.1
  have hn := ho.2.1
  have hxt := ho.2.2.2
  have hlen := hxt.1
  have hz1 := hsc.2.2 (i + 1)
  have hz2 := hsc.2.2 (i + 2)
  show V X kc kn Q 624 [some (.ref b), some (.ref (ad 0)), some (.ref (ad 145)), some (.ref (ad 151)), some (.int (gI i)), none, none, none, none] [] ad 152 _
  refine r_aload_n C dL_law_624 rfl rfl ?_
  refine r_aload_n C dL_law_625 rfl rfl ?_
  refine r_iload C dL_law_626 rfl ?_
  refine r_iconst C dL_law_628 ?_
  refine r_iadd C dL_law_629 ?_
  refine r_sld C hsc dL_law_630 (by omega) ?_
  refine r_aload_n C dL_law_631 rfl rfl ?_
  refine r_iload C dL_law_632 rfl ?_
  refine r_iconst C dL_law_634 ?_
  refine r_iadd C dL_law_635 ?_
  refine r_sld C hsc dL_law_636 (by omega) ?_
  refine r_aload_n C dL_law_637 rfl rfl ?_
  refine r_cW C hX.2 cwL_109 (lw_w (w_L_keep hX.1 (by omega) ho (by omega) lw_g hr hk hm)) dL_law_638 rfl rfl rfl (Nat.le_of_ble_eq_true rfl) ⟨Nat.le_of_ble_eq_true rfl, Nat.le_of_ble_eq_true rfl⟩ hc ?_
  refine r_istore C dL_law_641 (Nat.le_of_ble_eq_true rfl) rfl ?_
  dsimp only [List.set]
  refine r_aload_n C dL_law_643 rfl rfl ?_
  refine r_aload_n C dL_law_644 rfl rfl ?_
  refine r_iload C dL_law_645 rfl ?_
  refine r_iconst C dL_law_647 ?_
  refine r_iadd C dL_law_648 ?_
  refine r_sld C hsc dL_law_649 (by omega) ?_
  refine r_aload_n C dL_law_650 rfl rfl ?_
  refine r_iload C dL_law_651 rfl ?_
  refine r_iconst C dL_law_653 ?_
  refine r_iadd C dL_law_654 ?_
  refine r_sld C hsc dL_law_655 (by omega) ?_
  refine r_cV C cwL_111 (lw_m (by decide) (c_X5_keep (by omega) hn hs hr (by omega) hm)) dL_law_656 rfl (by omega) (lw_r5 (by decide)) rfl rfl rfl (Nat.le_of_ble_eq_true rfl) ⟨Nat.le_of_ble_eq_true rfl, Nat.le_of_ble_eq_true rfl⟩ hc ?_
  refine r_istore C dL_law_659 (Nat.le_of_ble_eq_true rfl) rfl ?_
  dsimp only [List.set]
  refine r_aload_n C dL_law_661 rfl rfl ?_
  refine r_cV C cwL_86 (lw_m (by decide) (c_X5_thrown (by omega))) dL_law_662 rfl (by omega) (lw_r5 (by decide)) rfl rfl rfl (Nat.le_of_ble_eq_true rfl) ⟨Nat.le_of_ble_eq_true rfl, Nat.le_of_ble_eq_true rfl⟩ hc ?_
  rw [show (up (up v 6 0) 3 (pshN (v 3))) 6 = 0 from rfl]
  refine r_iload C dL_law_665 rfl ?_
  refine r_icmpE (tgt := 672) C dL_law_667 (by decide) ?_
  refine r_iload C dL_law_672 rfl ?_
  refine r_ifne0 (tgt := 689) C dL_law_674 (by decide) ?_
  refine r_aload_n C dL_law_677 rfl rfl ?_
  refine r_iconst C dL_law_678 ?_
  refine r_lald C dL_law_679 (by omega) lw_g2 (by omega) (by decide) ?_
  show V _ _ _ _ _ _ (.long (gI (rm s (xz (i + 1)) 6 + 1)).toInt64 :: _) _ _ _
  refine r_iload C dL_law_680 rfl ?_
  refine r_i2l C dL_law_682 ?_
  refine r_lcmpE C dL_law_683 ?_
  refine r_ifeq0 (tgt := 689) C dL_law_684 (by decide) ?_
  refine r_goto (tgt := 1415) C dL_law_689 (by decide) ?_
  refine V_drop 5 ?_
  dsimp only [List.set]
  refine V_drop 6 ?_
  dsimp only [List.set]
  exact K _ _ _ _ _ _ _ _ _ _ _ ⟨okX_push ho (okS_keep hs hr hk hm.2), hist_push hh hn, rfl, rfl⟩

set_option maxRecDepth 100000 in
set_option maxHeartbeats 4000000 in
theorem lw_keep_f1 {X : gT} {rt : Option FieldType} {kc kn : Nat} {Q : State → Prop} {ad : Int → Nat} {σ : Int → va_E} {b Ls : Nat} {xz : Int → Int} {i : Int} {s tx v t p q : Int → Int} {n k len : Int} {u : Int → Int → Int} {g : Nat → Int64} (C : gOk X cL_law 9 RL room_1 rt) (hX : gXk X) (hsc : gSc X b Ls xz) (hi : 0 ≤ i ∧ i + 3 ≤ Ls) (hc : kc + 1 ≤ 628140 ∧ kn + 6 ≤ 7211684) (I : LI s n k u len tx v p) (K : LK X ad σ Q kc kn b i) (hnr : ¬ (0 ≤ xz (i + 1) ∧ xz (i + 1) < 6)) : V X kc kn Q 624 (LL b ad i) [] ad 152 (LW ad (gty X) σ s n k u len tx v s t p tx q g) := by
  obtain ⟨ho, hh, hv3, hv5⟩ := I
  subst hv3 hv5
  have hs := ho.1
  have hn := ho.2.1
  have hxt := ho.2.2.2
  have hlen := hxt.1
  have hz1 := hsc.2.2 (i + 1)
  have hz2 := hsc.2.2 (i + 2)
  show V X kc kn Q 624 [some (.ref b), some (.ref (ad 0)), some (.ref (ad 145)), some (.ref (ad 151)), some (.int (gI i)), none, none, none, none] [] ad 152 _
  refine r_aload_n C dL_law_624 rfl rfl ?_
  refine r_aload_n C dL_law_625 rfl rfl ?_
  refine r_iload C dL_law_626 rfl ?_
  refine r_iconst C dL_law_628 ?_
  refine r_iadd C dL_law_629 ?_
  refine r_sld C hsc dL_law_630 (by omega) ?_
  refine r_aload_n C dL_law_631 rfl rfl ?_
  refine r_iload C dL_law_632 rfl ?_
  refine r_iconst C dL_law_634 ?_
  refine r_iadd C dL_law_635 ?_
  refine r_sld C hsc dL_law_636 (by omega) ?_
  refine r_aload_n C dL_law_637 rfl rfl ?_
  refine r_cW C hX.2 cwL_109 (w_L_keep_f1 hX.1 (by omega) ho (by omega) lw_g hnr hz1) dL_law_638 rfl rfl rfl (Nat.le_of_ble_eq_true rfl) ⟨Nat.le_of_ble_eq_true rfl, Nat.le_of_ble_eq_true rfl⟩ hc ?_
  refine r_istore C dL_law_641 (Nat.le_of_ble_eq_true rfl) rfl ?_
  dsimp only [List.set]
  refine r_aload_n C dL_law_643 rfl rfl ?_
  refine r_aload_n C dL_law_644 rfl rfl ?_
  refine r_iload C dL_law_645 rfl ?_
  refine r_iconst C dL_law_647 ?_
  refine r_iadd C dL_law_648 ?_
  refine r_sld C hsc dL_law_649 (by omega) ?_
  refine r_aload_n C dL_law_650 rfl rfl ?_
  refine r_iload C dL_law_651 rfl ?_
  refine r_iconst C dL_law_653 ?_
  refine r_iadd C dL_law_654 ?_
  refine r_sld C hsc dL_law_655 (by omega) ?_
  refine r_cV C cwL_111 (lw_m (by decide) (c_X5_keep_f1 (by omega) hnr hz1)) dL_law_656 rfl (by omega) (lw_r5 (by decide)) rfl rfl rfl (Nat.le_of_ble_eq_true rfl) ⟨Nat.le_of_ble_eq_true rfl, Nat.le_of_ble_eq_true rfl⟩ hc ?_
  refine r_istore C dL_law_659 (Nat.le_of_ble_eq_true rfl) rfl ?_
  dsimp only [List.set]
  refine r_aload_n C dL_law_661 rfl rfl ?_
  refine r_cV C cwL_86 (lw_m (by decide) (c_X5_thrown (by omega))) dL_law_662 rfl (by omega) (lw_r5 (by decide)) rfl rfl rfl (Nat.le_of_ble_eq_true rfl) ⟨Nat.le_of_ble_eq_true rfl, Nat.le_of_ble_eq_true rfl⟩ hc ?_
  rw [show (up v 6 1) 6 = 1 from rfl]
  refine r_iload C dL_law_665 rfl ?_
  refine r_icmpE (tgt := 672) C dL_law_667 (by decide) ?_
  refine r_iload C dL_law_672 rfl ?_
  refine r_ifneK (tgt := 689) C dL_law_674 (by decide) (by decide) ?_
  refine r_goto (tgt := 1415) C dL_law_689 (by decide) ?_
  refine V_drop 5 ?_
  dsimp only [List.set]
  refine V_drop 6 ?_
  dsimp only [List.set]
  exact K _ _ _ _ _ _ _ _ _ _ _ ⟨ho, hh, rfl, rfl⟩

set_option maxRecDepth 100000 in
set_option maxHeartbeats 4000000 in
theorem lw_keep_f2 {X : gT} {rt : Option FieldType} {kc kn : Nat} {Q : State → Prop} {ad : Int → Nat} {σ : Int → va_E} {b Ls : Nat} {xz : Int → Int} {i : Int} {s tx v t p q : Int → Int} {n k len : Int} {u : Int → Int → Int} {g : Nat → Int64} (C : gOk X cL_law 9 RL room_1 rt) (hX : gXk X) (hsc : gSc X b Ls xz) (hi : 0 ≤ i ∧ i + 3 ≤ Ls) (hc : kc + 1 ≤ 628140 ∧ kn + 6 ≤ 7211684) (I : LI s n k u len tx v p) (K : LK X ad σ Q kc kn b i) (hr : 0 ≤ xz (i + 1) ∧ xz (i + 1) < 6) (hk : ¬ (0 ≤ xz (i + 2) ∧ xz (i + 2) < 100)) : V X kc kn Q 624 (LL b ad i) [] ad 152 (LW ad (gty X) σ s n k u len tx v s t p tx q g) := by
  obtain ⟨ho, hh, hv3, hv5⟩ := I
  subst hv3 hv5
  have hs := ho.1
  have hn := ho.2.1
  have hxt := ho.2.2.2
  have hlen := hxt.1
  have hz1 := hsc.2.2 (i + 1)
  have hz2 := hsc.2.2 (i + 2)
  show V X kc kn Q 624 [some (.ref b), some (.ref (ad 0)), some (.ref (ad 145)), some (.ref (ad 151)), some (.int (gI i)), none, none, none, none] [] ad 152 _
  refine r_aload_n C dL_law_624 rfl rfl ?_
  refine r_aload_n C dL_law_625 rfl rfl ?_
  refine r_iload C dL_law_626 rfl ?_
  refine r_iconst C dL_law_628 ?_
  refine r_iadd C dL_law_629 ?_
  refine r_sld C hsc dL_law_630 (by omega) ?_
  refine r_aload_n C dL_law_631 rfl rfl ?_
  refine r_iload C dL_law_632 rfl ?_
  refine r_iconst C dL_law_634 ?_
  refine r_iadd C dL_law_635 ?_
  refine r_sld C hsc dL_law_636 (by omega) ?_
  refine r_aload_n C dL_law_637 rfl rfl ?_
  refine r_cW C hX.2 cwL_109 (w_L_keep_f2 hX.1 (by omega) ho (by omega) lw_g hr hk hz2) dL_law_638 rfl rfl rfl (Nat.le_of_ble_eq_true rfl) ⟨Nat.le_of_ble_eq_true rfl, Nat.le_of_ble_eq_true rfl⟩ hc ?_
  refine r_istore C dL_law_641 (Nat.le_of_ble_eq_true rfl) rfl ?_
  dsimp only [List.set]
  refine r_aload_n C dL_law_643 rfl rfl ?_
  refine r_aload_n C dL_law_644 rfl rfl ?_
  refine r_iload C dL_law_645 rfl ?_
  refine r_iconst C dL_law_647 ?_
  refine r_iadd C dL_law_648 ?_
  refine r_sld C hsc dL_law_649 (by omega) ?_
  refine r_aload_n C dL_law_650 rfl rfl ?_
  refine r_iload C dL_law_651 rfl ?_
  refine r_iconst C dL_law_653 ?_
  refine r_iadd C dL_law_654 ?_
  refine r_sld C hsc dL_law_655 (by omega) ?_
  refine r_cV C cwL_111 (lw_m (by decide) (c_X5_keep_f2 (by omega) hr (by omega) hz2)) dL_law_656 rfl (by omega) (lw_r5 (by decide)) rfl rfl rfl (Nat.le_of_ble_eq_true rfl) ⟨Nat.le_of_ble_eq_true rfl, Nat.le_of_ble_eq_true rfl⟩ hc ?_
  refine r_istore C dL_law_659 (Nat.le_of_ble_eq_true rfl) rfl ?_
  dsimp only [List.set]
  refine r_aload_n C dL_law_661 rfl rfl ?_
  refine r_cV C cwL_86 (lw_m (by decide) (c_X5_thrown (by omega))) dL_law_662 rfl (by omega) (lw_r5 (by decide)) rfl rfl rfl (Nat.le_of_ble_eq_true rfl) ⟨Nat.le_of_ble_eq_true rfl, Nat.le_of_ble_eq_true rfl⟩ hc ?_
  rw [show (up v 6 2) 6 = 2 from rfl]
  refine r_iload C dL_law_665 rfl ?_
  refine r_icmpE (tgt := 672) C dL_law_667 (by decide) ?_
  refine r_iload C dL_law_672 rfl ?_
  refine r_ifneK (tgt := 689) C dL_law_674 (by decide) (by decide) ?_
  refine r_goto (tgt := 1415) C dL_law_689 (by decide) ?_
  refine V_drop 5 ?_
  dsimp only [List.set]
  refine V_drop 6 ?_
  dsimp only [List.set]
  exact K _ _ _ _ _ _ _ _ _ _ _ ⟨ho, hh, rfl, rfl⟩

set_option maxRecDepth 100000 in
set_option maxHeartbeats 4000000 in
theorem lw_keep_f3 {X : gT} {rt : Option FieldType} {kc kn : Nat} {Q : State → Prop} {ad : Int → Nat} {σ : Int → va_E} {b Ls : Nat} {xz : Int → Int} {i : Int} {s tx v t p q : Int → Int} {n k len : Int} {u : Int → Int → Int} {g : Nat → Int64} (C : gOk X cL_law 9 RL room_1 rt) (hX : gXk X) (hsc : gSc X b Ls xz) (hi : 0 ≤ i ∧ i + 3 ≤ Ls) (hc : kc + 1 ≤ 628140 ∧ kn + 6 ≤ 7211684) (I : LI s n k u len tx v p) (K : LK X ad σ Q kc kn b i) (hr : 0 ≤ xz (i + 1) ∧ xz (i + 1) < 6) (hk : 0 ≤ xz (i + 2) ∧ xz (i + 2) < 100) (hm : ¬ mayK s (xz (i + 1)) (xz (i + 2))) : V X kc kn Q 624 (LL b ad i) [] ad 152 (LW ad (gty X) σ s n k u len tx v s t p tx q g) := by
  obtain ⟨ho, hh, hv3, hv5⟩ := I
  subst hv3 hv5
  have hs := ho.1
  have hn := ho.2.1
  have hxt := ho.2.2.2
  have hlen := hxt.1
  have hz1 := hsc.2.2 (i + 1)
  have hz2 := hsc.2.2 (i + 2)
  show V X kc kn Q 624 [some (.ref b), some (.ref (ad 0)), some (.ref (ad 145)), some (.ref (ad 151)), some (.int (gI i)), none, none, none, none] [] ad 152 _
  refine r_aload_n C dL_law_624 rfl rfl ?_
  refine r_aload_n C dL_law_625 rfl rfl ?_
  refine r_iload C dL_law_626 rfl ?_
  refine r_iconst C dL_law_628 ?_
  refine r_iadd C dL_law_629 ?_
  refine r_sld C hsc dL_law_630 (by omega) ?_
  refine r_aload_n C dL_law_631 rfl rfl ?_
  refine r_iload C dL_law_632 rfl ?_
  refine r_iconst C dL_law_634 ?_
  refine r_iadd C dL_law_635 ?_
  refine r_sld C hsc dL_law_636 (by omega) ?_
  refine r_aload_n C dL_law_637 rfl rfl ?_
  refine r_cW C hX.2 cwL_109 (w_L_keep_f3 hX.1 (by omega) ho (by omega) lw_g hr hk hm) dL_law_638 rfl rfl rfl (Nat.le_of_ble_eq_true rfl) ⟨Nat.le_of_ble_eq_true rfl, Nat.le_of_ble_eq_true rfl⟩ hc ?_
  refine r_istore C dL_law_641 (Nat.le_of_ble_eq_true rfl) rfl ?_
  dsimp only [List.set]
  refine r_aload_n C dL_law_643 rfl rfl ?_
  refine r_aload_n C dL_law_644 rfl rfl ?_
  refine r_iload C dL_law_645 rfl ?_
  refine r_iconst C dL_law_647 ?_
  refine r_iadd C dL_law_648 ?_
  refine r_sld C hsc dL_law_649 (by omega) ?_
  refine r_aload_n C dL_law_650 rfl rfl ?_
  refine r_iload C dL_law_651 rfl ?_
  refine r_iconst C dL_law_653 ?_
  refine r_iadd C dL_law_654 ?_
  refine r_sld C hsc dL_law_655 (by omega) ?_
  refine r_cV C cwL_111 (lw_m (by decide) (c_X5_keep_f3 (by omega) hs hr (by omega) hm)) dL_law_656 rfl (by omega) (lw_r5 (by decide)) rfl rfl rfl (Nat.le_of_ble_eq_true rfl) ⟨Nat.le_of_ble_eq_true rfl, Nat.le_of_ble_eq_true rfl⟩ hc ?_
  refine r_istore C dL_law_659 (Nat.le_of_ble_eq_true rfl) rfl ?_
  dsimp only [List.set]
  refine r_aload_n C dL_law_661 rfl rfl ?_
  refine r_cV C cwL_86 (lw_m (by decide) (c_X5_thrown (by omega))) dL_law_662 rfl (by omega) (lw_r5 (by decide)) rfl rfl rfl (Nat.le_of_ble_eq_true rfl) ⟨Nat.le_of_ble_eq_true rfl, Nat.le_of_ble_eq_true rfl⟩ hc ?_
  rw [show (up v 6 3) 6 = 3 from rfl]
  refine r_iload C dL_law_665 rfl ?_
  refine r_icmpE (tgt := 672) C dL_law_667 (by decide) ?_
  refine r_iload C dL_law_672 rfl ?_
  refine r_ifneK (tgt := 689) C dL_law_674 (by decide) (by decide) ?_
  refine r_goto (tgt := 1415) C dL_law_689 (by decide) ?_
  refine V_drop 5 ?_
  dsimp only [List.set]
  refine V_drop 6 ?_
  dsimp only [List.set]
  exact K _ _ _ _ _ _ _ _ _ _ _ ⟨ho, hh, rfl, rfl⟩

set_option maxRecDepth 100000 in
set_option maxHeartbeats 4000000 in
theorem lw_read_a {X : gT} {rt : Option FieldType} {kc kn : Nat} {Q : State → Prop} {ad : Int → Nat} {σ : Int → va_E} {b Ls : Nat} {xz : Int → Int} {i : Int} {s tx v t p q : Int → Int} {n k len : Int} {u : Int → Int → Int} {g : Nat → Int64} (C : gOk X cL_law 9 RL room_1 rt) (hX : gXk X) (hsc : gSc X b Ls xz) (hi : 0 ≤ i ∧ i + 3 ≤ Ls) (hc : kc + 1 ≤ 628140 ∧ kn + 6 ≤ 7211684) (I : LI s n k u len tx v p) (K : LK X ad σ Q kc kn b i) (hk : 0 ≤ xz (i + 1) ∧ xz (i + 1) < 100) (hno : rof s (xz (i + 1)) = -1) : V X kc kn Q 692 (LL b ad i) [] ad 152 (LW ad (gty X) σ s n k u len tx v s t p tx q g) := by
  obtain ⟨ho, hh, hv3, hv5⟩ := I
  subst hv3 hv5
  have hs := ho.1
  have hn := ho.2.1
  have hxt := ho.2.2.2
  have hlen := hxt.1
  have hz1 := hsc.2.2 (i + 1)
  have hz2 := hsc.2.2 (i + 2)
  have hrd : rdS s (xz (i + 1)) = s := by unfold rdS; rw [if_pos hno]
  show V X kc kn Q 692 [some (.ref b), some (.ref (ad 0)), some (.ref (ad 145)), some (.ref (ad 151)), some (.int (gI i)), none, none, none, none] [] ad 152 _
  refine r_aload_n C dL_law_692 rfl rfl ?_
  refine r_aload_n C dL_law_693 rfl rfl ?_
  refine r_iload C dL_law_694 rfl ?_
  refine r_iconst C dL_law_696 ?_
  refine r_iadd C dL_law_697 ?_
  refine r_sld C hsc dL_law_698 (by omega) ?_
  refine r_aload_n C dL_law_699 rfl rfl ?_
  refine r_cW C hX.2 cwL_112 (lw_w (w_L_read hX.1 (by omega) ho (by omega) lw_g hk)) dL_law_700 rfl rfl rfl (Nat.le_of_ble_eq_true rfl) ⟨Nat.le_of_ble_eq_true rfl, Nat.le_of_ble_eq_true rfl⟩ hc ?_
  refine r_istore C dL_law_703 (Nat.le_of_ble_eq_true rfl) rfl ?_
  dsimp only [List.set]
  refine r_aload_n C dL_law_705 rfl rfl ?_
  refine r_aload_n C dL_law_706 rfl rfl ?_
  refine r_iload C dL_law_707 rfl ?_
  refine r_iconst C dL_law_709 ?_
  refine r_iadd C dL_law_710 ?_
  refine r_sld C hsc dL_law_711 (by omega) ?_
  refine r_cV C cwL_114 (lw_m (by decide) (c_X5_read_a (by omega) hn hs (by omega) hno)) dL_law_712 rfl (by omega) (lw_r5 (by decide)) rfl rfl rfl (Nat.le_of_ble_eq_true rfl) ⟨Nat.le_of_ble_eq_true rfl, Nat.le_of_ble_eq_true rfl⟩ hc ?_
  rw [show gI (-1) = gI (rof s (xz (i + 1))) by rw [hno]]
  refine r_istore C dL_law_715 (Nat.le_of_ble_eq_true rfl) rfl ?_
  dsimp only [List.set]
  refine r_aload_n C dL_law_717 rfl rfl ?_
  refine r_cV C cwL_86 (lw_m (by decide) (c_X5_thrown (by omega))) dL_law_718 rfl (by omega) (lw_r5 (by decide)) rfl rfl rfl (Nat.le_of_ble_eq_true rfl) ⟨Nat.le_of_ble_eq_true rfl, Nat.le_of_ble_eq_true rfl⟩ hc ?_
  rw [show (up (up v 6 0) 3 (pshN (v 3))) 6 = 0 from rfl]
  refine r_iload C dL_law_721 rfl ?_
  refine r_icmpE (tgt := 728) C dL_law_723 (by decide) ?_
  refine r_iload C dL_law_728 rfl ?_
  refine r_ifne0 (tgt := 745) C dL_law_730 (by decide) ?_
  refine r_aload_n C dL_law_733 rfl rfl ?_
  refine r_iconst C dL_law_734 ?_
  refine r_lald C dL_law_735 (by omega) lw_g2 (by omega) (by decide) ?_
  show V _ _ _ _ _ _ (.long (gI (rof s (xz (i + 1)))).toInt64 :: _) _ _ _
  refine r_iload C dL_law_736 rfl ?_
  refine r_i2l C dL_law_738 ?_
  refine r_lcmpE C dL_law_739 ?_
  refine r_ifeq0 (tgt := 745) C dL_law_740 (by decide) ?_
  refine r_goto (tgt := 1415) C dL_law_745 (by decide) ?_
  refine V_drop 5 ?_
  dsimp only [List.set]
  refine V_drop 6 ?_
  dsimp only [List.set]
  exact LK_eq K hrd ⟨okX_push ho (okS_rd hs _), hist_push hh hn, rfl, rfl⟩

set_option maxRecDepth 100000 in
set_option maxHeartbeats 4000000 in
theorem lw_read_l {X : gT} {rt : Option FieldType} {kc kn : Nat} {Q : State → Prop} {ad : Int → Nat} {σ : Int → va_E} {b Ls : Nat} {xz : Int → Int} {i : Int} {s tx v t p q : Int → Int} {n k len : Int} {u : Int → Int → Int} {g : Nat → Int64} (C : gOk X cL_law 9 RL room_1 rt) (hX : gXk X) (hsc : gSc X b Ls xz) (hi : 0 ≤ i ∧ i + 3 ≤ Ls) (hc : kc + 1 ≤ 628140 ∧ kn + 6 ≤ 7211684) (I : LI s n k u len tx v p) (K : LK X ad σ Q kc kn b i) (hk : 0 ≤ xz (i + 1) ∧ xz (i + 1) < 100) (hyes : rof s (xz (i + 1)) ≠ -1) (hlit : rm s (rof s (xz (i + 1))) 1 = 1) : V X kc kn Q 692 (LL b ad i) [] ad 152 (LW ad (gty X) σ s n k u len tx v s t p tx q g) := by
  obtain ⟨ho, hh, hv3, hv5⟩ := I
  subst hv3 hv5
  have hs := ho.1
  have hn := ho.2.1
  have hxt := ho.2.2.2
  have hlen := hxt.1
  have hz1 := hsc.2.2 (i + 1)
  have hz2 := hsc.2.2 (i + 2)
  have hrd : rdS s (xz (i + 1)) = (bts 1 (up (up s 4 (s 4 + 1)) (9 + 15 * rof s (xz (i + 1)) + 2) 0) 0).1 := by unfold rdS; rw [if_neg hyes, if_pos hlit]
  show V X kc kn Q 692 [some (.ref b), some (.ref (ad 0)), some (.ref (ad 145)), some (.ref (ad 151)), some (.int (gI i)), none, none, none, none] [] ad 152 _
  refine r_aload_n C dL_law_692 rfl rfl ?_
  refine r_aload_n C dL_law_693 rfl rfl ?_
  refine r_iload C dL_law_694 rfl ?_
  refine r_iconst C dL_law_696 ?_
  refine r_iadd C dL_law_697 ?_
  refine r_sld C hsc dL_law_698 (by omega) ?_
  refine r_aload_n C dL_law_699 rfl rfl ?_
  refine r_cW C hX.2 cwL_112 (lw_w (w_L_read hX.1 (by omega) ho (by omega) lw_g hk)) dL_law_700 rfl rfl rfl (Nat.le_of_ble_eq_true rfl) ⟨Nat.le_of_ble_eq_true rfl, Nat.le_of_ble_eq_true rfl⟩ hc ?_
  refine r_istore C dL_law_703 (Nat.le_of_ble_eq_true rfl) rfl ?_
  dsimp only [List.set]
  refine r_aload_n C dL_law_705 rfl rfl ?_
  refine r_aload_n C dL_law_706 rfl rfl ?_
  refine r_iload C dL_law_707 rfl ?_
  refine r_iconst C dL_law_709 ?_
  refine r_iadd C dL_law_710 ?_
  refine r_sld C hsc dL_law_711 (by omega) ?_
  refine r_cV C cwL_114 (lw_m (by decide) (c_X5_read_l (by omega) hn hs (by omega) hyes hlit)) dL_law_712 rfl (by omega) (lw_r5 (by decide)) rfl rfl rfl (Nat.le_of_ble_eq_true rfl) ⟨Nat.le_of_ble_eq_true rfl, Nat.le_of_ble_eq_true rfl⟩ hc ?_
  refine r_istore C dL_law_715 (Nat.le_of_ble_eq_true rfl) rfl ?_
  dsimp only [List.set]
  refine r_aload_n C dL_law_717 rfl rfl ?_
  refine r_cV C cwL_86 (lw_m (by decide) (c_X5_thrown (by omega))) dL_law_718 rfl (by omega) (lw_r5 (by decide)) rfl rfl rfl (Nat.le_of_ble_eq_true rfl) ⟨Nat.le_of_ble_eq_true rfl, Nat.le_of_ble_eq_true rfl⟩ hc ?_
  rw [show (up (up v 6 0) 3 (pshN (v 3))) 6 = 0 from rfl]
  refine r_iload C dL_law_721 rfl ?_
  refine r_icmpE (tgt := 728) C dL_law_723 (by decide) ?_
  refine r_iload C dL_law_728 rfl ?_
  refine r_ifne0 (tgt := 745) C dL_law_730 (by decide) ?_
  refine r_aload_n C dL_law_733 rfl rfl ?_
  refine r_iconst C dL_law_734 ?_
  refine r_lald C dL_law_735 (by omega) lw_g2 (by omega) (by decide) ?_
  show V _ _ _ _ _ _ (.long (gI (rof s (xz (i + 1)))).toInt64 :: _) _ _ _
  refine r_iload C dL_law_736 rfl ?_
  refine r_i2l C dL_law_738 ?_
  refine r_lcmpE C dL_law_739 ?_
  refine r_ifeq0 (tgt := 745) C dL_law_740 (by decide) ?_
  refine r_goto (tgt := 1415) C dL_law_745 (by decide) ?_
  refine V_drop 5 ?_
  dsimp only [List.set]
  refine V_drop 6 ?_
  dsimp only [List.set]
  exact LK_eq K hrd ⟨okX_push ho (okS_rd hs _), hist_push hh hn, rfl, rfl⟩

set_option maxRecDepth 100000 in
set_option maxHeartbeats 4000000 in
theorem lw_read_d {X : gT} {rt : Option FieldType} {kc kn : Nat} {Q : State → Prop} {ad : Int → Nat} {σ : Int → va_E} {b Ls : Nat} {xz : Int → Int} {i : Int} {s tx v t p q : Int → Int} {n k len : Int} {u : Int → Int → Int} {g : Nat → Int64} (C : gOk X cL_law 9 RL room_1 rt) (hX : gXk X) (hsc : gSc X b Ls xz) (hi : 0 ≤ i ∧ i + 3 ≤ Ls) (hc : kc + 1 ≤ 628140 ∧ kn + 6 ≤ 7211684) (I : LI s n k u len tx v p) (K : LK X ad σ Q kc kn b i) (hk : 0 ≤ xz (i + 1) ∧ xz (i + 1) < 100) (hyes : rof s (xz (i + 1)) ≠ -1) (hlit : ¬ rm s (rof s (xz (i + 1))) 1 = 1) : V X kc kn Q 692 (LL b ad i) [] ad 152 (LW ad (gty X) σ s n k u len tx v s t p tx q g) := by
  obtain ⟨ho, hh, hv3, hv5⟩ := I
  subst hv3 hv5
  have hs := ho.1
  have hn := ho.2.1
  have hxt := ho.2.2.2
  have hlen := hxt.1
  have hz1 := hsc.2.2 (i + 1)
  have hz2 := hsc.2.2 (i + 2)
  have hrd : rdS s (xz (i + 1)) = (bts 3 (up (up s 4 (s 4 + 1)) 5 (s 5 + 1)) 0).1 := by unfold rdS; rw [if_neg hyes, if_neg hlit]
  show V X kc kn Q 692 [some (.ref b), some (.ref (ad 0)), some (.ref (ad 145)), some (.ref (ad 151)), some (.int (gI i)), none, none, none, none] [] ad 152 _
  refine r_aload_n C dL_law_692 rfl rfl ?_
  refine r_aload_n C dL_law_693 rfl rfl ?_
  refine r_iload C dL_law_694 rfl ?_
  refine r_iconst C dL_law_696 ?_
  refine r_iadd C dL_law_697 ?_
  refine r_sld C hsc dL_law_698 (by omega) ?_
  refine r_aload_n C dL_law_699 rfl rfl ?_
  refine r_cW C hX.2 cwL_112 (lw_w (w_L_read hX.1 (by omega) ho (by omega) lw_g hk)) dL_law_700 rfl rfl rfl (Nat.le_of_ble_eq_true rfl) ⟨Nat.le_of_ble_eq_true rfl, Nat.le_of_ble_eq_true rfl⟩ hc ?_
  refine r_istore C dL_law_703 (Nat.le_of_ble_eq_true rfl) rfl ?_
  dsimp only [List.set]
  refine r_aload_n C dL_law_705 rfl rfl ?_
  refine r_aload_n C dL_law_706 rfl rfl ?_
  refine r_iload C dL_law_707 rfl ?_
  refine r_iconst C dL_law_709 ?_
  refine r_iadd C dL_law_710 ?_
  refine r_sld C hsc dL_law_711 (by omega) ?_
  refine r_cV C cwL_114 (lw_m (by decide) (c_X5_read_d (by omega) hn hs (by omega) hyes hlit)) dL_law_712 rfl (by omega) (lw_r5 (by decide)) rfl rfl rfl (Nat.le_of_ble_eq_true rfl) ⟨Nat.le_of_ble_eq_true rfl, Nat.le_of_ble_eq_true rfl⟩ hc ?_
  refine r_istore C dL_law_715 (Nat.le_of_ble_eq_true rfl) rfl ?_
  dsimp only [List.set]
  refine r_aload_n C dL_law_717 rfl rfl ?_
  refine r_cV C cwL_86 (lw_m (by decide) (c_X5_thrown (by omega))) dL_law_718 rfl (by omega) (lw_r5 (by decide)) rfl rfl rfl (Nat.le_of_ble_eq_true rfl) ⟨Nat.le_of_ble_eq_true rfl, Nat.le_of_ble_eq_true rfl⟩ hc ?_
  rw [show (up (up v 6 0) 3 (pshN (v 3))) 6 = 0 from rfl]
  refine r_iload C dL_law_721 rfl ?_
  refine r_icmpE (tgt := 728) C dL_law_723 (by decide) ?_
  refine r_iload C dL_law_728 rfl ?_
  refine r_ifne0 (tgt := 745) C dL_law_730 (by decide) ?_
  refine r_aload_n C dL_law_733 rfl rfl ?_
  refine r_iconst C dL_law_734 ?_
  refine r_lald C dL_law_735 (by omega) lw_g2 (by omega) (by decide) ?_
  show V _ _ _ _ _ _ (.long (gI (rof s (xz (i + 1)))).toInt64 :: _) _ _ _
  refine r_iload C dL_law_736 rfl ?_
  refine r_i2l C dL_law_738 ?_
  refine r_lcmpE C dL_law_739 ?_
  refine r_ifeq0 (tgt := 745) C dL_law_740 (by decide) ?_
  refine r_goto (tgt := 1415) C dL_law_745 (by decide) ?_
  refine V_drop 5 ?_
  dsimp only [List.set]
  refine V_drop 6 ?_
  dsimp only [List.set]
  exact LK_eq K hrd ⟨okX_push ho (okS_rd hs _), hist_push hh hn, rfl, rfl⟩

set_option maxRecDepth 100000 in
set_option maxHeartbeats 4000000 in
theorem lw_read_f1 {X : gT} {rt : Option FieldType} {kc kn : Nat} {Q : State → Prop} {ad : Int → Nat} {σ : Int → va_E} {b Ls : Nat} {xz : Int → Int} {i : Int} {s tx v t p q : Int → Int} {n k len : Int} {u : Int → Int → Int} {g : Nat → Int64} (C : gOk X cL_law 9 RL room_1 rt) (hX : gXk X) (hsc : gSc X b Ls xz) (hi : 0 ≤ i ∧ i + 3 ≤ Ls) (hc : kc + 1 ≤ 628140 ∧ kn + 6 ≤ 7211684) (I : LI s n k u len tx v p) (K : LK X ad σ Q kc kn b i) (hk : ¬ (0 ≤ xz (i + 1) ∧ xz (i + 1) < 100)) : V X kc kn Q 692 (LL b ad i) [] ad 152 (LW ad (gty X) σ s n k u len tx v s t p tx q g) := by
  obtain ⟨ho, hh, hv3, hv5⟩ := I
  subst hv3 hv5
  have hs := ho.1
  have hn := ho.2.1
  have hxt := ho.2.2.2
  have hlen := hxt.1
  have hz1 := hsc.2.2 (i + 1)
  have hz2 := hsc.2.2 (i + 2)
  show V X kc kn Q 692 [some (.ref b), some (.ref (ad 0)), some (.ref (ad 145)), some (.ref (ad 151)), some (.int (gI i)), none, none, none, none] [] ad 152 _
  refine r_aload_n C dL_law_692 rfl rfl ?_
  refine r_aload_n C dL_law_693 rfl rfl ?_
  refine r_iload C dL_law_694 rfl ?_
  refine r_iconst C dL_law_696 ?_
  refine r_iadd C dL_law_697 ?_
  refine r_sld C hsc dL_law_698 (by omega) ?_
  refine r_aload_n C dL_law_699 rfl rfl ?_
  refine r_cW C hX.2 cwL_112 (w_L_read_f1 hX.1 (by omega) ho (by omega) lw_g hk hz1) dL_law_700 rfl rfl rfl (Nat.le_of_ble_eq_true rfl) ⟨Nat.le_of_ble_eq_true rfl, Nat.le_of_ble_eq_true rfl⟩ hc ?_
  refine r_istore C dL_law_703 (Nat.le_of_ble_eq_true rfl) rfl ?_
  dsimp only [List.set]
  refine r_aload_n C dL_law_705 rfl rfl ?_
  refine r_aload_n C dL_law_706 rfl rfl ?_
  refine r_iload C dL_law_707 rfl ?_
  refine r_iconst C dL_law_709 ?_
  refine r_iadd C dL_law_710 ?_
  refine r_sld C hsc dL_law_711 (by omega) ?_
  refine r_cV C cwL_114 (lw_m (by decide) (c_X5_read_f1 (by omega) (by omega) hz1)) dL_law_712 rfl (by omega) (lw_r5 (by decide)) rfl rfl rfl (Nat.le_of_ble_eq_true rfl) ⟨Nat.le_of_ble_eq_true rfl, Nat.le_of_ble_eq_true rfl⟩ hc ?_
  refine r_istore C dL_law_715 (Nat.le_of_ble_eq_true rfl) rfl ?_
  dsimp only [List.set]
  refine r_aload_n C dL_law_717 rfl rfl ?_
  refine r_cV C cwL_86 (lw_m (by decide) (c_X5_thrown (by omega))) dL_law_718 rfl (by omega) (lw_r5 (by decide)) rfl rfl rfl (Nat.le_of_ble_eq_true rfl) ⟨Nat.le_of_ble_eq_true rfl, Nat.le_of_ble_eq_true rfl⟩ hc ?_
  rw [show (up v 6 1) 6 = 1 from rfl]
  refine r_iload C dL_law_721 rfl ?_
  refine r_icmpE (tgt := 728) C dL_law_723 (by decide) ?_
  refine r_iload C dL_law_728 rfl ?_
  refine r_ifneK (tgt := 745) C dL_law_730 (by decide) (by decide) ?_
  refine r_goto (tgt := 1415) C dL_law_745 (by decide) ?_
  refine V_drop 5 ?_
  dsimp only [List.set]
  refine V_drop 6 ?_
  dsimp only [List.set]
  exact K _ _ _ _ _ _ _ _ _ _ _ ⟨ho, hh, rfl, rfl⟩

set_option maxRecDepth 100000 in
set_option maxHeartbeats 4000000 in
theorem lw_pass {X : gT} {rt : Option FieldType} {kc kn : Nat} {Q : State → Prop} {ad : Int → Nat} {σ : Int → va_E} {b Ls : Nat} {xz : Int → Int} {i : Int} {s tx v t p q : Int → Int} {n k len : Int} {u : Int → Int → Int} {g : Nat → Int64} (C : gOk X cL_law 9 RL room_1 rt) (hX : gXk X) (hsc : gSc X b Ls xz) (hi : 0 ≤ i ∧ i + 3 ≤ Ls) (hc : kc + 1 ≤ 628140 ∧ kn + 6 ≤ 7211684) (I : LI s n k u len tx v p) (K : LK X ad σ Q kc kn b i) (hz : 1 ≤ xz (i + 1) ∧ xz (i + 1) ≤ 60) : V X kc kn Q 748 (LL b ad i) [] ad 152 (LW ad (gty X) σ s n k u len tx v s t p tx q g) := by
  obtain ⟨ho, hh, hv3, hv5⟩ := I
  subst hv3 hv5
  have hs := ho.1
  have hn := ho.2.1
  have hxt := ho.2.2.2
  have hlen := hxt.1
  have hz1 := hsc.2.2 (i + 1)
  have hz2 := hsc.2.2 (i + 2)
  show V X kc kn Q 748 [some (.ref b), some (.ref (ad 0)), some (.ref (ad 145)), some (.ref (ad 151)), some (.int (gI i)), none, none, none, none] [] ad 152 _
  refine r_aload_n C dL_law_748 rfl rfl ?_
  refine r_aload_n C dL_law_749 rfl rfl ?_
  refine r_iload C dL_law_750 rfl ?_
  refine r_iconst C dL_law_752 ?_
  refine r_iadd C dL_law_753 ?_
  refine r_sld C hsc dL_law_754 (by omega) ?_
  refine r_aload_n C dL_law_755 rfl rfl ?_
  refine r_cW C hX.2 cwL_115 (lw_w (w_L_pass hX.1 (by omega) ho (by omega) lw_g hz)) dL_law_756 rfl rfl rfl (Nat.le_of_ble_eq_true rfl) ⟨Nat.le_of_ble_eq_true rfl, Nat.le_of_ble_eq_true rfl⟩ hc ?_
  refine r_istore C dL_law_759 (Nat.le_of_ble_eq_true rfl) rfl ?_
  dsimp only [List.set]
  refine r_aload_n C dL_law_761 rfl rfl ?_
  refine r_aload_n C dL_law_762 rfl rfl ?_
  refine r_iload C dL_law_763 rfl ?_
  refine r_iconst C dL_law_765 ?_
  refine r_iadd C dL_law_766 ?_
  refine r_sld C hsc dL_law_767 (by omega) ?_
  refine r_cV C cwL_117 (lw_m (by decide) (c_X5_pass (by omega) hn hs hz)) dL_law_768 rfl (by omega) (lw_r5 (by decide)) rfl rfl rfl (Nat.le_of_ble_eq_true rfl) ⟨Nat.le_of_ble_eq_true rfl, Nat.le_of_ble_eq_true rfl⟩ hc ?_
  refine r_istore C dL_law_771 (Nat.le_of_ble_eq_true rfl) rfl ?_
  dsimp only [List.set]
  refine r_aload_n C dL_law_773 rfl rfl ?_
  refine r_cV C cwL_86 (lw_m (by decide) (c_X5_thrown (by omega))) dL_law_774 rfl (by omega) (lw_r5 (by decide)) rfl rfl rfl (Nat.le_of_ble_eq_true rfl) ⟨Nat.le_of_ble_eq_true rfl, Nat.le_of_ble_eq_true rfl⟩ hc ?_
  rw [show (up (up v 6 0) 3 (pshN (v 3))) 6 = 0 from rfl]
  refine r_iload C dL_law_777 rfl ?_
  refine r_icmpE (tgt := 784) C dL_law_779 (by decide) ?_
  refine r_iload C dL_law_784 rfl ?_
  refine r_ifne0 (tgt := 801) C dL_law_786 (by decide) ?_
  refine r_aload_n C dL_law_789 rfl rfl ?_
  refine r_iconst C dL_law_790 ?_
  refine r_lald C dL_law_791 (by omega) lw_g2 (by omega) (by decide) ?_
  show V _ _ _ _ _ _ (.long (gI ((bts (xz (i + 1)).toNat s 0).2)).toInt64 :: _) _ _ _
  refine r_iload C dL_law_792 rfl ?_
  refine r_i2l C dL_law_794 ?_
  refine r_lcmpE C dL_law_795 ?_
  refine r_ifeq0 (tgt := 801) C dL_law_796 (by decide) ?_
  refine r_goto (tgt := 1415) C dL_law_801 (by decide) ?_
  refine V_drop 5 ?_
  dsimp only [List.set]
  refine V_drop 6 ?_
  dsimp only [List.set]
  exact K _ _ _ _ _ _ _ _ _ _ _ ⟨okX_push ho (okS_bts _ _ _ hs), hist_push hh hn, rfl, rfl⟩

set_option maxRecDepth 100000 in
set_option maxHeartbeats 4000000 in
theorem lw_pass_f1 {X : gT} {rt : Option FieldType} {kc kn : Nat} {Q : State → Prop} {ad : Int → Nat} {σ : Int → va_E} {b Ls : Nat} {xz : Int → Int} {i : Int} {s tx v t p q : Int → Int} {n k len : Int} {u : Int → Int → Int} {g : Nat → Int64} (C : gOk X cL_law 9 RL room_1 rt) (hX : gXk X) (hsc : gSc X b Ls xz) (hi : 0 ≤ i ∧ i + 3 ≤ Ls) (hc : kc + 1 ≤ 628140 ∧ kn + 6 ≤ 7211684) (I : LI s n k u len tx v p) (K : LK X ad σ Q kc kn b i) (hz : ¬ (1 ≤ xz (i + 1) ∧ xz (i + 1) ≤ 60)) : V X kc kn Q 748 (LL b ad i) [] ad 152 (LW ad (gty X) σ s n k u len tx v s t p tx q g) := by
  obtain ⟨ho, hh, hv3, hv5⟩ := I
  subst hv3 hv5
  have hs := ho.1
  have hn := ho.2.1
  have hxt := ho.2.2.2
  have hlen := hxt.1
  have hz1 := hsc.2.2 (i + 1)
  have hz2 := hsc.2.2 (i + 2)
  show V X kc kn Q 748 [some (.ref b), some (.ref (ad 0)), some (.ref (ad 145)), some (.ref (ad 151)), some (.int (gI i)), none, none, none, none] [] ad 152 _
  refine r_aload_n C dL_law_748 rfl rfl ?_
  refine r_aload_n C dL_law_749 rfl rfl ?_
  refine r_iload C dL_law_750 rfl ?_
  refine r_iconst C dL_law_752 ?_
  refine r_iadd C dL_law_753 ?_
  refine r_sld C hsc dL_law_754 (by omega) ?_
  refine r_aload_n C dL_law_755 rfl rfl ?_
  refine r_cW C hX.2 cwL_115 (w_L_pass_f1 hX.1 (by omega) ho (by omega) lw_g hz hz1) dL_law_756 rfl rfl rfl (Nat.le_of_ble_eq_true rfl) ⟨Nat.le_of_ble_eq_true rfl, Nat.le_of_ble_eq_true rfl⟩ hc ?_
  refine r_istore C dL_law_759 (Nat.le_of_ble_eq_true rfl) rfl ?_
  dsimp only [List.set]
  refine r_aload_n C dL_law_761 rfl rfl ?_
  refine r_aload_n C dL_law_762 rfl rfl ?_
  refine r_iload C dL_law_763 rfl ?_
  refine r_iconst C dL_law_765 ?_
  refine r_iadd C dL_law_766 ?_
  refine r_sld C hsc dL_law_767 (by omega) ?_
  refine r_cV C cwL_117 (lw_m (by decide) (c_X5_pass_f1 (by omega) hz hz1)) dL_law_768 rfl (by omega) (lw_r5 (by decide)) rfl rfl rfl (Nat.le_of_ble_eq_true rfl) ⟨Nat.le_of_ble_eq_true rfl, Nat.le_of_ble_eq_true rfl⟩ hc ?_
  refine r_istore C dL_law_771 (Nat.le_of_ble_eq_true rfl) rfl ?_
  dsimp only [List.set]
  refine r_aload_n C dL_law_773 rfl rfl ?_
  refine r_cV C cwL_86 (lw_m (by decide) (c_X5_thrown (by omega))) dL_law_774 rfl (by omega) (lw_r5 (by decide)) rfl rfl rfl (Nat.le_of_ble_eq_true rfl) ⟨Nat.le_of_ble_eq_true rfl, Nat.le_of_ble_eq_true rfl⟩ hc ?_
  rw [show (up v 6 1) 6 = 1 from rfl]
  refine r_iload C dL_law_777 rfl ?_
  refine r_icmpE (tgt := 784) C dL_law_779 (by decide) ?_
  refine r_iload C dL_law_784 rfl ?_
  refine r_ifneK (tgt := 801) C dL_law_786 (by decide) (by decide) ?_
  refine r_goto (tgt := 1415) C dL_law_801 (by decide) ?_
  refine V_drop 5 ?_
  dsimp only [List.set]
  refine V_drop 6 ?_
  dsimp only [List.set]
  exact K _ _ _ _ _ _ _ _ _ _ _ ⟨ho, hh, rfl, rfl⟩

set_option maxRecDepth 100000 in
set_option maxHeartbeats 4000000 in
theorem lw_append {X : gT} {rt : Option FieldType} {kc kn : Nat} {Q : State → Prop} {ad : Int → Nat} {σ : Int → va_E} {b Ls : Nat} {xz : Int → Int} {i : Int} {s tx v t p q : Int → Int} {n k len : Int} {u : Int → Int → Int} {g : Nat → Int64} (C : gOk X cL_law 9 RL room_1 rt) (hX : gXk X) (hsc : gSc X b Ls xz) (hi : 0 ≤ i ∧ i + 3 ≤ Ls) (hc : kc + 1 ≤ 628140 ∧ kn + 6 ≤ 7211684) (I : LI s n k u len tx v p) (K : LK X ad σ Q kc kn b i) (hz : 33 ≤ xz (i + 1) ∧ xz (i + 1) ≤ 126) (hl : v 5 < 60) : V X kc kn Q 804 (LL b ad i) [] ad 152 (LW ad (gty X) σ s n k u len tx v s t p tx q g) := by
  obtain ⟨ho, hh, hv3, hv5⟩ := I
  subst hv3 hv5
  have hs := ho.1
  have hn := ho.2.1
  have hxt := ho.2.2.2
  have hlen := hxt.1
  have hz1 := hsc.2.2 (i + 1)
  have hz2 := hsc.2.2 (i + 2)
  show V X kc kn Q 804 [some (.ref b), some (.ref (ad 0)), some (.ref (ad 145)), some (.ref (ad 151)), some (.int (gI i)), none, none, none, none] [] ad 152 _
  refine r_aload_n C dL_law_804 rfl rfl ?_
  refine r_aload_n C dL_law_805 rfl rfl ?_
  refine r_iload C dL_law_806 rfl ?_
  refine r_iconst C dL_law_808 ?_
  refine r_iadd C dL_law_809 ?_
  refine r_sld C hsc dL_law_810 (by omega) ?_
  refine r_aload_n C dL_law_811 rfl rfl ?_
  refine r_cW C hX.2 cwL_118 (lw_w (w_L_append hX.1 (by omega) ho (by omega) lw_g hz hl)) dL_law_812 rfl rfl rfl (Nat.le_of_ble_eq_true rfl) ⟨Nat.le_of_ble_eq_true rfl, Nat.le_of_ble_eq_true rfl⟩ hc ?_
  refine r_istore C dL_law_815 (Nat.le_of_ble_eq_true rfl) rfl ?_
  dsimp only [List.set]
  refine r_aload_n C dL_law_817 rfl rfl ?_
  refine r_aload_n C dL_law_818 rfl rfl ?_
  refine r_iload C dL_law_819 rfl ?_
  refine r_iconst C dL_law_821 ?_
  refine r_iadd C dL_law_822 ?_
  refine r_sld C hsc dL_law_823 (by omega) ?_
  refine r_cV C cwL_120 (lw_m (by decide) (c_X5_append (by omega) ⟨hlen.1, hl⟩ hz)) dL_law_824 rfl (by omega) (lw_r5 (by decide)) rfl rfl rfl (Nat.le_of_ble_eq_true rfl) ⟨Nat.le_of_ble_eq_true rfl, Nat.le_of_ble_eq_true rfl⟩ hc ?_
  refine r_istore C dL_law_827 (Nat.le_of_ble_eq_true rfl) rfl ?_
  dsimp only [List.set]
  refine r_aload_n C dL_law_829 rfl rfl ?_
  refine r_cV C cwL_86 (lw_m (by decide) (c_X5_thrown (by omega))) dL_law_830 rfl (by omega) (lw_r5 (by decide)) rfl rfl rfl (Nat.le_of_ble_eq_true rfl) ⟨Nat.le_of_ble_eq_true rfl, Nat.le_of_ble_eq_true rfl⟩ hc ?_
  rw [show (up (up v 6 0) 5 (v 5 + 1)) 6 = 0 from rfl]
  refine r_iload C dL_law_833 rfl ?_
  refine r_icmpE (tgt := 840) C dL_law_835 (by decide) ?_
  refine r_iload C dL_law_840 rfl ?_
  refine r_ifne0 (tgt := 857) C dL_law_842 (by decide) ?_
  refine r_aload_n C dL_law_845 rfl rfl ?_
  refine r_iconst C dL_law_846 ?_
  refine r_lald C dL_law_847 (by omega) lw_g2 (by omega) (by decide) ?_
  show V _ _ _ _ _ _ (.long (gI (v 5 + 1)).toInt64 :: _) _ _ _
  refine r_iload C dL_law_848 rfl ?_
  refine r_i2l C dL_law_850 ?_
  refine r_lcmpE C dL_law_851 ?_
  refine r_ifeq0 (tgt := 857) C dL_law_852 (by decide) ?_
  refine r_goto (tgt := 1415) C dL_law_857 (by decide) ?_
  refine V_drop 5 ?_
  dsimp only [List.set]
  refine V_drop 6 ?_
  dsimp only [List.set]
  exact K _ _ _ _ _ _ _ _ _ _ _ ⟨okX_app ho hl hz, hh, rfl, rfl⟩

set_option maxRecDepth 100000 in
set_option maxHeartbeats 4000000 in
theorem lw_append_f1 {X : gT} {rt : Option FieldType} {kc kn : Nat} {Q : State → Prop} {ad : Int → Nat} {σ : Int → va_E} {b Ls : Nat} {xz : Int → Int} {i : Int} {s tx v t p q : Int → Int} {n k len : Int} {u : Int → Int → Int} {g : Nat → Int64} (C : gOk X cL_law 9 RL room_1 rt) (hX : gXk X) (hsc : gSc X b Ls xz) (hi : 0 ≤ i ∧ i + 3 ≤ Ls) (hc : kc + 1 ≤ 628140 ∧ kn + 6 ≤ 7211684) (I : LI s n k u len tx v p) (K : LK X ad σ Q kc kn b i) (hz : ¬ (33 ≤ xz (i + 1) ∧ xz (i + 1) ≤ 126)) : V X kc kn Q 804 (LL b ad i) [] ad 152 (LW ad (gty X) σ s n k u len tx v s t p tx q g) := by
  obtain ⟨ho, hh, hv3, hv5⟩ := I
  subst hv3 hv5
  have hs := ho.1
  have hn := ho.2.1
  have hxt := ho.2.2.2
  have hlen := hxt.1
  have hz1 := hsc.2.2 (i + 1)
  have hz2 := hsc.2.2 (i + 2)
  show V X kc kn Q 804 [some (.ref b), some (.ref (ad 0)), some (.ref (ad 145)), some (.ref (ad 151)), some (.int (gI i)), none, none, none, none] [] ad 152 _
  refine r_aload_n C dL_law_804 rfl rfl ?_
  refine r_aload_n C dL_law_805 rfl rfl ?_
  refine r_iload C dL_law_806 rfl ?_
  refine r_iconst C dL_law_808 ?_
  refine r_iadd C dL_law_809 ?_
  refine r_sld C hsc dL_law_810 (by omega) ?_
  refine r_aload_n C dL_law_811 rfl rfl ?_
  refine r_cW C hX.2 cwL_118 (w_L_append_f1 hX.1 (by omega) ho (by omega) lw_g hz hz1) dL_law_812 rfl rfl rfl (Nat.le_of_ble_eq_true rfl) ⟨Nat.le_of_ble_eq_true rfl, Nat.le_of_ble_eq_true rfl⟩ hc ?_
  refine r_istore C dL_law_815 (Nat.le_of_ble_eq_true rfl) rfl ?_
  dsimp only [List.set]
  refine r_aload_n C dL_law_817 rfl rfl ?_
  refine r_aload_n C dL_law_818 rfl rfl ?_
  refine r_iload C dL_law_819 rfl ?_
  refine r_iconst C dL_law_821 ?_
  refine r_iadd C dL_law_822 ?_
  refine r_sld C hsc dL_law_823 (by omega) ?_
  refine r_cV C cwL_120 (lw_m (by decide) (c_X5_append_f1 (by omega) hz hz1)) dL_law_824 rfl (by omega) (lw_r5 (by decide)) rfl rfl rfl (Nat.le_of_ble_eq_true rfl) ⟨Nat.le_of_ble_eq_true rfl, Nat.le_of_ble_eq_true rfl⟩ hc ?_
  refine r_istore C dL_law_827 (Nat.le_of_ble_eq_true rfl) rfl ?_
  dsimp only [List.set]
  refine r_aload_n C dL_law_829 rfl rfl ?_
  refine r_cV C cwL_86 (lw_m (by decide) (c_X5_thrown (by omega))) dL_law_830 rfl (by omega) (lw_r5 (by decide)) rfl rfl rfl (Nat.le_of_ble_eq_true rfl) ⟨Nat.le_of_ble_eq_true rfl, Nat.le_of_ble_eq_true rfl⟩ hc ?_
  rw [show (up v 6 1) 6 = 1 from rfl]
  refine r_iload C dL_law_833 rfl ?_
  refine r_icmpE (tgt := 840) C dL_law_835 (by decide) ?_
  refine r_iload C dL_law_840 rfl ?_
  refine r_ifneK (tgt := 857) C dL_law_842 (by decide) (by decide) ?_
  refine r_goto (tgt := 1415) C dL_law_857 (by decide) ?_
  refine V_drop 5 ?_
  dsimp only [List.set]
  refine V_drop 6 ?_
  dsimp only [List.set]
  exact K _ _ _ _ _ _ _ _ _ _ _ ⟨ho, hh, rfl, rfl⟩

set_option maxRecDepth 100000 in
set_option maxHeartbeats 4000000 in
theorem lw_append_f2 {X : gT} {rt : Option FieldType} {kc kn : Nat} {Q : State → Prop} {ad : Int → Nat} {σ : Int → va_E} {b Ls : Nat} {xz : Int → Int} {i : Int} {s tx v t p q : Int → Int} {n k len : Int} {u : Int → Int → Int} {g : Nat → Int64} (C : gOk X cL_law 9 RL room_1 rt) (hX : gXk X) (hsc : gSc X b Ls xz) (hi : 0 ≤ i ∧ i + 3 ≤ Ls) (hc : kc + 1 ≤ 628140 ∧ kn + 6 ≤ 7211684) (I : LI s n k u len tx v p) (K : LK X ad σ Q kc kn b i) (hz : 33 ≤ xz (i + 1) ∧ xz (i + 1) ≤ 126) (hl : ¬ v 5 < 60) : V X kc kn Q 804 (LL b ad i) [] ad 152 (LW ad (gty X) σ s n k u len tx v s t p tx q g) := by
  obtain ⟨ho, hh, hv3, hv5⟩ := I
  subst hv3 hv5
  have hs := ho.1
  have hn := ho.2.1
  have hxt := ho.2.2.2
  have hlen := hxt.1
  have hz1 := hsc.2.2 (i + 1)
  have hz2 := hsc.2.2 (i + 2)
  show V X kc kn Q 804 [some (.ref b), some (.ref (ad 0)), some (.ref (ad 145)), some (.ref (ad 151)), some (.int (gI i)), none, none, none, none] [] ad 152 _
  refine r_aload_n C dL_law_804 rfl rfl ?_
  refine r_aload_n C dL_law_805 rfl rfl ?_
  refine r_iload C dL_law_806 rfl ?_
  refine r_iconst C dL_law_808 ?_
  refine r_iadd C dL_law_809 ?_
  refine r_sld C hsc dL_law_810 (by omega) ?_
  refine r_aload_n C dL_law_811 rfl rfl ?_
  refine r_cW C hX.2 cwL_118 (w_L_append_f2 hX.1 (by omega) ho (by omega) lw_g hz hl) dL_law_812 rfl rfl rfl (Nat.le_of_ble_eq_true rfl) ⟨Nat.le_of_ble_eq_true rfl, Nat.le_of_ble_eq_true rfl⟩ hc ?_
  refine r_istore C dL_law_815 (Nat.le_of_ble_eq_true rfl) rfl ?_
  dsimp only [List.set]
  refine r_aload_n C dL_law_817 rfl rfl ?_
  refine r_aload_n C dL_law_818 rfl rfl ?_
  refine r_iload C dL_law_819 rfl ?_
  refine r_iconst C dL_law_821 ?_
  refine r_iadd C dL_law_822 ?_
  refine r_sld C hsc dL_law_823 (by omega) ?_
  refine r_cV C cwL_120 (lw_m (by decide) (c_X5_append_f2 (by omega) (by omega) hz)) dL_law_824 rfl (by omega) (lw_r5 (by decide)) rfl rfl rfl (Nat.le_of_ble_eq_true rfl) ⟨Nat.le_of_ble_eq_true rfl, Nat.le_of_ble_eq_true rfl⟩ hc ?_
  refine r_istore C dL_law_827 (Nat.le_of_ble_eq_true rfl) rfl ?_
  dsimp only [List.set]
  refine r_aload_n C dL_law_829 rfl rfl ?_
  refine r_cV C cwL_86 (lw_m (by decide) (c_X5_thrown (by omega))) dL_law_830 rfl (by omega) (lw_r5 (by decide)) rfl rfl rfl (Nat.le_of_ble_eq_true rfl) ⟨Nat.le_of_ble_eq_true rfl, Nat.le_of_ble_eq_true rfl⟩ hc ?_
  rw [show (up v 6 2) 6 = 2 from rfl]
  refine r_iload C dL_law_833 rfl ?_
  refine r_icmpE (tgt := 840) C dL_law_835 (by decide) ?_
  refine r_iload C dL_law_840 rfl ?_
  refine r_ifneK (tgt := 857) C dL_law_842 (by decide) (by decide) ?_
  refine r_goto (tgt := 1415) C dL_law_857 (by decide) ?_
  refine V_drop 5 ?_
  dsimp only [List.set]
  refine V_drop 6 ?_
  dsimp only [List.set]
  exact K _ _ _ _ _ _ _ _ _ _ _ ⟨ho, hh, rfl, rfl⟩

