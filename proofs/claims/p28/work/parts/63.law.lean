/-! the law: its end, its loop -/
theorem okT_0 : okT 0 (fun _ => 0) := ⟨by omega, fun _ _ _ => (by decide : (0 : Int) ≤ 0 ∧ (0 : Int) ≤ 126)⟩
theorem V_wid {X : gT} {kc kn k2 n2 : Nat} {Q : State → Prop} {pc : Nat} {L : List (Option Value)} {st : List Value} {ad : Int → Nat} {N : Int} {σ : Int → va_E} (h1 : kc ≤ k2) (h2 : kn ≤ n2) (k : V X k2 n2 Q pc L st ad N σ) : V X kc kn Q pc L st ad N σ := fun ls H locs hl hw => W.widen h1 h2 (k ls H locs hl hw)
set_option maxRecDepth 100000 in
set_option maxHeartbeats 4000000 in
theorem law_end {X : gT} {rt : Option FieldType} {Q : State → Prop} {b Ls : Nat} {xz : Int → Int} {T : Int} {ad : Int → Nat} {σ : Int → va_E} (C : gOk X cL_law 19 RL room_1 rt) (hX : gXk X) (hS : gSc X b Ls xz) (hLs : Ls ≤ 260) (hT45 : 0 ≤ T ∧ T ≤ 45) (KE : ∀ (L : List (Option Value)) (σ9 : Int → va_E), V X 704810 6986752 Q 689 L [.int (gI 1)] ad 145 σ9) {kc kn : Nat} {s : Int → Int} {n k t : Int} {u : Int → Int → Int} {z4 : Int} (hi : okI t s n u) (hkc : kc ≤ 1000) (hkn : kn ≤ 10000) : V X kc kn Q 616 [some (.ref b), some (.ref (ad 0)), some (.int (gI 1)), some (.int (gI T)), some (.int (gI (z4))), none, none, none, none, none, none, none, none, none, none, none, none, none, none] [] ad 145 (xput ad (gty X) σ 0 s n k u 0 (fun _ => 0)) := by
  have hrc : 2000 ≤ room_1.cells ∧ 20000 ≤ room_1.slots := ⟨Nat.le_of_ble_eq_true rfl, Nat.le_of_ble_eq_true rfl⟩
  have ho : okX s n u 0 (fun _ => 0) := okX_I hi okT_0
  have hs := ho.1
  have k641 : ∀ q : Int, 0 ≤ q ∧ q < 6 → V X kc kn Q 641 [some (.ref b), some (.ref (ad 0)), some (.int (gI 1)), some (.int (gI T)), some (.int (gI (q))), none, none, none, none, none, none, none, none, none, none, none, none, none, none] [] ad 145 (xput ad (gty X) σ 0 s n k u 0 (fun _ => 0)) := by
    intro q hq
    have hbl := blit_spec hs hq
    have hbr := blit_rng s q
    have hlen := (hs.rm hq).len
    have hle : 0 < blit s q → rm (bts (blit s q).toNat s 0).1 q 1 = 0 := lasts_end hs hq
    have ho2 : okX (bts (blit s q).toNat s 0).1 (pshN n) (pshU n k u s) 0 (fun _ => 0) := okX_I (okI_push hi (Int.le_refl t) (ok2_bts _ _ _ hi.1)) okT_0
    refine r_aload_n C dL_law_641 rfl rfl ?_
    refine r_iload C dL_law_642 rfl ?_
    refine r_cV C cwL_47 (c_X4_lasts (by omega) ho hq) dL_law_644 rfl (by omega) xput_0 rfl rfl rfl (Nat.le_of_ble_eq_true rfl) ⟨Nat.le_of_ble_eq_true rfl, Nat.le_of_ble_eq_true rfl⟩ ⟨by omega, by omega⟩ ?_
    refine r_istore C dL_law_647 (Nat.le_of_ble_eq_true rfl) rfl ?_
    dsimp only [List.set]
    refine r_iload_n C dL_law_649 rfl rfl ?_
    refine r_if_eq (tgt := 688) C dL_law_650 (by decide) (by omega) (fun h650 => ?_) (fun h650 => ?_)
    · exfalso; omega
    · refine r_iload C dL_law_653 rfl ?_
      refine r_if_le (tgt := 688) C dL_law_655 (by decide) (by omega) (fun h655 => ?_) (fun h655 => ?_)
      · refine r_iload_n C dL_law_688 rfl rfl ?_
        exact V_wid (by omega) (by omega) (KE _ _)
      · have hle2 := hle (by omega)
        refine r_iload C dL_law_658 rfl ?_
        refine r_bipush C dL_law_660 (by decide) ?_
        refine r_icmp_gt (tgt := 688) C dL_law_662 (by decide) (by omega) (by omega) (fun h662 => ?_) (fun h662 => ?_)
        · refine r_iload_n C dL_law_688 rfl rfl ?_
          exact V_wid (by omega) (by omega) (KE _ _)
        · refine r_aload_n C dL_law_665 rfl rfl ?_
          refine r_iload C dL_law_666 rfl ?_
          refine r_cV C cwL_97 (c_X4_pass (z := blit s q) (by omega) ho (by omega)) dL_law_668 rfl (by omega) xput_0 rfl rfl rfl (Nat.le_of_ble_eq_true rfl) ⟨Nat.le_of_ble_eq_true rfl, Nat.le_of_ble_eq_true rfl⟩ ⟨by omega, by omega⟩ ?_
          refine r_pop C dL_law_671 rfl ?_
          refine r_aload_n C dL_law_672 rfl rfl ?_
          refine r_iload C dL_law_673 rfl ?_
          refine r_iconst C dL_law_675 ?_
          refine r_cV C cwL_41 (q_room (w := 1) (z := rm (bts (blit s q).toNat s 0).1 q 1) (by omega) ho2 hq (by omega) rfl) dL_law_676 rfl (by omega) xput_0 rfl rfl rfl (Nat.le_of_ble_eq_true rfl) ⟨Nat.le_of_ble_eq_true rfl, Nat.le_of_ble_eq_true rfl⟩ ⟨by omega, by omega⟩ ?_
          refine r_if_ne (tgt := 686) C dL_law_679 (by decide) (by omega) (fun h679 => ?_) (fun h679 => ?_)
          · exfalso; omega
          · refine r_iconst C dL_law_682 ?_
            refine r_goto (tgt := 687) C dL_law_683 (by decide) ?_
            refine r_istore_n C dL_law_687 rfl (Nat.le_of_ble_eq_true rfl) rfl ?_
            dsimp only [List.set]
            refine r_iload_n C dL_law_688 rfl rfl ?_
            exact V_wid (by omega) (by omega) (KE _ _)
  have lp : ∀ (m1 : Nat) (q : Int), 0 ≤ q → q + m1 = 5 → V X kc kn Q 619 [some (.ref b), some (.ref (ad 0)), some (.int (gI 1)), some (.int (gI T)), some (.int (gI (q))), none, none, none, none, none, none, none, none, none, none, none, none, none, none] [] ad 145 (xput ad (gty X) σ 0 s n k u 0 (fun _ => 0)) := by
    intro m1
    induction m1 with
    | zero =>
      intro q hq0 hqm
      refine r_iload C dL_law_619 rfl ?_
      refine r_iconst C dL_law_621 ?_
      refine r_icmp_ge (tgt := 641) C dL_law_622 (by decide) (by omega) (by omega) (fun h622 => ?_) (fun h622 => ?_)
      · exact k641 q (by omega)
      · exfalso; omega
    | succ m1 ih =>
      intro q hq0 hqm
      have hb := (hs.rm (r := q) (by omega)).bur
      refine r_iload C dL_law_619 rfl ?_
      refine r_iconst C dL_law_621 ?_
      refine r_icmp_ge (tgt := 641) C dL_law_622 (by decide) (by omega) (by omega) (fun h622 => ?_) (fun h622 => ?_)
      · exfalso; omega
      · refine r_aload_n C dL_law_625 rfl rfl ?_
        refine r_iload C dL_law_626 rfl ?_
        refine r_iconst C dL_law_628 ?_
        refine r_cV C cwL_41 (q_room (w := 1) (z := rm s q 1) (by omega) ho (by omega) (by omega) rfl) dL_law_629 rfl (by omega) xput_0 rfl rfl rfl (Nat.le_of_ble_eq_true rfl) ⟨Nat.le_of_ble_eq_true rfl, Nat.le_of_ble_eq_true rfl⟩ ⟨by omega, by omega⟩ ?_
        refine r_if_ne (tgt := 641) C dL_law_632 (by decide) (by omega) (fun h632 => ?_) (fun h632 => ?_)
        · exact k641 q (by omega)
        · refine r_iinc C dL_law_635 rfl rfl ?_
          dsimp only [List.set]
          refine r_goto (tgt := 619) C dL_law_638 (by decide) ?_
          exact ih (q + 1) (by omega) (by omega)
  refine r_iconst C dL_law_616 ?_
  refine r_istore C dL_law_617 (Nat.le_of_ble_eq_true rfl) rfl ?_
  dsimp only [List.set]
  exact lp 5 0 (by omega) (by omega)
set_option maxRecDepth 100000 in
set_option maxHeartbeats 4000000 in
theorem law_loop {X : gT} {rt : Option FieldType} {Q : State → Prop} {b Ls : Nat} {xz : Int → Int} {T : Int} {ad : Int → Nat} {σ : Int → va_E} (C : gOk X cL_law 19 RL room_1 rt) (hX : gXk X) (hS : gSc X b Ls xz) (hLs : Ls ≤ 260) (hT45 : 0 ≤ T ∧ T ≤ 45) (KE : ∀ (L : List (Option Value)) (σ9 : Int → va_E), V X 704810 6986752 Q 689 L [.int (gI 1)] ad 145 σ9) : ∀ (m : Nat) (kp : Int) (s : Int → Int) (n k : Int) (u : Int → Int → Int) (kc kn : Nat), 0 ≤ kp → kp + m = T → okI kp s n u → kc + m ≤ 1000 → kn + 6 * m ≤ 10000 → V X kc kn Q 32 [some (.ref b), some (.ref (ad 0)), some (.int (gI 1)), some (.int (gI T)), some (.int (gI (kp))), none, none, none, none, none, none, none, none, none, none, none, none, none, none] [] ad 145 (xput ad (gty X) σ 0 s n k u 0 (fun _ => 0)) := by
  have hrc : 2000 ≤ room_1.cells ∧ 20000 ≤ room_1.slots := ⟨Nat.le_of_ble_eq_true rfl, Nat.le_of_ble_eq_true rfl⟩
  intro m
  induction m with
  | zero =>
    intro kp s n k u kc kn hk0 hkm hi hkc hkn
    refine r_iload C dL_law_32 rfl ?_
    refine r_iload_n C dL_law_34 rfl rfl ?_
    refine r_icmp_ge (tgt := 616) C dL_law_35 (by decide) (by omega) (by omega) (fun h35 => ?_) (fun h35 => ?_)
    · exact law_end C hX hS hLs hT45 KE hi (by omega) (by omega)
    · exfalso; omega
  | succ m ih =>
    intro kp s n k u kc kn hk0 hkm hi hkc hkn
    have ho : okX s n u 0 (fun _ => 0) := okX_I hi okT_0
    have hs := ho.1
    have hn6 := hi.2.1
    have hcb := cb_rng hs
    have hth := thg_rng hs
    obtain ⟨bb, hbb⟩ : ∃ z, cellF Ls xz (3 * kp + 2) = z := ⟨_, rfl⟩
    obtain ⟨c0, hc0⟩ : ∃ z, cellF Ls xz (3 * kp) = z := ⟨_, rfl⟩
    obtain ⟨c, hce⟩ : ∃ z, low31 c0 % 24 = z := ⟨_, rfl⟩
    obtain ⟨key, hke⟩ : ∃ z, low31 bb % 24 = z := ⟨_, rfl⟩
    have e31 := low31_0 c0
    have e32 := low31_0 bb
    have hc : 0 ≤ c ∧ c < 24 := by omega
    have hkey : 0 ≤ key ∧ key < 24 := by omega
    have hrof := rof_bur hs key
    clear e31 e32
    have k157 : ∀ bl : Int, (rof s key = -1 ∧ bl = 0) ∨ (0 ≤ rof s key ∧ rm s (rof s key) 1 = 1 ∧ bl = 1) ∨ (0 ≤ rof s key ∧ rm s (rof s key) 1 = 0 ∧ bl = 0) → V X kc kn Q 157 [some (.ref b), some (.ref (ad 0)), some (.int (gI 1)), some (.int (gI T)), some (.int (gI (kp))), some (.int (gI (n))), some (.int (gI (s 2))), some (.int (gI (s 3))), some (.int (gI (s 4))), some (.int (gI (s 5))), some (.int (gI (thg s))), some (.int (gI (cb s))), some (.int (gI (c))), some (.int (gI (key))), some (.int (gI (rof s key))), some (.int (gI (bl))), none, none, none] [] ad 145 (xput ad (gty X) σ 0 s n k u 0 (fun _ => 0)) := by
      intro bl hbl
      refine r_aload_n C dL_law_157 rfl rfl ?_
      refine r_aload_n C dL_law_158 rfl rfl ?_
      refine r_iconst C dL_law_159 ?_
      refine r_iload C dL_law_160 rfl ?_
      refine r_imul C dL_law_162 ?_
      refine r_act C hX hS hLs (by omega) okT_0 hi (by omega) hbb hc0 hce hke dL_law_163 rfl ⟨Nat.le_of_ble_eq_true rfl, Nat.le_of_ble_eq_true rfl⟩ ⟨by omega, by omega⟩ (fun z s' n' k' u' hi' hA => ?_)
      have ho' : okX s' n' u' 0 (fun _ => 0) := okX_I hi' okT_0
      have hs' := ho'.1
      have hn6' := hi'.2.1
      have hcb' := cb_rng hs'
      have hth' := thg_rng hs'
      have hset' := hs'.set
      have h2 := act_same hA
      have h1 := hA.1
      have h5 := hA.2.2.2.2.1
      have h6 := hA.2.2.2.2.2
      have k597 : V X (kc + 1) (kn + 6) Q 597 [some (.ref b), some (.ref (ad 0)), some (.int (gI 1)), some (.int (gI T)), some (.int (gI (kp))), some (.int (gI (n))), some (.int (gI (s 2))), some (.int (gI (s 3))), some (.int (gI (s 4))), some (.int (gI (s 5))), some (.int (gI (thg s))), some (.int (gI (cb s))), some (.int (gI (c))), some (.int (gI (key))), some (.int (gI (rof s key))), some (.int (gI (bl))), some (.int (gI (z))), none, none] [] ad 145 (xput ad (gty X) σ 0 s' n' k' u' 0 (fun _ => 0)) := by
        refine r_aload_n C dL_law_597 rfl rfl ?_
        refine r_cS C cwL_105 (c_L_house (t := kp + 1) (by omega) ho' hi'.1 (by omega)) dL_law_598 rfl rfl rfl (Nat.le_of_ble_eq_true rfl) ⟨Nat.le_of_ble_eq_true rfl, Nat.le_of_ble_eq_true rfl⟩ ⟨by omega, by omega⟩ ?_
        refine r_if_eq (tgt := 608) C dL_law_601 (by decide) (by omega) (fun h601 => ?_) (fun h601 => ?_)
        · exfalso; omega
        · refine r_iconst C dL_law_604 ?_
          refine r_goto (tgt := 609) C dL_law_605 (by decide) ?_
          refine r_istore_n C dL_law_609 rfl (Nat.le_of_ble_eq_true rfl) rfl ?_
          dsimp only [List.set]
          refine r_iinc C dL_law_610 rfl rfl ?_
          dsimp only [List.set]
          refine r_goto (tgt := 32) C dL_law_613 (by decide) ?_
          exact V_drop 5 (V_drop 6 (V_drop 7 (V_drop 8 (V_drop 9 (V_drop 10 (V_drop 11 (V_drop 12 (V_drop 13 (V_drop 14 (V_drop 15 (V_drop 16 (ih (kp + 1) s' n' k' u' (kc + 1) (kn + 6) (by omega) (by omega) hi' (by omega) (by omega)))))))))))))
      have k567 : V X (kc + 1) (kn + 6) Q 567 [some (.ref b), some (.ref (ad 0)), some (.int (gI 1)), some (.int (gI T)), some (.int (gI (kp))), some (.int (gI (n))), some (.int (gI (s 2))), some (.int (gI (s 3))), some (.int (gI (s 4))), some (.int (gI (s 5))), some (.int (gI (thg s))), some (.int (gI (cb s))), some (.int (gI (c))), some (.int (gI (key))), some (.int (gI (rof s key))), some (.int (gI (bl))), some (.int (gI (z))), none, none] [] ad 145 (xput ad (gty X) σ 0 s' n' k' u' 0 (fun _ => 0)) := by
        refine r_iload C dL_law_567 rfl ?_
        refine r_iconst C dL_law_569 ?_
        refine r_icmp_lt (tgt := 597) C dL_law_570 (by decide) (by omega) (by omega) (fun h570 => ?_) (fun h570 => ?_)
        · exact k597
        · refine r_iload C dL_law_573 rfl ?_
          refine r_bipush C dL_law_575 (by decide) ?_
          refine r_icmp_gt (tgt := 597) C dL_law_577 (by decide) (by omega) (by omega) (fun h577 => ?_) (fun h577 => ?_)
          · exact k597
          · refine r_iload C dL_law_580 rfl ?_
            refine r_if_lt (tgt := 597) C dL_law_582 (by decide) (by omega) (fun h582 => ?_) (fun h582 => ?_)
            · exact k597
            · refine r_aload_n C dL_law_585 rfl rfl ?_
              refine r_iconst C dL_law_586 ?_
              refine r_cV C cwL_31 (q_count (w := 2) (z := cb s') (by omega) ho' (by omega) rfl) dL_law_587 rfl (by omega) xput_0 rfl rfl rfl (Nat.le_of_ble_eq_true rfl) ⟨Nat.le_of_ble_eq_true rfl, Nat.le_of_ble_eq_true rfl⟩ ⟨by omega, by omega⟩ ?_
              refine r_iload C dL_law_590 rfl ?_
              refine r_iconst C dL_law_592 ?_
              refine r_iadd C dL_law_593 ?_
              refine r_icmp_ne (tgt := 608) C dL_law_594 (by decide) (by omega) (by omega) (fun h594 => ?_) (fun h594 => ?_)
              · exfalso; omega
              · exact k597
      have k538 : V X (kc + 1) (kn + 6) Q 538 [some (.ref b), some (.ref (ad 0)), some (.int (gI 1)), some (.int (gI T)), some (.int (gI (kp))), some (.int (gI (n))), some (.int (gI (s 2))), some (.int (gI (s 3))), some (.int (gI (s 4))), some (.int (gI (s 5))), some (.int (gI (thg s))), some (.int (gI (cb s))), some (.int (gI (c))), some (.int (gI (key))), some (.int (gI (rof s key))), some (.int (gI (bl))), some (.int (gI (z))), none, none] [] ad 145 (xput ad (gty X) σ 0 s' n' k' u' 0 (fun _ => 0)) := by
        refine r_iload_n C dL_law_538 rfl rfl ?_
        refine r_if_eq (tgt := 608) C dL_law_539 (by decide) (by omega) (fun h539 => ?_) (fun h539 => ?_)
        · exfalso; omega
        · refine r_iload C dL_law_542 rfl ?_
          refine r_iconst C dL_law_544 ?_
          refine r_icmp_gt (tgt := 567) C dL_law_545 (by decide) (by omega) (by omega) (fun h545 => ?_) (fun h545 => ?_)
          · exact k567
          · refine r_iload C dL_law_548 rfl ?_
            refine r_if_lt (tgt := 567) C dL_law_550 (by decide) (by omega) (fun h550 => ?_) (fun h550 => ?_)
            · exact k567
            · refine r_aload_n C dL_law_553 rfl rfl ?_
              refine r_iconst C dL_law_554 ?_
              refine r_cV C cwL_31 (q_count (w := 2) (z := cb s') (by omega) ho' (by omega) rfl) dL_law_555 rfl (by omega) xput_0 rfl rfl rfl (Nat.le_of_ble_eq_true rfl) ⟨Nat.le_of_ble_eq_true rfl, Nat.le_of_ble_eq_true rfl⟩ ⟨by omega, by omega⟩ ?_
              refine r_iconst C dL_law_558 ?_
              refine r_icmp_ne (tgt := 608) C dL_law_559 (by decide) (by omega) (by omega) (fun h559 => ?_) (fun h559 => ?_)
              · exfalso; omega
              · refine r_iload C dL_law_562 rfl ?_
                refine r_if_ne (tgt := 608) C dL_law_564 (by decide) (by omega) (fun h564 => ?_) (fun h564 => ?_)
                · exfalso; omega
                · exact k567
      have k338 : 20 < c → V X (kc + 1) (kn + 6) Q 338 [some (.ref b), some (.ref (ad 0)), some (.int (gI 1)), some (.int (gI T)), some (.int (gI (kp))), some (.int (gI (n))), some (.int (gI (s 2))), some (.int (gI (s 3))), some (.int (gI (s 4))), some (.int (gI (s 5))), some (.int (gI (thg s))), some (.int (gI (cb s))), some (.int (gI (c))), some (.int (gI (key))), some (.int (gI (rof s key))), some (.int (gI (bl))), some (.int (gI (z))), none, none] [] ad 145 (xput ad (gty X) σ 0 s' n' k' u' 0 (fun _ => 0)) := by
        intro hcc
        obtain ⟨g1, g2, g3, g4, g5⟩ := hA.2.2.2.1 hcc
        have g7 := g5.1
        have lp : ∀ (m1 : Nat) (x1 : Int), 0 ≤ x1 → x1 + m1 = 24 → V X (kc + 1) (kn + 6) Q 420 [some (.ref b), some (.ref (ad 0)), some (.int (gI 1)), some (.int (gI T)), some (.int (gI (kp))), some (.int (gI (n))), some (.int (gI (s 2))), some (.int (gI (s 3))), some (.int (gI (s 4))), some (.int (gI (s 5))), some (.int (gI (thg s))), some (.int (gI (cb s))), some (.int (gI (c))), some (.int (gI (key))), some (.int (gI (rof s key))), some (.int (gI (bl))), some (.int (gI (z))), some (.int (gI (s' 2 - s 2))), some (.int (gI (x1)))] [] ad 145 (xput ad (gty X) σ 0 s' n' k' u' 0 (fun _ => 0)) := by
          intro m1
          induction m1 with
          | zero =>
            intro x1 hx0 hxm
            refine r_iload C dL_law_420 rfl ?_
            refine r_bipush C dL_law_422 (by decide) ?_
            refine r_icmp_ge (tgt := 538) C dL_law_424 (by decide) (by omega) (by omega) (fun h424 => ?_) (fun h424 => ?_)
            · exact V_drop 17 (V_drop 18 k538)
            · exfalso; omega
          | succ m1 ih1 =>
            intro x1 hx0 hxm
            have hx1 := aft_thing hs' g5 x1
            have k510 : 0 ≤ rof s' x1 → V X (kc + 1) (kn + 6) Q 510 [some (.ref b), some (.ref (ad 0)), some (.int (gI 1)), some (.int (gI T)), some (.int (gI (kp))), some (.int (gI (n))), some (.int (gI (s 2))), some (.int (gI (s 3))), some (.int (gI (s 4))), some (.int (gI (s 5))), some (.int (gI (thg s))), some (.int (gI (cb s))), some (.int (gI (c))), some (.int (gI (key))), some (.int (gI (rof s key))), some (.int (gI (bl))), some (.int (gI (z))), some (.int (gI (s' 2 - s 2))), some (.int (gI (x1)))] [] ad 145 (xput ad (gty X) σ 0 s' n' k' u' 0 (fun _ => 0)) := by
              intro hr1
              refine r_aload_n C dL_law_510 rfl rfl ?_
              refine r_iload C dL_law_511 rfl ?_
              refine r_iconst C dL_law_513 ?_
              refine r_cV C cwL_50 (q_thing (w := 1) (z := thn s' x1 1) (by omega) ho' (by omega) (by omega) rfl) dL_law_514 rfl (by omega) xput_0 rfl rfl rfl (Nat.le_of_ble_eq_true rfl) ⟨Nat.le_of_ble_eq_true rfl, Nat.le_of_ble_eq_true rfl⟩ ⟨by omega, by omega⟩ ?_
              refine r_aload_n C dL_law_517 rfl rfl ?_
              refine r_bipush C dL_law_518 (by decide) ?_
              refine r_cV C cwL_31 (q_count (w := 10) (z := s' 0) (by omega) ho' (by omega) rfl) dL_law_520 rfl (by omega) xput_0 rfl rfl rfl (Nat.le_of_ble_eq_true rfl) ⟨Nat.le_of_ble_eq_true rfl, Nat.le_of_ble_eq_true rfl⟩ ⟨by omega, by omega⟩ ?_
              refine r_icmp_ge (tgt := 530) C dL_law_523 (by decide) (by omega) (by omega) (fun h523 => ?_) (fun h523 => ?_)
              · exfalso; omega
              · refine r_iconst C dL_law_526 ?_
                refine r_goto (tgt := 531) C dL_law_527 (by decide) ?_
                refine r_istore_n C dL_law_531 rfl (Nat.le_of_ble_eq_true rfl) rfl ?_
                dsimp only [List.set]
                refine r_iinc C dL_law_532 rfl rfl ?_
                dsimp only [List.set]
                refine r_goto (tgt := 420) C dL_law_535 (by decide) ?_
                exact ih1 (x1 + 1) (by omega) (by omega)
            refine r_iload C dL_law_420 rfl ?_
            refine r_bipush C dL_law_422 (by decide) ?_
            refine r_icmp_ge (tgt := 538) C dL_law_424 (by decide) (by omega) (by omega) (fun h424 => ?_) (fun h424 => ?_)
            · exfalso; omega
            · refine r_iload_n C dL_law_427 rfl rfl ?_
              refine r_if_eq (tgt := 538) C dL_law_428 (by decide) (by omega) (fun h428 => ?_) (fun h428 => ?_)
              · exfalso; omega
              · refine r_aload_n C dL_law_431 rfl rfl ?_
                refine r_iload C dL_law_432 rfl ?_
                refine r_iconst C dL_law_434 ?_
                refine r_cV C cwL_50 (q_thing (w := 0) (z := rof s' x1) (by omega) ho' (by omega) (by omega) thn_0) dL_law_435 rfl (by omega) xput_0 rfl rfl rfl (Nat.le_of_ble_eq_true rfl) ⟨Nat.le_of_ble_eq_true rfl, Nat.le_of_ble_eq_true rfl⟩ ⟨by omega, by omega⟩ ?_
                refine r_if_ge (tgt := 471) C dL_law_438 (by decide) (by omega) (fun h438 => ?_) (fun h438 => ?_)
                · refine r_aload_n C dL_law_471 rfl rfl ?_
                  refine r_iload C dL_law_472 rfl ?_
                  refine r_iconst C dL_law_474 ?_
                  refine r_cV C cwL_50 (q_thing (w := 1) (z := thn s' x1 1) (by omega) ho' (by omega) (by omega) rfl) dL_law_475 rfl (by omega) xput_0 rfl rfl rfl (Nat.le_of_ble_eq_true rfl) ⟨Nat.le_of_ble_eq_true rfl, Nat.le_of_ble_eq_true rfl⟩ ⟨by omega, by omega⟩ ?_
                  refine r_if_ne (tgt := 485) C dL_law_478 (by decide) (by omega) (fun h478 => ?_) (fun h478 => ?_)
                  · refine r_iconst C dL_law_485 ?_
                    refine r_aload_n C dL_law_486 rfl rfl ?_
                    refine r_aload_n C dL_law_487 rfl rfl ?_
                    refine r_iload C dL_law_488 rfl ?_
                    refine r_iconst C dL_law_490 ?_
                    refine r_cV C cwL_50 (q_thing (w := 0) (z := rof s' x1) (by omega) ho' (by omega) (by omega) thn_0) dL_law_491 rfl (by omega) xput_0 rfl rfl rfl (Nat.le_of_ble_eq_true rfl) ⟨Nat.le_of_ble_eq_true rfl, Nat.le_of_ble_eq_true rfl⟩ ⟨by omega, by omega⟩ ?_
                    refine r_iconst C dL_law_494 ?_
                    refine r_cV C cwL_41 (q_room (w := 1) (z := rm s' (rof s' x1) 1) (by omega) ho' (by omega) (by omega) rfl) dL_law_495 rfl (by omega) xput_0 rfl rfl rfl (Nat.le_of_ble_eq_true rfl) ⟨Nat.le_of_ble_eq_true rfl, Nat.le_of_ble_eq_true rfl⟩ ⟨by omega, by omega⟩ ?_
                    refine r_iconst C dL_law_498 ?_
                    refine r_icmp_ne (tgt := 506) C dL_law_499 (by decide) (by omega) (by omega) (fun h499 => ?_) (fun h499 => ?_)
                    · refine r_iconst C dL_law_506 ?_
                      refine r_icmp_ne (tgt := 530) C dL_law_507 (by decide) (by omega) (by omega) (fun h507 => ?_) (fun h507 => ?_)
                      · exfalso; omega
                      · exact k510 (by omega)
                    · refine r_iconst C dL_law_502 ?_
                      refine r_goto (tgt := 507) C dL_law_503 (by decide) ?_
                      refine r_icmp_ne (tgt := 530) C dL_law_507 (by decide) (by omega) (by omega) (fun h507 => ?_) (fun h507 => ?_)
                      · exfalso; omega
                      · exact k510 (by omega)
                  · refine r_iconst C dL_law_481 ?_
                    refine r_goto (tgt := 486) C dL_law_482 (by decide) ?_
                    refine r_aload_n C dL_law_486 rfl rfl ?_
                    refine r_aload_n C dL_law_487 rfl rfl ?_
                    refine r_iload C dL_law_488 rfl ?_
                    refine r_iconst C dL_law_490 ?_
                    refine r_cV C cwL_50 (q_thing (w := 0) (z := rof s' x1) (by omega) ho' (by omega) (by omega) thn_0) dL_law_491 rfl (by omega) xput_0 rfl rfl rfl (Nat.le_of_ble_eq_true rfl) ⟨Nat.le_of_ble_eq_true rfl, Nat.le_of_ble_eq_true rfl⟩ ⟨by omega, by omega⟩ ?_
                    refine r_iconst C dL_law_494 ?_
                    refine r_cV C cwL_41 (q_room (w := 1) (z := rm s' (rof s' x1) 1) (by omega) ho' (by omega) (by omega) rfl) dL_law_495 rfl (by omega) xput_0 rfl rfl rfl (Nat.le_of_ble_eq_true rfl) ⟨Nat.le_of_ble_eq_true rfl, Nat.le_of_ble_eq_true rfl⟩ ⟨by omega, by omega⟩ ?_
                    refine r_iconst C dL_law_498 ?_
                    refine r_icmp_ne (tgt := 506) C dL_law_499 (by decide) (by omega) (by omega) (fun h499 => ?_) (fun h499 => ?_)
                    · refine r_iconst C dL_law_506 ?_
                      refine r_icmp_ne (tgt := 530) C dL_law_507 (by decide) (by omega) (by omega) (fun h507 => ?_) (fun h507 => ?_)
                      · exfalso; omega
                      · exact k510 (by omega)
                    · refine r_iconst C dL_law_502 ?_
                      refine r_goto (tgt := 507) C dL_law_503 (by decide) ?_
                      refine r_icmp_ne (tgt := 530) C dL_law_507 (by decide) (by omega) (by omega) (fun h507 => ?_) (fun h507 => ?_)
                      · exfalso; omega
                      · exact k510 (by omega)
                · refine r_aload_n C dL_law_441 rfl rfl ?_
                  refine r_iload C dL_law_442 rfl ?_
                  refine r_iconst C dL_law_444 ?_
                  refine r_cV C cwL_50 (q_thing (w := 1) (z := thn s' x1 1) (by omega) ho' (by omega) (by omega) rfl) dL_law_445 rfl (by omega) xput_0 rfl rfl rfl (Nat.le_of_ble_eq_true rfl) ⟨Nat.le_of_ble_eq_true rfl, Nat.le_of_ble_eq_true rfl⟩ ⟨by omega, by omega⟩ ?_
                  refine r_iconst C dL_law_448 ?_
                  refine r_icmp_ne (tgt := 467) C dL_law_449 (by decide) (by omega) (by omega) (fun h449 => ?_) (fun h449 => ?_)
                  · exfalso; omega
                  · refine r_aload_n C dL_law_452 rfl rfl ?_
                    refine r_iload C dL_law_453 rfl ?_
                    refine r_iconst C dL_law_455 ?_
                    refine r_cV C cwL_50 (q_thing (w := 2) (z := thn s' x1 2) (by omega) ho' (by omega) (by omega) rfl) dL_law_456 rfl (by omega) xput_0 rfl rfl rfl (Nat.le_of_ble_eq_true rfl) ⟨Nat.le_of_ble_eq_true rfl, Nat.le_of_ble_eq_true rfl⟩ ⟨by omega, by omega⟩ ?_
                    refine r_iconst C dL_law_459 ?_
                    refine r_icmp_ne (tgt := 467) C dL_law_460 (by decide) (by omega) (by omega) (fun h460 => ?_) (fun h460 => ?_)
                    · exfalso; omega
                    · refine r_iconst C dL_law_463 ?_
                      refine r_goto (tgt := 531) C dL_law_464 (by decide) ?_
                      refine r_istore_n C dL_law_531 rfl (Nat.le_of_ble_eq_true rfl) rfl ?_
                      dsimp only [List.set]
                      refine r_iinc C dL_law_532 rfl rfl ?_
                      dsimp only [List.set]
                      refine r_goto (tgt := 420) C dL_law_535 (by decide) ?_
                      exact ih1 (x1 + 1) (by omega) (by omega)
        refine r_aload_n C dL_law_338 rfl rfl ?_
        refine r_iconst C dL_law_339 ?_
        refine r_cV C cwL_31 (q_count (w := 0) (z := s' 2) (by omega) ho' (by omega) rfl) dL_law_340 rfl (by omega) xput_0 rfl rfl rfl (Nat.le_of_ble_eq_true rfl) ⟨Nat.le_of_ble_eq_true rfl, Nat.le_of_ble_eq_true rfl⟩ ⟨by omega, by omega⟩ ?_
        refine r_iload C dL_law_343 rfl ?_
        refine r_isub C dL_law_345 ?_
        refine r_istore C dL_law_346 (Nat.le_of_ble_eq_true rfl) rfl ?_
        dsimp only [List.set]
        refine r_iload_n C dL_law_348 rfl rfl ?_
        refine r_if_eq (tgt := 415) C dL_law_349 (by decide) (by omega) (fun h349 => ?_) (fun h349 => ?_)
        · exfalso; omega
        · refine r_iload C dL_law_352 rfl ?_
          refine r_iconst C dL_law_354 ?_
          refine r_icmp_lt (tgt := 415) C dL_law_355 (by decide) (by omega) (by omega) (fun h355 => ?_) (fun h355 => ?_)
          · exfalso; omega
          · refine r_iload C dL_law_358 rfl ?_
            refine r_bipush C dL_law_360 (by decide) ?_
            refine r_icmp_gt (tgt := 415) C dL_law_362 (by decide) (by omega) (by omega) (fun h362 => ?_) (fun h362 => ?_)
            · exfalso; omega
            · refine r_aload_n C dL_law_365 rfl rfl ?_
              refine r_iconst C dL_law_366 ?_
              refine r_cV C cwL_31 (q_count (w := 4) (z := s' 3) (by omega) ho' (by omega) rfl) dL_law_367 rfl (by omega) xput_0 rfl rfl rfl (Nat.le_of_ble_eq_true rfl) ⟨Nat.le_of_ble_eq_true rfl, Nat.le_of_ble_eq_true rfl⟩ ⟨by omega, by omega⟩ ?_
              refine r_iload C dL_law_370 rfl ?_
              refine r_iload C dL_law_372 rfl ?_
              refine r_iadd C dL_law_374 ?_
              refine r_icmp_neD (tgt := 415) C dL_law_375 (by decide) (by omega) (by omega) (fun h375 => ?_) (fun h375 => ?_)
              · exfalso; omega
              · refine r_aload_n C dL_law_378 rfl rfl ?_
                refine r_iconst C dL_law_379 ?_
                refine r_cV C cwL_31 (q_count (w := 3) (z := thg s') (by omega) ho' (by omega) rfl) dL_law_380 rfl (by omega) xput_0 rfl rfl rfl (Nat.le_of_ble_eq_true rfl) ⟨Nat.le_of_ble_eq_true rfl, Nat.le_of_ble_eq_true rfl⟩ ⟨by omega, by omega⟩ ?_
                refine r_iload C dL_law_383 rfl ?_
                refine r_iload C dL_law_385 rfl ?_
                refine r_isub C dL_law_387 ?_
                refine r_icmp_ne (tgt := 415) C dL_law_388 (by decide) (by omega) (by omega) (fun h388 => ?_) (fun h388 => ?_)
                · exfalso; omega
                · refine r_aload_n C dL_law_391 rfl rfl ?_
                  refine r_bipush C dL_law_392 (by decide) ?_
                  refine r_cV C cwL_31 (q_count (w := 8) (z := s' 7) (by omega) ho' (by omega) rfl) dL_law_394 rfl (by omega) xput_0 rfl rfl rfl (Nat.le_of_ble_eq_true rfl) ⟨Nat.le_of_ble_eq_true rfl, Nat.le_of_ble_eq_true rfl⟩ ⟨by omega, by omega⟩ ?_
                  refine r_iconst C dL_law_397 ?_
                  refine r_icmp_ne (tgt := 415) C dL_law_398 (by decide) (by omega) (by omega) (fun h398 => ?_) (fun h398 => ?_)
                  · exfalso; omega
                  · refine r_aload_n C dL_law_401 rfl rfl ?_
                    refine r_iconst C dL_law_402 ?_
                    refine r_cV C cwL_31 (q_count (w := 2) (z := cb s') (by omega) ho' (by omega) rfl) dL_law_403 rfl (by omega) xput_0 rfl rfl rfl (Nat.le_of_ble_eq_true rfl) ⟨Nat.le_of_ble_eq_true rfl, Nat.le_of_ble_eq_true rfl⟩ ⟨by omega, by omega⟩ ?_
                    refine r_iload C dL_law_406 rfl ?_
                    refine r_icmp_gt (tgt := 415) C dL_law_408 (by decide) (by omega) (by omega) (fun h408 => ?_) (fun h408 => ?_)
                    · exfalso; omega
                    · refine r_iconst C dL_law_411 ?_
                      refine r_goto (tgt := 416) C dL_law_412 (by decide) ?_
                      refine r_istore_n C dL_law_416 rfl (Nat.le_of_ble_eq_true rfl) rfl ?_
                      dsimp only [List.set]
                      refine r_iconst C dL_law_417 ?_
                      refine r_istore C dL_law_418 (Nat.le_of_ble_eq_true rfl) rfl ?_
                      dsimp only [List.set]
                      exact lp 24 0 (by omega) (by omega)
      have k331 : V X (kc + 1) (kn + 6) Q 331 [some (.ref b), some (.ref (ad 0)), some (.int (gI 1)), some (.int (gI T)), some (.int (gI (kp))), some (.int (gI (n))), some (.int (gI (s 2))), some (.int (gI (s 3))), some (.int (gI (s 4))), some (.int (gI (s 5))), some (.int (gI (thg s))), some (.int (gI (cb s))), some (.int (gI (c))), some (.int (gI (key))), some (.int (gI (rof s key))), some (.int (gI (bl))), some (.int (gI (z))), none, none] [] ad 145 (xput ad (gty X) σ 0 s' n' k' u' 0 (fun _ => 0)) := by
        refine r_iload C dL_law_331 rfl ?_
        refine r_bipush C dL_law_333 (by decide) ?_
        refine r_icmp_le (tgt := 538) C dL_law_335 (by decide) (by omega) (by omega) (fun h335 => ?_) (fun h335 => ?_)
        · exact k538
        · exact k338 (by omega)
      have k236 : c = 17 ∨ c = 18 → V X (kc + 1) (kn + 6) Q 236 [some (.ref b), some (.ref (ad 0)), some (.int (gI 1)), some (.int (gI T)), some (.int (gI (kp))), some (.int (gI (n))), some (.int (gI (s 2))), some (.int (gI (s 3))), some (.int (gI (s 4))), some (.int (gI (s 5))), some (.int (gI (thg s))), some (.int (gI (cb s))), some (.int (gI (c))), some (.int (gI (key))), some (.int (gI (rof s key))), some (.int (gI (bl))), some (.int (gI (z))), none, none] [] ad 145 (xput ad (gty X) σ 0 s' n' k' u' 0 (fun _ => 0)) := by
        intro hcc
        obtain ⟨g1, g2⟩ := act_told hs hA hcc
        have k295 : V X (kc + 1) (kn + 6) Q 295 [some (.ref b), some (.ref (ad 0)), some (.int (gI 1)), some (.int (gI T)), some (.int (gI (kp))), some (.int (gI (n))), some (.int (gI (s 2))), some (.int (gI (s 3))), some (.int (gI (s 4))), some (.int (gI (s 5))), some (.int (gI (thg s))), some (.int (gI (cb s))), some (.int (gI (c))), some (.int (gI (key))), some (.int (gI (rof s key))), some (.int (gI (bl))), some (.int (gI (z))), none, none] [] ad 145 (xput ad (gty X) σ 0 s' n' k' u' 0 (fun _ => 0)) := by
          refine r_aload_n C dL_law_295 rfl rfl ?_
          refine r_iconst C dL_law_296 ?_
          refine r_cV C cwL_31 (q_count (w := 0) (z := s' 2) (by omega) ho' (by omega) rfl) dL_law_297 rfl (by omega) xput_0 rfl rfl rfl (Nat.le_of_ble_eq_true rfl) ⟨Nat.le_of_ble_eq_true rfl, Nat.le_of_ble_eq_true rfl⟩ ⟨by omega, by omega⟩ ?_
          refine r_iload C dL_law_300 rfl ?_
          refine r_iload C dL_law_302 rfl ?_
          refine r_if_ge (tgt := 311) C dL_law_304 (by decide) (by omega) (fun h304 => ?_) (fun h304 => ?_)
          · refine r_iload C dL_law_311 rfl ?_
            refine r_if_eq (tgt := 320) C dL_law_313 (by decide) (by omega) (fun h313 => ?_) (fun h313 => ?_)
            · refine r_iconst C dL_law_320 ?_
              refine r_iadd C dL_law_321 ?_
              refine r_icmp_neD (tgt := 329) C dL_law_322 (by decide) (by omega) (by omega) (fun h322 => ?_) (fun h322 => ?_)
              · exfalso; omega
              · refine r_iconst C dL_law_325 ?_
                refine r_goto (tgt := 330) C dL_law_326 (by decide) ?_
                refine r_istore_n C dL_law_330 rfl (Nat.le_of_ble_eq_true rfl) rfl ?_
                dsimp only [List.set]
                exact k331
            · refine r_iconst C dL_law_316 ?_
              refine r_goto (tgt := 321) C dL_law_317 (by decide) ?_
              refine r_iadd C dL_law_321 ?_
              refine r_icmp_neD (tgt := 329) C dL_law_322 (by decide) (by omega) (by omega) (fun h322 => ?_) (fun h322 => ?_)
              · exfalso; omega
              · refine r_iconst C dL_law_325 ?_
                refine r_goto (tgt := 330) C dL_law_326 (by decide) ?_
                refine r_istore_n C dL_law_330 rfl (Nat.le_of_ble_eq_true rfl) rfl ?_
                dsimp only [List.set]
                exact k331
          · refine r_iconst C dL_law_307 ?_
            refine r_goto (tgt := 321) C dL_law_308 (by decide) ?_
            refine r_iadd C dL_law_321 ?_
            refine r_icmp_neD (tgt := 329) C dL_law_322 (by decide) (by omega) (by omega) (fun h322 => ?_) (fun h322 => ?_)
            · exfalso; omega
            · refine r_iconst C dL_law_325 ?_
              refine r_goto (tgt := 330) C dL_law_326 (by decide) ?_
              refine r_istore_n C dL_law_330 rfl (Nat.le_of_ble_eq_true rfl) rfl ?_
              dsimp only [List.set]
              exact k331
        have k268 : V X (kc + 1) (kn + 6) Q 268 [some (.ref b), some (.ref (ad 0)), some (.int (gI 1)), some (.int (gI T)), some (.int (gI (kp))), some (.int (gI (n))), some (.int (gI (s 2))), some (.int (gI (s 3))), some (.int (gI (s 4))), some (.int (gI (s 5))), some (.int (gI (thg s))), some (.int (gI (cb s))), some (.int (gI (c))), some (.int (gI (key))), some (.int (gI (rof s key))), some (.int (gI (bl))), some (.int (gI (z))), none, none] [] ad 145 (xput ad (gty X) σ 0 s' n' k' u' 0 (fun _ => 0)) := by
          refine r_aload_n C dL_law_268 rfl rfl ?_
          refine r_bipush C dL_law_269 (by decide) ?_
          refine r_cV C cwL_31 (q_count (w := 6) (z := s' 5) (by omega) ho' (by omega) rfl) dL_law_271 rfl (by omega) xput_0 rfl rfl rfl (Nat.le_of_ble_eq_true rfl) ⟨Nat.le_of_ble_eq_true rfl, Nat.le_of_ble_eq_true rfl⟩ ⟨by omega, by omega⟩ ?_
          refine r_iload C dL_law_274 rfl ?_
          refine r_iload C dL_law_276 rfl ?_
          refine r_if_lt (tgt := 290) C dL_law_278 (by decide) (by omega) (fun h278 => ?_) (fun h278 => ?_)
          · refine r_iconst C dL_law_290 ?_
            refine r_iadd C dL_law_291 ?_
            refine r_icmp_neD (tgt := 329) C dL_law_292 (by decide) (by omega) (by omega) (fun h292 => ?_) (fun h292 => ?_)
            · exfalso; omega
            · exact k295
          · refine r_iload C dL_law_281 rfl ?_
            refine r_if_ne (tgt := 290) C dL_law_283 (by decide) (by omega) (fun h283 => ?_) (fun h283 => ?_)
            · refine r_iconst C dL_law_290 ?_
              refine r_iadd C dL_law_291 ?_
              refine r_icmp_neD (tgt := 329) C dL_law_292 (by decide) (by omega) (by omega) (fun h292 => ?_) (fun h292 => ?_)
              · exfalso; omega
              · exact k295
            · refine r_iconst C dL_law_286 ?_
              refine r_goto (tgt := 291) C dL_law_287 (by decide) ?_
              refine r_iadd C dL_law_291 ?_
              refine r_icmp_neD (tgt := 329) C dL_law_292 (by decide) (by omega) (by omega) (fun h292 => ?_) (fun h292 => ?_)
              · exfalso; omega
              · exact k295
        refine r_iload_n C dL_law_236 rfl rfl ?_
        refine r_if_eq (tgt := 329) C dL_law_237 (by decide) (by omega) (fun h237 => ?_) (fun h237 => ?_)
        · exfalso; omega
        · refine r_iload C dL_law_240 rfl ?_
          refine r_iload C dL_law_242 rfl ?_
          refine r_icmp_ne (tgt := 329) C dL_law_244 (by decide) (by omega) (by omega) (fun h244 => ?_) (fun h244 => ?_)
          · exfalso; omega
          · refine r_aload_n C dL_law_247 rfl rfl ?_
            refine r_iconst C dL_law_248 ?_
            refine r_cV C cwL_31 (q_count (w := 5) (z := s' 4) (by omega) ho' (by omega) rfl) dL_law_249 rfl (by omega) xput_0 rfl rfl rfl (Nat.le_of_ble_eq_true rfl) ⟨Nat.le_of_ble_eq_true rfl, Nat.le_of_ble_eq_true rfl⟩ ⟨by omega, by omega⟩ ?_
            refine r_iload C dL_law_252 rfl ?_
            refine r_iload C dL_law_254 rfl ?_
            refine r_if_lt (tgt := 263) C dL_law_256 (by decide) (by omega) (fun h256 => ?_) (fun h256 => ?_)
            · refine r_iconst C dL_law_263 ?_
              refine r_iadd C dL_law_264 ?_
              refine r_icmp_neD (tgt := 329) C dL_law_265 (by decide) (by omega) (by omega) (fun h265 => ?_) (fun h265 => ?_)
              · exfalso; omega
              · exact k268
            · refine r_iconst C dL_law_259 ?_
              refine r_goto (tgt := 264) C dL_law_260 (by decide) ?_
              refine r_iadd C dL_law_264 ?_
              refine r_icmp_neD (tgt := 329) C dL_law_265 (by decide) (by omega) (by omega) (fun h265 => ?_) (fun h265 => ?_)
              · exfalso; omega
              · exact k268
      have k222 : V X (kc + 1) (kn + 6) Q 222 [some (.ref b), some (.ref (ad 0)), some (.int (gI 1)), some (.int (gI T)), some (.int (gI (kp))), some (.int (gI (n))), some (.int (gI (s 2))), some (.int (gI (s 3))), some (.int (gI (s 4))), some (.int (gI (s 5))), some (.int (gI (thg s))), some (.int (gI (cb s))), some (.int (gI (c))), some (.int (gI (key))), some (.int (gI (rof s key))), some (.int (gI (bl))), some (.int (gI (z))), none, none] [] ad 145 (xput ad (gty X) σ 0 s' n' k' u' 0 (fun _ => 0)) := by
        refine r_iload C dL_law_222 rfl ?_
        refine r_bipush C dL_law_224 (by decide) ?_
        refine r_icmp_eq (tgt := 236) C dL_law_226 (by decide) (by omega) (by omega) (fun h226 => ?_) (fun h226 => ?_)
        · exact k236 (by omega)
        · refine r_iload C dL_law_229 rfl ?_
          refine r_bipush C dL_law_231 (by decide) ?_
          refine r_icmp_ne (tgt := 331) C dL_law_233 (by decide) (by omega) (by omega) (fun h233 => ?_) (fun h233 => ?_)
          · exact k331
          · exact k236 (by omega)
      refine r_istore C dL_law_166 (Nat.le_of_ble_eq_true rfl) rfl ?_
      dsimp only [List.set]
      refine r_iload C dL_law_168 rfl ?_
      refine r_bipush C dL_law_170 (by decide) ?_
      refine r_icmp_ne (tgt := 216) C dL_law_172 (by decide) (by omega) (by omega) (fun h172 => ?_) (fun h172 => ?_)
      · refine r_iconst C dL_law_216 ?_
        refine r_goto (tgt := 221) C dL_law_217 (by decide) ?_
        refine r_istore_n C dL_law_221 rfl (Nat.le_of_ble_eq_true rfl) rfl ?_
        dsimp only [List.set]
        exact k222
      · have h2b := h2 h172
        refine r_aload_n C dL_law_175 rfl rfl ?_
        refine r_bipush C dL_law_176 (by decide) ?_
        refine r_cV C cwL_31 (q_count (w := 11) (z := n') (by omega) ho' (by omega) rfl) dL_law_178 rfl (by omega) xput_0 rfl rfl rfl (Nat.le_of_ble_eq_true rfl) ⟨Nat.le_of_ble_eq_true rfl, Nat.le_of_ble_eq_true rfl⟩ ⟨by omega, by omega⟩ ?_
        refine r_iload C dL_law_181 rfl ?_
        refine r_icmp_ne (tgt := 220) C dL_law_183 (by decide) (by omega) (by omega) (fun h183 => ?_) (fun h183 => ?_)
        · exfalso; omega
        · refine r_aload_n C dL_law_186 rfl rfl ?_
          refine r_iconst C dL_law_187 ?_
          refine r_cV C cwL_31 (q_count (w := 0) (z := s' 2) (by omega) ho' (by omega) rfl) dL_law_188 rfl (by omega) xput_0 rfl rfl rfl (Nat.le_of_ble_eq_true rfl) ⟨Nat.le_of_ble_eq_true rfl, Nat.le_of_ble_eq_true rfl⟩ ⟨by omega, by omega⟩ ?_
          refine r_iload C dL_law_191 rfl ?_
          refine r_icmp_neD (tgt := 220) C dL_law_193 (by decide) (by omega) (by omega) (fun h193 => ?_) (fun h193 => ?_)
          · exfalso; omega
          · refine r_aload_n C dL_law_196 rfl rfl ?_
            refine r_iconst C dL_law_197 ?_
            refine r_cV C cwL_31 (q_count (w := 3) (z := thg s') (by omega) ho' (by omega) rfl) dL_law_198 rfl (by omega) xput_0 rfl rfl rfl (Nat.le_of_ble_eq_true rfl) ⟨Nat.le_of_ble_eq_true rfl, Nat.le_of_ble_eq_true rfl⟩ ⟨by omega, by omega⟩ ?_
            refine r_iload C dL_law_201 rfl ?_
            refine r_icmp_ne (tgt := 220) C dL_law_203 (by decide) (by omega) (by omega) (fun h203 => ?_) (fun h203 => ?_)
            · exfalso; omega
            · refine r_aload_n C dL_law_206 rfl rfl ?_
              refine r_iconst C dL_law_207 ?_
              refine r_cV C cwL_31 (q_count (w := 2) (z := cb s') (by omega) ho' (by omega) rfl) dL_law_208 rfl (by omega) xput_0 rfl rfl rfl (Nat.le_of_ble_eq_true rfl) ⟨Nat.le_of_ble_eq_true rfl, Nat.le_of_ble_eq_true rfl⟩ ⟨by omega, by omega⟩ ?_
              refine r_iload C dL_law_211 rfl ?_
              refine r_icmp_ne (tgt := 220) C dL_law_213 (by decide) (by omega) (by omega) (fun h213 => ?_) (fun h213 => ?_)
              · exfalso; omega
              · refine r_iconst C dL_law_216 ?_
                refine r_goto (tgt := 221) C dL_law_217 (by decide) ?_
                refine r_istore_n C dL_law_221 rfl (Nat.le_of_ble_eq_true rfl) rfl ?_
                dsimp only [List.set]
                exact k222
    refine r_iload C dL_law_32 rfl ?_
    refine r_iload_n C dL_law_34 rfl rfl ?_
    refine r_icmp_ge (tgt := 616) C dL_law_35 (by decide) (by omega) (by omega) (fun h35 => ?_) (fun h35 => ?_)
    · exfalso; omega
    · refine r_iload_n C dL_law_38 rfl rfl ?_
      refine r_if_eq (tgt := 616) C dL_law_39 (by decide) (by omega) (fun h39 => ?_) (fun h39 => ?_)
      · exfalso; omega
      · refine r_aload_n C dL_law_42 rfl rfl ?_
        refine r_bipush C dL_law_43 (by decide) ?_
        refine r_cV C cwL_31 (q_count (w := 11) (z := n) (by omega) ho (by omega) rfl) dL_law_45 rfl (by omega) xput_0 rfl rfl rfl (Nat.le_of_ble_eq_true rfl) ⟨Nat.le_of_ble_eq_true rfl, Nat.le_of_ble_eq_true rfl⟩ ⟨by omega, by omega⟩ ?_
        refine r_istore C dL_law_48 (Nat.le_of_ble_eq_true rfl) rfl ?_
        dsimp only [List.set]
        refine r_aload_n C dL_law_50 rfl rfl ?_
        refine r_iconst C dL_law_51 ?_
        refine r_cV C cwL_31 (q_count (w := 0) (z := s 2) (by omega) ho (by omega) rfl) dL_law_52 rfl (by omega) xput_0 rfl rfl rfl (Nat.le_of_ble_eq_true rfl) ⟨Nat.le_of_ble_eq_true rfl, Nat.le_of_ble_eq_true rfl⟩ ⟨by omega, by omega⟩ ?_
        refine r_istore C dL_law_55 (Nat.le_of_ble_eq_true rfl) rfl ?_
        dsimp only [List.set]
        refine r_aload_n C dL_law_57 rfl rfl ?_
        refine r_iconst C dL_law_58 ?_
        refine r_cV C cwL_31 (q_count (w := 4) (z := s 3) (by omega) ho (by omega) rfl) dL_law_59 rfl (by omega) xput_0 rfl rfl rfl (Nat.le_of_ble_eq_true rfl) ⟨Nat.le_of_ble_eq_true rfl, Nat.le_of_ble_eq_true rfl⟩ ⟨by omega, by omega⟩ ?_
        refine r_istore C dL_law_62 (Nat.le_of_ble_eq_true rfl) rfl ?_
        dsimp only [List.set]
        refine r_aload_n C dL_law_64 rfl rfl ?_
        refine r_iconst C dL_law_65 ?_
        refine r_cV C cwL_31 (q_count (w := 5) (z := s 4) (by omega) ho (by omega) rfl) dL_law_66 rfl (by omega) xput_0 rfl rfl rfl (Nat.le_of_ble_eq_true rfl) ⟨Nat.le_of_ble_eq_true rfl, Nat.le_of_ble_eq_true rfl⟩ ⟨by omega, by omega⟩ ?_
        refine r_istore C dL_law_69 (Nat.le_of_ble_eq_true rfl) rfl ?_
        dsimp only [List.set]
        refine r_aload_n C dL_law_71 rfl rfl ?_
        refine r_bipush C dL_law_72 (by decide) ?_
        refine r_cV C cwL_31 (q_count (w := 6) (z := s 5) (by omega) ho (by omega) rfl) dL_law_74 rfl (by omega) xput_0 rfl rfl rfl (Nat.le_of_ble_eq_true rfl) ⟨Nat.le_of_ble_eq_true rfl, Nat.le_of_ble_eq_true rfl⟩ ⟨by omega, by omega⟩ ?_
        refine r_istore C dL_law_77 (Nat.le_of_ble_eq_true rfl) rfl ?_
        dsimp only [List.set]
        refine r_aload_n C dL_law_79 rfl rfl ?_
        refine r_iconst C dL_law_80 ?_
        refine r_cV C cwL_31 (q_count (w := 3) (z := thg s) (by omega) ho (by omega) rfl) dL_law_81 rfl (by omega) xput_0 rfl rfl rfl (Nat.le_of_ble_eq_true rfl) ⟨Nat.le_of_ble_eq_true rfl, Nat.le_of_ble_eq_true rfl⟩ ⟨by omega, by omega⟩ ?_
        refine r_istore C dL_law_84 (Nat.le_of_ble_eq_true rfl) rfl ?_
        dsimp only [List.set]
        refine r_aload_n C dL_law_86 rfl rfl ?_
        refine r_iconst C dL_law_87 ?_
        refine r_cV C cwL_31 (q_count (w := 2) (z := cb s) (by omega) ho (by omega) rfl) dL_law_88 rfl (by omega) xput_0 rfl rfl rfl (Nat.le_of_ble_eq_true rfl) ⟨Nat.le_of_ble_eq_true rfl, Nat.le_of_ble_eq_true rfl⟩ ⟨by omega, by omega⟩ ?_
        refine r_istore C dL_law_91 (Nat.le_of_ble_eq_true rfl) rfl ?_
        dsimp only [List.set]
        refine r_aload_n C dL_law_93 rfl rfl ?_
        refine r_iconst C dL_law_94 ?_
        refine r_iload C dL_law_95 rfl ?_
        refine r_imul C dL_law_97 ?_
        refine r_cP0 C hX hS cwL_59 (q_cell hX.1 hLs (k := 3 * kp) (by omega) hc0) dL_law_98 rfl rfl rfl (Nat.le_of_ble_eq_true rfl) ⟨Nat.le_of_ble_eq_true rfl, Nat.le_of_ble_eq_true rfl⟩ ⟨by omega, by omega⟩ ?_
        refine r_bipush C dL_law_101 (by decide) ?_
        refine r_cS C cwL_65 (q_low (by omega) hce) dL_law_103 rfl rfl rfl (Nat.le_of_ble_eq_true rfl) ⟨Nat.le_of_ble_eq_true rfl, Nat.le_of_ble_eq_true rfl⟩ ⟨by omega, by omega⟩ ?_
        refine r_istore C dL_law_106 (Nat.le_of_ble_eq_true rfl) rfl ?_
        dsimp only [List.set]
        refine r_aload_n C dL_law_108 rfl rfl ?_
        refine r_iconst C dL_law_109 ?_
        refine r_iload C dL_law_110 rfl ?_
        refine r_imul C dL_law_112 ?_
        refine r_iconst C dL_law_113 ?_
        refine r_iadd C dL_law_114 ?_
        refine r_cP0 C hX hS cwL_59 (q_cell hX.1 hLs (k := 3 * kp + 2) (by omega) hbb) dL_law_115 rfl rfl rfl (Nat.le_of_ble_eq_true rfl) ⟨Nat.le_of_ble_eq_true rfl, Nat.le_of_ble_eq_true rfl⟩ ⟨by omega, by omega⟩ ?_
        refine r_bipush C dL_law_118 (by decide) ?_
        refine r_cS C cwL_65 (q_low (by omega) hke) dL_law_120 rfl rfl rfl (Nat.le_of_ble_eq_true rfl) ⟨Nat.le_of_ble_eq_true rfl, Nat.le_of_ble_eq_true rfl⟩ ⟨by omega, by omega⟩ ?_
        refine r_istore C dL_law_123 (Nat.le_of_ble_eq_true rfl) rfl ?_
        dsimp only [List.set]
        refine r_aload_n C dL_law_125 rfl rfl ?_
        refine r_iload C dL_law_126 rfl ?_
        refine r_iconst C dL_law_128 ?_
        refine r_cV C cwL_50 (q_thing (w := 0) (z := rof s key) (by omega) ho (by omega) (by omega) thn_0) dL_law_129 rfl (by omega) xput_0 rfl rfl rfl (Nat.le_of_ble_eq_true rfl) ⟨Nat.le_of_ble_eq_true rfl, Nat.le_of_ble_eq_true rfl⟩ ⟨by omega, by omega⟩ ?_
        refine r_istore C dL_law_132 (Nat.le_of_ble_eq_true rfl) rfl ?_
        dsimp only [List.set]
        refine r_iload C dL_law_134 rfl ?_
        refine r_if_lt (tgt := 154) C dL_law_136 (by decide) (by omega) (fun h136 => ?_) (fun h136 => ?_)
        · refine r_iconst C dL_law_154 ?_
          refine r_istore C dL_law_155 (Nat.le_of_ble_eq_true rfl) rfl ?_
          dsimp only [List.set]
          first | exact k157 1 (by omega) | exact k157 0 (by omega)
        · refine r_aload_n C dL_law_139 rfl rfl ?_
          refine r_iload C dL_law_140 rfl ?_
          refine r_iconst C dL_law_142 ?_
          refine r_cV C cwL_41 (q_room (w := 1) (z := rm s (rof s key) 1) (by omega) ho (by omega) (by omega) rfl) dL_law_143 rfl (by omega) xput_0 rfl rfl rfl (Nat.le_of_ble_eq_true rfl) ⟨Nat.le_of_ble_eq_true rfl, Nat.le_of_ble_eq_true rfl⟩ ⟨by omega, by omega⟩ ?_
          refine r_iconst C dL_law_146 ?_
          refine r_icmp_ne (tgt := 154) C dL_law_147 (by decide) (by omega) (by omega) (fun h147 => ?_) (fun h147 => ?_)
          · refine r_iconst C dL_law_154 ?_
            refine r_istore C dL_law_155 (Nat.le_of_ble_eq_true rfl) rfl ?_
            dsimp only [List.set]
            first | exact k157 1 (by omega) | exact k157 0 (by omega)
          · refine r_iconst C dL_law_150 ?_
            refine r_goto (tgt := 155) C dL_law_151 (by decide) ?_
            refine r_istore C dL_law_155 (Nat.le_of_ble_eq_true rfl) rfl ?_
            dsimp only [List.set]
            first | exact k157 1 (by omega) | exact k157 0 (by omega)
