/-! the reference plays the deeds -/

theorem TD_rng {len : Int} {x : Int → Int} {K : Int} {q : Int → Int} : ∀ (n : Nat) (p k : Int), TD len x K q n p k → k < K ∧ K ≤ k + n
  | 0, p, k, h => h.elim
  | n + 1, p, k, h => by
    rcases h.2.2 with ⟨-, h⟩ | ⟨-, h, -⟩
    · have := TD_rng n _ _ h; omega
    · omega
/-- a deed played: the text goes on behind it -/
theorem plN_deed {len : Int} {x : Int → Int} {p d : Int} {s : Int → Int} (h0 : 0 ≤ p) (hs : stP len x p) (ho : pOk len x p) (hd : dOk s (dgAt len x p) (cAt len x (p + 1)) (nuAt len x (p + 2)) = 1) : plN len x (len - p).toNat p d s = if pE len x p = len then (dS s (dgAt len x p) (cAt len x (p + 1)) (nuAt len x (p + 2)), d + 1) else plN len x (len - (pE len x p + 1)).toNat (pE len x p + 1) (d + 1) (dS s (dgAt len x p) (cAt len x (p + 1)) (nuAt len x (p + 2))) := by
  have he := pE_rng h0 ho
  rw [show (len - p).toNat = (len - (p + 1)).toNat + 1 by omega, plN, if_pos hs, if_pos hd]
  by_cases c : pE len x p = len
  · rw [if_pos c]
    have := plN_skip (len := len) (x := x) (d := d + 1) (s := dS s (dgAt len x p) (cAt len x (p + 1)) (nuAt len x (p + 2))) (len - (p + 1)).toNat (p + 1) (by omega) (by omega) (fun j a b => no_st ho h0 j a (by omega))
    rw [this, show (len - (p + 1 + (((len - (p + 1)).toNat : Nat) : Int))).toNat = 0 by omega]
    rfl
  · rw [if_neg c]
    have := plN_skip (len := len) (x := x) (d := d + 1) (s := dS s (dgAt len x p) (cAt len x (p + 1)) (nuAt len x (p + 2))) (pE len x p + 1 - (p + 1)).toNat (p + 1) (by omega) (by omega) (fun j a b => no_st ho h0 j a (by omega))
    rw [this, show p + 1 + (((pE len x p + 1 - (p + 1)).toNat : Nat) : Int) = pE len x p + 1 by omega]
theorem plN_stop {len : Int} {x : Int → Int} {p d : Int} {s : Int → Int} (h0 : p < len) (hs : stP len x p) (hd : dOk s (dgAt len x p) (cAt len x (p + 1)) (nuAt len x (p + 2)) ≠ 1) : plN len x (len - p).toNat p d s = (s, d) := by
  rw [show (len - p).toNat = (len - (p + 1)).toNat + 1 by omega, plN, if_pos hs, if_neg hd]

set_option maxRecDepth 100000 in
set_option maxHeartbeats 4000000 in
theorem c_X5_play_f1 {l : Launch} {D : va_G} {ty : Nat → ClassId} {ad : Int → Nat} {N : Int} {σ : Int → va_E} {m : Int} {v s t p x q : Int → Int} (hm : 0 ≤ m ∧ m + 6 ≤ N) (hxt : okT (v 5) x) (hnc : ¬ cmpl (v 5) x) : gM0 l yX5_play cX5_play 2 (some .int) 5 110 [.ref (ad m)] D ty ad N (mput ad ty σ m (v) (s) (t) (p) (x) (q)) (some (.int (gI 0))) (mput ad ty σ m (up (pR (v 5) x 61 1 (up (up (up (up v 6 0) 7 0) 10 0) 8 0) q).2.1 6 1) (s) (t) (p) (x) ((pR (v 5) x 61 1 (up (up (up (up v 6 0) 7 0) 10 0) 8 0) q).2.2)) := by
  refine gMet_of [some (.ref (ad m)), none] (by decide +kernel) rfl (Nat.le_of_ble_eq_true rfl) rfl ?_
  intro X hl hD hty C hini
  subst hl hD hty
  have hlen := hxt.1
  have hw7 : up (up (up (up v 6 0) 7 0) 10 0) 8 0 7 = 0 := by simp only [up_ap, Int.reduceEq, reduceIte]
  have hsp := pR_spec (len := v 5) (x := x) hlen.2 61 (up (up (up (up v 6 0) 7 0) 10 0) 8 0) q (by rw [hw7]; omega) (by rw [hw7]; omega)
  rw [hw7] at hsp
  have hf5 : (pR (v 5) x 61 1 (up (up (up (up v 6 0) 7 0) 10 0) 8 0) q).2.1 5 = v 5 := by rw [pR_fr (by decide)]; simp only [up_ap, Int.reduceEq, reduceIte]
  have hz0 : sE (v 5) x 0 0 = errP (v 5) x := by unfold sE errP; rw [show v 5 - 0 = v 5 by omega]
  have hz1 : (sS (v 5) x 0 0 = 4 ∨ sS (v 5) x 0 0 = 5) ↔ cmpl (v 5) x := by unfold sS; rw [show v 5 - 0 = v 5 by omega]
  have hf3 : (pR (v 5) x 61 1 (up (up (up (up v 6 0) 7 0) 10 0) 8 0) q).2.1 3 = v 3 := by rw [pR_fr (by decide)]; simp only [up_ap, Int.reduceEq, reduceIte]
  refine r_aload_n C dX5_play_0 rfl rfl ?_
  refine r_iconst C dX5_play_1 ?_
  refine mm_put (j := 6) C flX5_25 dX5_play_2 hm (by decide) rfl rfl rfl rfl ?_
  try rw [up_up]
  refine r_aload_n C dX5_play_5 rfl rfl ?_
  refine r_cV C cwX5_141 (c_X5_isText (len := v 5) hm (by first | rfl | simp only [up_ap, Int.reduceEq, reduceIte]) hxt) dX5_play_6 rfl (by omega) mput_0 rfl rfl rfl (Nat.le_of_ble_eq_true rfl) ⟨Nat.le_of_ble_eq_true rfl, Nat.le_of_ble_eq_true rfl⟩ ⟨Nat.le_of_ble_eq_true rfl, Nat.le_of_ble_eq_true rfl⟩ ?_
  refine r_if_ne (tgt := 18) C dX5_play_9 (by decide) (by omega) (fun h9 => ?_) (fun h9 => ?_)
  · exact absurd (hz1.mp (by omega)) hnc
  · refine r_aload_n C dX5_play_12 rfl rfl ?_
    refine r_iconst C dX5_play_13 ?_
    refine r_cV C cwX5_44 (c_X5_fails hm) dX5_play_14 rfl (by omega) mput_0 rfl rfl rfl (Nat.le_of_ble_eq_true rfl) ⟨Nat.le_of_ble_eq_true rfl, Nat.le_of_ble_eq_true rfl⟩ ⟨Nat.le_of_ble_eq_true rfl, Nat.le_of_ble_eq_true rfl⟩ ?_
    exact r_iretD C dX5_play_17 rfl rfl

set_option maxRecDepth 100000 in
set_option maxHeartbeats 4000000 in
theorem c_X5_play {l : Launch} {D : va_G} {ty : Nat → ClassId} {ad : Int → Nat} {N : Int} {σ : Int → va_E} {m : Int} {v s t p x q : Int → Int} (hm : 0 ≤ m ∧ m + 6 ≤ N) (hs : okS s) (hk6 : 0 ≤ v 3 ∧ v 3 ≤ 6) (hxt : okT (v 5) x) (hnc : cmpl (v 5) x) : gM0 l yX5_play cX5_play 2 (some .int) 5 110 [.ref (ad m)] D ty ad N (mput ad ty σ m (v) (s) (t) (p) (x) (q)) (some (.int (gI (plN (v 5) x (v 5).toNat 0 0 s).2))) (mput ad ty σ m (up (up (pR (v 5) x 61 1 (up (up (up (up v 6 0) 7 0) 10 0) 8 0) q).2.1 3 (pshN (v 3))) 5 0) ((plN (v 5) x (v 5).toNat 0 0 s).1) (t) (pkP (v 3) p s) (x) ((pR (v 5) x 61 1 (up (up (up (up v 6 0) 7 0) 10 0) 8 0) q).2.2)) := by
  refine gMet_of [some (.ref (ad m)), none] (by decide +kernel) rfl (Nat.le_of_ble_eq_true rfl) rfl ?_
  intro X hl hD hty C hini
  subst hl hD hty
  have hlen := hxt.1
  have hw7 : up (up (up (up v 6 0) 7 0) 10 0) 8 0 7 = 0 := by simp only [up_ap, Int.reduceEq, reduceIte]
  have hsp := pR_spec (len := v 5) (x := x) hlen.2 61 (up (up (up (up v 6 0) 7 0) 10 0) 8 0) q (by rw [hw7]; omega) (by rw [hw7]; omega)
  rw [hw7] at hsp
  have hf5 : (pR (v 5) x 61 1 (up (up (up (up v 6 0) 7 0) 10 0) 8 0) q).2.1 5 = v 5 := by rw [pR_fr (by decide)]; simp only [up_ap, Int.reduceEq, reduceIte]
  have hz0 : sE (v 5) x 0 0 = errP (v 5) x := by unfold sE errP; rw [show v 5 - 0 = v 5 by omega]
  have hz1 : (sS (v 5) x 0 0 = 4 ∨ sS (v 5) x 0 0 = 5) ↔ cmpl (v 5) x := by unfold sS; rw [show v 5 - 0 = v 5 by omega]
  have hf3 : (pR (v 5) x 61 1 (up (up (up (up v 6 0) 7 0) 10 0) 8 0) q).2.1 3 = v 3 := by rw [pR_fr (by decide)]; simp only [up_ap, Int.reduceEq, reduceIte]
  refine r_aload_n C dX5_play_0 rfl rfl ?_
  refine r_iconst C dX5_play_1 ?_
  refine mm_put (j := 6) C flX5_25 dX5_play_2 hm (by decide) rfl rfl rfl rfl ?_
  try rw [up_up]
  refine r_aload_n C dX5_play_5 rfl rfl ?_
  refine r_cV C cwX5_141 (c_X5_isText (len := v 5) hm (by first | rfl | simp only [up_ap, Int.reduceEq, reduceIte]) hxt) dX5_play_6 rfl (by omega) mput_0 rfl rfl rfl (Nat.le_of_ble_eq_true rfl) ⟨Nat.le_of_ble_eq_true rfl, Nat.le_of_ble_eq_true rfl⟩ ⟨Nat.le_of_ble_eq_true rfl, Nat.le_of_ble_eq_true rfl⟩ ?_
  refine r_if_ne (tgt := 18) C dX5_play_9 (by decide) (by omega) (fun h9 => ?_) (fun h9 => ?_)
  · have hTD : TD (v 5) x ((pR (v 5) x 61 1 (up (up (up (up v 6 0) 7 0) 10 0) 8 0) q).2.1 10) ((pR (v 5) x 61 1 (up (up (up (up v 6 0) 7 0) 10 0) 8 0) q).2.2) 61 0 0 := by
      have h := pR_told (len := v 5) (x := x) 61 (up (up (up (up v 6 0) 7 0) 10 0) 8 0) q (by omega)
      rw [hw7, show up (up (up (up v 6 0) 7 0) 10 0) 8 0 10 = 0 by simp only [up_ap, Int.reduceEq, reduceIte]] at h
      exact h
    refine r_aload_n C dX5_play_18 rfl rfl ?_
    refine r_cVv C cwX5_70 (c_X5_keepsState hm (by rw [hf3]; omega)) dX5_play_19 rfl (by omega) mput_0 rfl rfl rfl (Nat.le_of_ble_eq_true rfl) ⟨Nat.le_of_ble_eq_true rfl, Nat.le_of_ble_eq_true rfl⟩ ⟨Nat.le_of_ble_eq_true rfl, Nat.le_of_ble_eq_true rfl⟩ ?_
    rw [hf3]
    refine r_aload_n C dX5_play_22 rfl rfl ?_
    refine r_iconst C dX5_play_23 ?_
    refine mm_put (j := 5) C flX5_113 dX5_play_24 hm (by decide) rfl rfl rfl rfl ?_
    try rw [up_up]
    refine r_iconst C dX5_play_27 ?_
    refine r_istore_n C dX5_play_28 rfl (Nat.le_of_ble_eq_true rfl) rfl ?_
    dsimp only [List.set]
    have lp : ∀ (n : Nat) (i a : Int) (y : Int → Int), (n ≤ 61) → (0 ≤ i ∧ 3 * i ≤ a) → (okS y) → ((TD (v 5) x ((pR (v 5) x 61 1 (up (up (up (up v 6 0) 7 0) 10 0) 8 0) q).2.1 10) ((pR (v 5) x 61 1 (up (up (up (up v 6 0) 7 0) 10 0) 8 0) q).2.2) n a i ∧ stP (v 5) x a ∧ a < v 5 ∧ plN (v 5) x (v 5 - a).toNat a i y = (plN (v 5) x (v 5).toNat 0 0 s)) ∨ ((pR (v 5) x 61 1 (up (up (up (up v 6 0) 7 0) 10 0) 8 0) q).2.1 10 = i ∧ i ≤ 21 ∧ (y, i) = (plN (v 5) x (v 5).toNat 0 0 s))) → V X 0 0 (gQ X (gD (some (.int (gI (plN (v 5) x (v 5).toNat 0 0 s).2))) ad N (mput ad (gty X) σ m (up (up (pR (v 5) x 61 1 (up (up (up (up v 6 0) 7 0) 10 0) 8 0) q).2.1 3 (pshN (v 3))) 5 0) ((plN (v 5) x (v 5).toNat 0 0 s).1) (t) (pkP (v 3) p s) (x) ((pR (v 5) x 61 1 (up (up (up (up v 6 0) 7 0) 10 0) 8 0) q).2.2))) 0 0) 29 [some (.ref (ad m)), some (.int (gI i))] [] ad N (mput ad (gty X) σ m (up (up (pR (v 5) x 61 1 (up (up (up (up v 6 0) 7 0) 10 0) 8 0) q).2.1 3 (pshN (v 3))) 5 0) (y) (t) (pkP (v 3) p s) (x) ((pR (v 5) x 61 1 (up (up (up (up v 6 0) 7 0) 10 0) 8 0) q).2.2)) := by
      intro n
      induction n with
      | zero =>
        intro i a y hn ha hy hi
        rcases hi with ⟨hT, -⟩ | ⟨hK, hi21, e⟩
        · exact hT.elim
        refine r_iload_n C dX5_play_29 rfl rfl ?_
        refine r_aload_n C dX5_play_30 rfl rfl ?_
        refine mm_get C flX5_131 dX5_play_31 hm rfl ?_
        try simp only [up_ap, Int.reduceEq, reduceIte]
        refine r_icmp_ge (tgt := 51) C dX5_play_34 (by decide) (by omega) (by omega) (fun h34 => ?_) (fun h34 => ?_)
        · refine r_iload_n C dX5_play_51 rfl rfl ?_
          exact r_iretD C dX5_play_52 (by rw [← e]) (by rw [← e])
        · exact absurd h34 (by omega)
      | succ n ih =>
        intro i a y hn ha hy hi
        rcases hi with ⟨hT, hst, hal, e⟩ | ⟨hK, hi21, e⟩
        · have ha0 : 0 ≤ a := by omega
          have ho := hT.1
          have htl := hT.2.1
          have hdv := deed_v ho (TD_end hT)
          have hTr := TD_rng _ _ _ hT
          have hpe := pE_rng ha0 ho
          have hsg : cAt (v 5) x (a + 1) = 42 ∨ cAt (v 5) x (a + 1) = 60 ∨ cAt (v 5) x (a + 1) = 62 ∨ cAt (v 5) x (a + 1) = 98 ∨ cAt (v 5) x (a + 1) = 110 ∨ cAt (v 5) x (a + 1) = 43 := by
            have hs := (not_congr sgn_6).mp ho.2.1
            omega
          have hw2 : (cAt (v 5) x (a + 1) = 98 ∨ cAt (v 5) x (a + 1) = 43) → ((pR (v 5) x 61 1 (up (up (up (up v 6 0) 7 0) 10 0) 8 0) q).2.2) (3 * i + 2) = nuAt (v 5) x (a + 2) := fun h => h.elim (fun h => (htl.2.2.1 h).trans (hdv.2.2.1 h)) (fun h => (htl.2.2.2 h).trans (hdv.2.2.2 h))
          have hdr := dOk_rng y (dgAt (v 5) x a) (cAt (v 5) x (a + 1)) (nuAt (v 5) x (a + 2))
          refine r_iload_n C dX5_play_29 rfl rfl ?_
          refine r_aload_n C dX5_play_30 rfl rfl ?_
          refine mm_get C flX5_131 dX5_play_31 hm rfl ?_
          try simp only [up_ap, Int.reduceEq, reduceIte]
          refine r_icmp_ge (tgt := 51) C dX5_play_34 (by decide) (by omega) (by omega) (fun h34 => ?_) (fun h34 => ?_)
          · (exfalso; omega)
          · refine r_aload_n C dX5_play_37 rfl rfl ?_
            refine r_iload_n C dX5_play_38 rfl rfl ?_
            refine r_cV C cwX5_144 (c_X5_does (r := dgAt (v 5) x a) (c := cAt (v 5) x (a + 1)) (w := nuAt (v 5) x (a + 2)) hm hy hdv.2.1.1 (by omega) hsg (htl.1.trans hdv.1.symm) htl.2.1 hw2 hdv.2.1.2.2) dX5_play_39 rfl (by omega) mput_0 rfl rfl rfl (Nat.le_of_ble_eq_true rfl) ⟨Nat.le_of_ble_eq_true rfl, Nat.le_of_ble_eq_true rfl⟩ ⟨Nat.le_of_ble_eq_true rfl, Nat.le_of_ble_eq_true rfl⟩ ?_
            refine r_if_eq (tgt := 51) C dX5_play_42 (by decide) (by omega) (fun h42 => ?_) (fun h42 => ?_)
            · refine r_iload_n C dX5_play_51 rfl rfl ?_
              exact r_iretD C dX5_play_52 (by rw [← e, plN_stop hal hst (by omega)]) (by rw [← e, plN_stop hal hst (by omega), dS_0 h42])
            · have h421 : dOk y (dgAt (v 5) x a) (cAt (v 5) x (a + 1)) (nuAt (v 5) x (a + 2)) = 1 := by omega
              have epl := plN_deed (d := i) ha0 hst ho h421
              rw [e] at epl
              refine r_iinc C dX5_play_45 rfl rfl ?_
              dsimp only [List.set]
              refine r_goto (tgt := 29) C dX5_play_48 (by decide) ?_
              rcases hT.2.2 with ⟨hc, hT2⟩ | ⟨hc, hK, hE⟩
              · have hin := cAt_in (len := v 5) (x := x) (p := pE (v 5) x a) (by have := hc.1; omega)
                rw [if_neg (by omega)] at epl
                refine ih (i + 1) (pE (v 5) x a + 1) _ (by omega) (by omega) (okS_dS hy hdv.2.1) (Or.inl ⟨hT2, Or.inr (by rw [show pE (v 5) x a + 1 - 1 = pE (v 5) x a by omega]; have := hc.1; have := hc.2; omega), ?_, epl.symm⟩)
                cases n with
                | zero => exact hT2.elim
                | succ j => have hd2 := hT2.1.1; have := cAt_in (len := v 5) (x := x) (p := pE (v 5) x a + 1) (by unfold isDg at hd2; omega); omega
              · rw [if_pos hE] at epl
                exact ih (i + 1) (a + 3) _ (by omega) (by omega) (okS_dS hy hdv.2.1) (Or.inr ⟨hK, by omega, epl.symm⟩)
        refine r_iload_n C dX5_play_29 rfl rfl ?_
        refine r_aload_n C dX5_play_30 rfl rfl ?_
        refine mm_get C flX5_131 dX5_play_31 hm rfl ?_
        try simp only [up_ap, Int.reduceEq, reduceIte]
        refine r_icmp_ge (tgt := 51) C dX5_play_34 (by decide) (by omega) (by omega) (fun h34 => ?_) (fun h34 => ?_)
        · refine r_iload_n C dX5_play_51 rfl rfl ?_
          exact r_iretD C dX5_play_52 (by rw [← e]) (by rw [← e])
        · exact absurd h34 (by omega)
    exact lp 61 0 0 s (by omega) (by omega) hs (Or.inl ⟨hTD, Or.inl rfl, by have := hTD.1.1; have := cAt_in (len := v 5) (x := x) (p := 0) (by unfold isDg at this; omega); omega, by rw [show v 5 - 0 = v 5 by omega]⟩)
  · exact absurd (hz1.mpr hnc) (by omega)

