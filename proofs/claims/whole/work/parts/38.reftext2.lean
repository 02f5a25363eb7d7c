/-! the reference: the whole text read -/

abbrev cmm (len : Int) (x : Int → Int) (p : Int) : Prop := 44 ≤ cAt len x p ∧ cAt len x p ≤ 44
def pR (len : Int) (x : Int → Int) : Nat → Int → (Int → Int) → (Int → Int) → Int × (Int → Int) × (Int → Int)
  | 0, _, v, q => (0, v, q)
  | n + 1, b, v, q => if b = 0 then (gB (v 7 = len), up v 8 (gB (v 7 < len)), q) else if pOk len x (v 7) then pR len x n (gB (cmm len x (pE len x (v 7)))) (up (up (up v 7 (pE len x (v 7))) 10 (v 10 + 1)) 7 (pE len x (v 7) + gB (cmm len x (pE len x (v 7))))) (pQ len x (v 7) (v 10) q) else (0, pV len x (v 7) v, pQ len x (v 7) (v 10) q)
section TEXT2
variable {len : Int} {x v q : Int → Int} {n : Nat} {b : Int}
theorem pR_0 (h : b = 0) : pR len x (n + 1) b v q = (gB (v 7 = len), up v 8 (gB (v 7 < len)), q) := if_pos h
theorem pR_f (h : b ≠ 0) (h2 : ¬ pOk len x (v 7)) : pR len x (n + 1) b v q = (0, pV len x (v 7) v, pQ len x (v 7) (v 10) q) := (if_neg h).trans (if_neg h2)
theorem pR_s (h : b ≠ 0) (h2 : pOk len x (v 7)) : pR len x (n + 1) b v q = pR len x n (gB (cmm len x (pE len x (v 7)))) (up (up (up v 7 (pE len x (v 7))) 10 (v 10 + 1)) 7 (pE len x (v 7) + gB (cmm len x (pE len x (v 7))))) (pQ len x (v 7) (v 10) q) := (if_neg h).trans (if_pos h2)
theorem pR_1 (h : b ≠ 0) (h2 : pOk len x (v 7)) (h3 : cmm len x (pE len x (v 7))) : pR len x (n + 1) b v q = pR len x n (gB (cmm len x (pE len x (v 7)))) (up (up (up v 7 (pE len x (v 7))) 10 (v 10 + 1)) 7 (pE len x (v 7) + 1)) (pQ len x (v 7) (v 10) q) := by
  rw [pR_s h h2, gB_t h3]
theorem pR_2 (h : b ≠ 0) (h2 : pOk len x (v 7)) (h3 : ¬ cmm len x (pE len x (v 7))) : pR len x (n + 1) b v q = pR len x n (gB (cmm len x (pE len x (v 7)))) (up (up (up v 7 (pE len x (v 7))) 10 (v 10 + 1)) 7 (pE len x (v 7) + 0)) (pQ len x (v 7) (v 10) q) := by
  rw [pR_s h h2, gB_f h3]
theorem pE_rng {p : Int} (h0 : 0 ≤ p) (h : pOk len x p) : p + 2 ≤ pE len x p ∧ pE len x p ≤ len := by
  obtain ⟨h1, h2, h3, h4⟩ := h
  have e1 := cAt_in (len := len) (x := x) (p := p + 1) (fun c => h2 (sgn_6.mpr (by omega)))
  unfold pE
  by_cases c : cAt len x (p + 1) = 98
  · have e2 := cAt_in (len := len) (x := x) (p := p + 2) (by have := h3 c; unfold nOk isDg at this; omega)
    rw [if_pos c]
    unfold nEnd
    rw [if_neg (fun c => absurd c.1 (by decide))]
    omega
  · rw [if_neg c]
    by_cases c2 : cAt len x (p + 1) = 43
    · have e2 := cAt_in (len := len) (x := x) (p := p + 2) (by have := h4 c2; unfold nOk isDg at this; omega)
      rw [if_pos c2]
      unfold nEnd
      by_cases c3 : nTwo len x (p + 2) 1
      · have e3 := cAt_in (len := len) (x := x) (p := p + 2 + 1) (by have := c3.2.2; unfold isDg at this; omega)
        rw [if_pos c3]; omega
      · rw [if_neg c3]; omega
    · rw [if_neg c2]; omega
end TEXT2

set_option maxRecDepth 100000 in
set_option maxHeartbeats 4000000 in
theorem c_X5_isText {l : Launch} {D : va_G} {ty : Nat → ClassId} {ad : Int → Nat} {N : Int} {σ : Int → va_E} {m : Int} {v s t p x q : Int → Int} {len : Int} (hm : 0 ≤ m ∧ m + 6 ≤ N) (e5 : v 5 = len) (hxt : okT len x) : gM0 l yX5_isText cX5_isText 2 (some .boolean) 4 89 [.ref (ad m)] D ty ad N (mput ad ty σ m (v) (s) (t) (p) (x) (q)) (some (.int (gI ((pR len x 61 1 (up (up (up v 7 0) 10 0) 8 0) q).1)))) (mput ad ty σ m ((pR len x 61 1 (up (up (up v 7 0) 10 0) 8 0) q).2.1) (s) (t) (p) (x) ((pR len x 61 1 (up (up (up v 7 0) 10 0) 8 0) q).2.2)) := by
  refine gMet_of [some (.ref (ad m)), none] (by decide +kernel) rfl (Nat.le_of_ble_eq_true rfl) rfl ?_
  intro X hl hD hty C hini
  subst hl hD hty
  subst e5
  have hlen := hxt.1
  refine r_aload_n C dX5_isText_0 rfl rfl ?_
  refine r_iconst C dX5_isText_1 ?_
  refine mm_put (j := 7) C flX5_116 dX5_isText_2 hm (by decide) rfl rfl rfl rfl ?_
  try rw [up_up]
  refine r_aload_n C dX5_isText_5 rfl rfl ?_
  refine r_iconst C dX5_isText_6 ?_
  refine mm_put (j := 10) C flX5_131 dX5_isText_7 hm (by decide) rfl rfl rfl rfl ?_
  try rw [up_up]
  refine r_aload_n C dX5_isText_10 rfl rfl ?_
  refine r_iconst C dX5_isText_11 ?_
  refine mm_put (j := 8) C flX5_119 dX5_isText_12 hm (by decide) rfl rfl (gI_z (by omega)) (gI_f (by omega)) ?_
  try rw [up_up]
  refine r_iconst C dX5_isText_15 ?_
  refine r_istore_n C dX5_isText_16 rfl (Nat.le_of_ble_eq_true rfl) rfl ?_
  dsimp only [List.set]
  have lp : ∀ (n : Nat) (b : Int) (w z : Int → Int), (b = 0 ∨ b = 1) → (0 ≤ w 7 ∧ w 7 ≤ v 5) → (0 ≤ w 10 ∧ 3 * w 10 ≤ w 7 + 1 - b) → (w 5 = v 5) → (61 ≤ w 7 + n) → (pR (v 5) x n b w z = (pR (v 5) x 61 1 (up (up (up v 7 0) 10 0) 8 0) q)) → V X 0 0 (gQ X (gD (some (.int (gI ((pR (v 5) x 61 1 (up (up (up v 7 0) 10 0) 8 0) q).1)))) ad N (mput ad (gty X) σ m ((pR (v 5) x 61 1 (up (up (up v 7 0) 10 0) 8 0) q).2.1) (s) (t) (p) (x) ((pR (v 5) x 61 1 (up (up (up v 7 0) 10 0) 8 0) q).2.2))) 0 0) 17 [some (.ref (ad m)), some (.int (gI b))] [] ad N (mput ad (gty X) σ m (w) (s) (t) (p) (x) (z)) := by
    intro n
    induction n with
    | zero =>
      intro b w z hb h7 h10 h5 hn e
      exact absurd hn (by omega)
    | succ n ih =>
      intro b w z hb h7 h10 h5 hn e
      refine r_iload_n C dX5_isText_17 rfl rfl ?_
      refine r_if_eq (tgt := 70) C dX5_isText_18 (by decide) (by omega) (fun h18 => ?_) (fun h18 => ?_)
      · refine r_aload_n C dX5_isText_70 rfl rfl ?_
        refine r_aload_n C dX5_isText_71 rfl rfl ?_
        refine mm_get C flX5_116 dX5_isText_72 hm rfl ?_
        try simp only [up_ap, Int.reduceEq, reduceIte]
        refine r_aload_n C dX5_isText_75 rfl rfl ?_
        refine mm_get C flX5_113 dX5_isText_76 hm rfl ?_
        try simp only [up_ap, Int.reduceEq, reduceIte]
        refine r_icmp_ge (tgt := 86) C dX5_isText_79 (by decide) (by omega) (by omega) (fun h79 => ?_) (fun h79 => ?_)
        · refine r_iconst C dX5_isText_86 ?_
          refine mm_put (j := 8) C flX5_119 dX5_isText_87 hm (by decide) rfl rfl (gI_z (by omega)) (gI_f (by omega)) ?_
          try rw [up_up]
          refine r_aload_n C dX5_isText_90 rfl rfl ?_
          refine mm_get C flX5_116 dX5_isText_91 hm rfl ?_
          try simp only [up_ap, Int.reduceEq, reduceIte]
          refine r_aload_n C dX5_isText_94 rfl rfl ?_
          refine mm_get C flX5_113 dX5_isText_95 hm rfl ?_
          try simp only [up_ap, Int.reduceEq, reduceIte]
          refine r_icmp_ne (tgt := 105) C dX5_isText_98 (by decide) (by omega) (by omega) (fun h98 => ?_) (fun h98 => ?_)
          · refine r_iconst C dX5_isText_105 ?_
            exact r_zretD C dX5_isText_106 (by first | omega | exact gB_01 _) (by rw [← e, pR_0 h18]; first | exact (gB_t (by omega)).symm | exact (gB_f (by omega)).symm) (by rw [← e, pR_0 h18]; first | (exfalso; omega) | rw [gB_t (show w 7 < v 5 by omega)] | rw [gB_f (show ¬ w 7 < v 5 by omega)])
          · refine r_iconst C dX5_isText_101 ?_
            refine r_goto (tgt := 106) C dX5_isText_102 (by decide) ?_
            exact r_zretD C dX5_isText_106 (by first | omega | exact gB_01 _) (by rw [← e, pR_0 h18]; first | exact (gB_t (by omega)).symm | exact (gB_f (by omega)).symm) (by rw [← e, pR_0 h18]; first | (exfalso; omega) | rw [gB_t (show w 7 < v 5 by omega)] | rw [gB_f (show ¬ w 7 < v 5 by omega)])
        · refine r_iconst C dX5_isText_82 ?_
          refine r_goto (tgt := 87) C dX5_isText_83 (by decide) ?_
          refine mm_put (j := 8) C flX5_119 dX5_isText_87 hm (by decide) rfl rfl (gI_z (by omega)) (gI_f (by omega)) ?_
          try rw [up_up]
          refine r_aload_n C dX5_isText_90 rfl rfl ?_
          refine mm_get C flX5_116 dX5_isText_91 hm rfl ?_
          try simp only [up_ap, Int.reduceEq, reduceIte]
          refine r_aload_n C dX5_isText_94 rfl rfl ?_
          refine mm_get C flX5_113 dX5_isText_95 hm rfl ?_
          try simp only [up_ap, Int.reduceEq, reduceIte]
          refine r_icmp_ne (tgt := 105) C dX5_isText_98 (by decide) (by omega) (by omega) (fun h98 => ?_) (fun h98 => ?_)
          · refine r_iconst C dX5_isText_105 ?_
            exact r_zretD C dX5_isText_106 (by first | omega | exact gB_01 _) (by rw [← e, pR_0 h18]; first | exact (gB_t (by omega)).symm | exact (gB_f (by omega)).symm) (by rw [← e, pR_0 h18]; first | (exfalso; omega) | rw [gB_t (show w 7 < v 5 by omega)] | rw [gB_f (show ¬ w 7 < v 5 by omega)])
          · refine r_iconst C dX5_isText_101 ?_
            refine r_goto (tgt := 106) C dX5_isText_102 (by decide) ?_
            exact r_zretD C dX5_isText_106 (by first | omega | exact gB_01 _) (by rw [← e, pR_0 h18]; first | exact (gB_t (by omega)).symm | exact (gB_f (by omega)).symm) (by rw [← e, pR_0 h18]; first | (exfalso; omega) | rw [gB_t (show w 7 < v 5 by omega)] | rw [gB_f (show ¬ w 7 < v 5 by omega)])
      · refine r_aload_n C dX5_isText_21 rfl rfl ?_
        refine r_cV C cwX5_138 (c_X5_isPart (len := v 5) (p0 := w 7) (k := w 10) hm h5 rfl rfl hxt h7 (by omega)) dX5_isText_22 rfl (by omega) mput_0 rfl rfl rfl (Nat.le_of_ble_eq_true rfl) ⟨Nat.le_of_ble_eq_true rfl, Nat.le_of_ble_eq_true rfl⟩ ⟨Nat.le_of_ble_eq_true rfl, Nat.le_of_ble_eq_true rfl⟩ ?_
        refine r_ifb_ne (tgt := 30) C dX5_isText_25 (by decide) (fun h25 => ?_) (fun h25 => ?_)
        · have hpe := pE_rng h7.1 h25
          have hpv : pV (v 5) x (w 7) w = up w 7 (pE (v 5) x (w 7)) := if_pos h25
          rw [hpv]
          refine r_aload_n C dX5_isText_30 rfl rfl ?_
          refine r_dup C dX5_isText_31 rfl ?_
          refine mm_get C flX5_131 dX5_isText_32 hm rfl ?_
          try simp only [up_ap, Int.reduceEq, reduceIte]
          refine r_iconst C dX5_isText_35 ?_
          refine r_iadd C dX5_isText_36 ?_
          refine mm_put (j := 10) C flX5_131 dX5_isText_37 hm (by decide) rfl rfl rfl rfl ?_
          try rw [up_up]
          refine r_aload_n C dX5_isText_40 rfl rfl ?_
          refine r_bipush C dX5_isText_41 (by decide) ?_
          refine r_bipush C dX5_isText_43 (by decide) ?_
          refine r_cV C cwX5_123 (c_X5_isAt (len := v 5) (p0 := pE (v 5) x (w 7)) hm (by simp only [up_ap, Int.reduceEq, reduceIte]; exact h5) (by first | rfl | simp only [up_ap, Int.reduceEq, reduceIte]) hxt (by omega) (by omega) (by omega)) dX5_isText_45 rfl (by omega) mput_0 rfl rfl rfl (Nat.le_of_ble_eq_true rfl) ⟨Nat.le_of_ble_eq_true rfl, Nat.le_of_ble_eq_true rfl⟩ ⟨Nat.le_of_ble_eq_true rfl, Nat.le_of_ble_eq_true rfl⟩ ?_
          refine r_istore_n C dX5_isText_48 rfl (Nat.le_of_ble_eq_true rfl) rfl ?_
          dsimp only [List.set]
          refine r_aload_n C dX5_isText_49 rfl rfl ?_
          refine r_dup C dX5_isText_50 rfl ?_
          refine mm_get C flX5_116 dX5_isText_51 hm rfl ?_
          try simp only [up_ap, Int.reduceEq, reduceIte]
          refine r_iload_n C dX5_isText_54 rfl rfl ?_
          refine r_ifb_eq (tgt := 62) C dX5_isText_55 (by decide) (fun h55 => ?_) (fun h55 => ?_)
          · refine r_iconst C dX5_isText_62 ?_
            refine r_iadd C dX5_isText_63 ?_
            refine mm_put (j := 7) C flX5_116 dX5_isText_64 hm (by decide) rfl rfl rfl rfl ?_
            try rw [up_up]
            refine r_goto (tgt := 17) C dX5_isText_67 (by decide) ?_
            have hcm := cAt_in (len := v 5) (x := x) (p := pE (v 5) x (w 7))
            first
            | (have hg : gB (44 ≤ cAt (v 5) x (pE (v 5) x (w 7)) ∧ cAt (v 5) x (pE (v 5) x (w 7)) ≤ 44) = 1 := gB_t h55; exact ih _ _ _ (gB_01 _) (by simp only [up_ap, Int.reduceEq, reduceIte]; omega) (by simp only [up_ap, Int.reduceEq, reduceIte]; omega) (by simp only [up_ap, Int.reduceEq, reduceIte]; exact h5) (by simp only [up_ap, Int.reduceEq, reduceIte]; omega) ((pR_1 (by omega) h25 h55).symm.trans e))
            | (have hg : gB (44 ≤ cAt (v 5) x (pE (v 5) x (w 7)) ∧ cAt (v 5) x (pE (v 5) x (w 7)) ≤ 44) = 0 := gB_f h55; exact ih _ _ _ (gB_01 _) (by simp only [up_ap, Int.reduceEq, reduceIte]; omega) (by simp only [up_ap, Int.reduceEq, reduceIte]; omega) (by simp only [up_ap, Int.reduceEq, reduceIte]; exact h5) (by simp only [up_ap, Int.reduceEq, reduceIte]; omega) ((pR_2 (by omega) h25 h55).symm.trans e))
          · refine r_iconst C dX5_isText_58 ?_
            refine r_goto (tgt := 63) C dX5_isText_59 (by decide) ?_
            refine r_iadd C dX5_isText_63 ?_
            refine mm_put (j := 7) C flX5_116 dX5_isText_64 hm (by decide) rfl rfl rfl rfl ?_
            try rw [up_up]
            refine r_goto (tgt := 17) C dX5_isText_67 (by decide) ?_
            have hcm := cAt_in (len := v 5) (x := x) (p := pE (v 5) x (w 7))
            first
            | (have hg : gB (44 ≤ cAt (v 5) x (pE (v 5) x (w 7)) ∧ cAt (v 5) x (pE (v 5) x (w 7)) ≤ 44) = 1 := gB_t h55; exact ih _ _ _ (gB_01 _) (by simp only [up_ap, Int.reduceEq, reduceIte]; omega) (by simp only [up_ap, Int.reduceEq, reduceIte]; omega) (by simp only [up_ap, Int.reduceEq, reduceIte]; exact h5) (by simp only [up_ap, Int.reduceEq, reduceIte]; omega) ((pR_1 (by omega) h25 h55).symm.trans e))
            | (have hg : gB (44 ≤ cAt (v 5) x (pE (v 5) x (w 7)) ∧ cAt (v 5) x (pE (v 5) x (w 7)) ≤ 44) = 0 := gB_f h55; exact ih _ _ _ (gB_01 _) (by simp only [up_ap, Int.reduceEq, reduceIte]; omega) (by simp only [up_ap, Int.reduceEq, reduceIte]; omega) (by simp only [up_ap, Int.reduceEq, reduceIte]; exact h5) (by simp only [up_ap, Int.reduceEq, reduceIte]; omega) ((pR_2 (by omega) h25 h55).symm.trans e))
        · refine r_iconst C dX5_isText_28 ?_
          exact r_zretD C dX5_isText_29 (by first | omega | exact gB_01 _) (by rw [← e, pR_f (by omega) h25]) (by rw [← e, pR_f (by omega) h25])
  exact lp 61 1 _ q (by omega) (by simp only [up_ap, Int.reduceEq, reduceIte]; omega) (by simp only [up_ap, Int.reduceEq, reduceIte]; omega) (by simp only [up_ap, Int.reduceEq, reduceIte]) (by simp only [up_ap, Int.reduceEq, reduceIte]; omega) rfl

