/-! the reference: the first error; the deeds played -/

section TOLD
variable {len : Int} {x : Int → Int}
theorem pV_fr {p : Int} {v : Int → Int} {j : Int} (h : j ≠ 7 ∧ j ≠ 8) : pV len x p v j = v j := by
  unfold pV
  split
  · rw [up_n h.1]
  · rw [up_n h.2, up_n h.1]
theorem pR_fr {j : Int} (h : j ≠ 7 ∧ j ≠ 8 ∧ j ≠ 10) : ∀ (n : Nat) (b : Int) (v q : Int → Int), (pR len x n b v q).2.1 j = v j
  | 0, b, v, q => rfl
  | n + 1, b, v, q => by
    by_cases hb : b = 0
    · rw [pR_0 hb]; dsimp only; rw [up_n h.2.1]
    · by_cases ho : pOk len x (v 7)
      · rw [pR_s hb ho, pR_fr h n, up_n h.1, up_n h.2.2, up_n h.1]
      · rw [pR_f hb ho]; exact pV_fr ⟨h.1, h.2.1⟩
theorem pQ_fr {p k j : Int} {q : Int → Int} (h : j < 3 * k) : pQ len x p k q j = q j := by
  unfold pQ
  split
  · rfl
  · split
    · rw [up_n (by omega), up_n (by omega), up_n (by omega)]
    · split
      · rw [up_n (by omega), up_n (by omega), up_n (by omega)]
      · rw [up_n (by omega), up_n (by omega)]
theorem pR_qfr : ∀ (n : Nat) (b : Int) (v q : Int → Int) (j : Int), j < 3 * v 10 → (pR len x n b v q).2.2 j = q j
  | 0, b, v, q, j, h => rfl
  | n + 1, b, v, q, j, h => by
    by_cases hb : b = 0
    · rw [pR_0 hb]
    · by_cases ho : pOk len x (v 7)
      · rw [pR_s hb ho, pR_qfr n _ _ _ j (by rw [up_n (by omega), up_s]; omega)]; exact pQ_fr h
      · rw [pR_f hb ho]; exact pQ_fr h
/-- what is told of the deed at p, the k-th -/
def tl (len : Int) (x : Int → Int) (p k : Int) (q : Int → Int) : Prop := q (3 * k) = cAt len x p - 48 ∧ q (3 * k + 1) = cAt len x (p + 1) ∧ (cAt len x (p + 1) = 98 → q (3 * k + 2) = nVal len x (p + 2) 0) ∧ (cAt len x (p + 1) = 43 → q (3 * k + 2) = nVal len x (p + 2) 1)
/-- what is told of the deeds from p on, the k-th and later, K in all -/
def TD (len : Int) (x : Int → Int) (K : Int) (q : Int → Int) : Nat → Int → Int → Prop
  | 0, _, _ => False
  | n + 1, p, k => pOk len x p ∧ tl len x p k q ∧ ((cmm len x (pE len x p) ∧ TD len x K q n (pE len x p + 1) (k + 1)) ∨ (¬ cmm len x (pE len x p) ∧ K = k + 1 ∧ pE len x p = len))
theorem tl_pQ {p k : Int} {q : Int → Int} (h : pOk len x p) : tl len x p k (pQ len x p k q) := by
  obtain ⟨h1, h2, h3, h4⟩ := h
  by_cases c : cAt len x (p + 1) = 98
  · have e : pQ len x p k q = _ := (part_3 (v := q) (k := k) (q := q) h1 c).2.1
    rw [e, if_pos (h3 c)]
    refine ⟨by rw [up_n (by omega), up_n (by omega), up_s], by rw [up_n (by omega), up_s], fun _ => by rw [up_s], fun c2 => by omega⟩
  · by_cases c2 : cAt len x (p + 1) = 43
    · have e : pQ len x p k q = _ := (part_4 (v := q) (k := k) (q := q) h1 c2).2.1
      rw [e, if_pos (h4 c2)]
      refine ⟨by rw [up_n (by omega), up_n (by omega), up_s], by rw [up_n (by omega), up_s], fun h => by omega, fun _ => by rw [up_s]⟩
    · have e : pQ len x p k q = _ := (part_2 (v := q) (k := k) (q := q) h1 h2 ⟨c, c2⟩).2.1
      rw [e]
      exact ⟨by rw [up_n (by omega), up_s], by rw [up_s], fun h => absurd h c, fun h => absurd h c2⟩
theorem tl_cong {p k : Int} {q q' : Int → Int} (h : ∀ j, j < 3 * k + 3 → q' j = q j) (t : tl len x p k q) : tl len x p k q' := by
  unfold tl at t ⊢
  rw [h _ (by omega), h _ (by omega), h _ (by omega)]
  exact t
theorem pR_told : ∀ (n : Nat) (v q : Int → Int), (pR len x n 1 v q).1 = 1 → TD len x ((pR len x n 1 v q).2.1 10) (pR len x n 1 v q).2.2 n (v 7) (v 10)
  | 0, v, q, h => absurd (show (0 : Int) = 1 from h) (by decide)
  | n + 1, v, q, h => by
    by_cases ho : pOk len x (v 7)
    · rw [pR_s (by decide) ho] at h ⊢
      refine ⟨ho, tl_cong (q := pQ len x (v 7) (v 10) q) (fun j hj => pR_qfr _ _ _ _ _ (by rw [up_n (by decide), up_s]; omega)) (tl_pQ ho), ?_⟩
      by_cases hc : cmm len x (pE len x (v 7))
      · left
        rw [gB_t hc] at h ⊢
        have ih := pR_told n _ _ h
        rw [up_s, up_n (show (10 : Int) ≠ 7 by decide), up_s] at ih
        exact ⟨hc, ih⟩
      · right
        rw [gB_f hc] at h ⊢
        cases n with
        | zero => exact absurd (show (0 : Int) = 1 from h) (by decide)
        | succ j =>
          rw [pR_0 rfl] at h ⊢
          dsimp only at h ⊢
          refine ⟨hc, by rw [up_n (by decide), up_n (by decide), up_s], ?_⟩
          rw [up_s] at h
          have : pE len x (v 7) + 0 = len := Classical.byContradiction fun c => by rw [gB_f c] at h; exact absurd h (by decide)
          omega
    · rw [pR_f (by decide) ho] at h
      exact absurd (show (0 : Int) = 1 from h) (by decide)
end TOLD

set_option maxRecDepth 100000 in
set_option maxHeartbeats 4000000 in
theorem c_X5_firstError {l : Launch} {D : va_G} {ty : Nat → ClassId} {ad : Int → Nat} {N : Int} {σ : Int → va_E} {m : Int} {v s t p x q : Int → Int} (hm : 0 ≤ m ∧ m + 6 ≤ N) (hxt : okT (v 5) x) : gM0 l yX5_firstError cX5_firstError 2 (some .int) 5 110 [.ref (ad m)] D ty ad N (mput ad ty σ m (v) (s) (t) (p) (x) (q)) (some (.int (gI (errP (v 5) x)))) (mput ad ty σ m ((pR (v 5) x 61 1 (up (up (up (up v 6 0) 7 0) 10 0) 8 0) q).2.1) (s) (t) (p) (x) ((pR (v 5) x 61 1 (up (up (up (up v 6 0) 7 0) 10 0) 8 0) q).2.2)) := by
  refine gMet_of [some (.ref (ad m)), none] (by decide +kernel) rfl (Nat.le_of_ble_eq_true rfl) rfl ?_
  intro X hl hD hty C hini
  subst hl hD hty
  have hlen := hxt.1
  have hw7 : up (up (up (up v 6 0) 7 0) 10 0) 8 0 7 = 0 := by simp only [up_ap, Int.reduceEq, reduceIte]
  have hsp := pR_spec (len := v 5) (x := x) hlen.2 61 (up (up (up (up v 6 0) 7 0) 10 0) 8 0) q (by rw [hw7]; omega) (by rw [hw7]; omega)
  rw [hw7] at hsp
  have hf5 : (pR (v 5) x 61 1 (up (up (up (up v 6 0) 7 0) 10 0) 8 0) q).2.1 5 = v 5 := by rw [pR_fr (by decide)]; simp only [up_ap, Int.reduceEq, reduceIte]
  have hz0 : sE (v 5) x 0 0 = errP (v 5) x := by unfold sE errP; rw [show v 5 - 0 = v 5 by omega]
  have hz1 : (sS (v 5) x 0 0 = 4 ∨ sS (v 5) x 0 0 = 5) ↔ cmpl (v 5) x := by unfold sS; rw [show v 5 - 0 = v 5 by omega]
  refine r_aload_n C dX5_firstError_0 rfl rfl ?_
  refine r_iconst C dX5_firstError_1 ?_
  refine mm_put (j := 6) C flX5_25 dX5_firstError_2 hm (by decide) rfl rfl rfl rfl ?_
  try rw [up_up]
  refine r_aload_n C dX5_firstError_5 rfl rfl ?_
  refine r_cV C cwX5_141 (c_X5_isText (len := v 5) hm (by first | rfl | simp only [up_ap, Int.reduceEq, reduceIte]) hxt) dX5_firstError_6 rfl (by omega) mput_0 rfl rfl rfl (Nat.le_of_ble_eq_true rfl) ⟨Nat.le_of_ble_eq_true rfl, Nat.le_of_ble_eq_true rfl⟩ ⟨Nat.le_of_ble_eq_true rfl, Nat.le_of_ble_eq_true rfl⟩ ?_
  refine r_istore_n C dX5_firstError_9 rfl (Nat.le_of_ble_eq_true rfl) rfl ?_
  dsimp only [List.set]
  refine r_iload_n C dX5_firstError_10 rfl rfl ?_
  refine r_if_ne (tgt := 28) C dX5_firstError_11 (by decide) (by omega) (fun h11 => ?_) (fun h11 => ?_)
  · refine r_aload_n C dX5_firstError_28 rfl rfl ?_
    refine mm_get C flX5_113 dX5_firstError_29 hm rfl ?_
    try simp only [up_ap, Int.reduceEq, reduceIte]
    exact r_iretD C dX5_firstError_32 (by rw [← hz0]; omega) rfl
  · refine r_aload_n C dX5_firstError_14 rfl rfl ?_
    refine mm_get C flX5_119 dX5_firstError_15 hm rfl ?_
    try simp only [up_ap, Int.reduceEq, reduceIte]
    have hb8 := gB_rng (sE (v 5) x 0 0 < v 5)
    have hb9 := gB_0 (sE (v 5) x 0 0 < v 5)
    refine r_if_eq (tgt := 28) C dX5_firstError_18 (by decide) (by omega) (fun h18 => ?_) (fun h18 => ?_)
    · refine r_aload_n C dX5_firstError_28 rfl rfl ?_
      refine mm_get C flX5_113 dX5_firstError_29 hm rfl ?_
      try simp only [up_ap, Int.reduceEq, reduceIte]
      exact r_iretD C dX5_firstError_32 (by rw [← hz0]; omega) rfl
    · refine r_aload_n C dX5_firstError_21 rfl rfl ?_
      refine mm_get C flX5_116 dX5_firstError_22 hm rfl ?_
      try simp only [up_ap, Int.reduceEq, reduceIte]
      refine r_goto (tgt := 32) C dX5_firstError_25 (by decide) ?_
      exact r_iretD C dX5_firstError_32 (by rw [← hz0]; omega) rfl

set_option maxRecDepth 100000 in
set_option maxHeartbeats 4000000 in
theorem c_X5_does {l : Launch} {D : va_G} {ty : Nat → ClassId} {ad : Int → Nat} {N : Int} {σ : Int → va_E} {m : Int} {v s t p x q : Int → Int} {i r c w : Int} (hm : 0 ≤ m ∧ m + 6 ≤ N) (hs : okS s) (hr : 0 ≤ r ∧ r < 6) (hi : 0 ≤ i ∧ i ≤ 20) (hc : c = 42 ∨ c = 60 ∨ c = 62 ∨ c = 98 ∨ c = 110 ∨ c = 43) (h0 : q (3 * i) = r) (h1 : q (3 * i + 1) = c) (h2 : (c = 98 ∨ c = 43) → q (3 * i + 2) = w) (hv : 0 ≤ w ∧ w < 100) : gM0 l yX5_does cX5_does 8 (some .boolean) 3 66 [.ref (ad m), .int (gI i)] D ty ad N (mput ad ty σ m (v) (s) (t) (p) (x) (q)) (some (.int (gI (dOk s r c w)))) (mput ad ty σ m (v) (dS s r c w) (t) (p) (x) (q)) := by
  refine gMet_of [some (.ref (ad m)), some (.int (gI i)), none, none, none, none, none, none] (by decide +kernel) rfl (Nat.le_of_ble_eq_true rfl) rfl ?_
  intro X hl hD hty C hini
  subst hl hD hty
  have hbox := hs.box
  have hqm := (hs.rm hr).many
  rcases hc with hw | hw | hw | hw | hw | hw
  · subst hw
    refine r_aload_n C dX5_does_0 rfl rfl ?_
    refine mm_get C flX5_22 dX5_does_1 hm rfl ?_
    refine r_iconst C dX5_does_4 ?_
    refine r_iload_n C dX5_does_5 rfl rfl ?_
    refine r_imul C dX5_does_6 ?_
    refine r_iald C dX5_does_7 (by omega) mput_5 (by omega) (by omega) ?_
    rw [h0]
    refine r_istore_n C dX5_does_8 rfl (Nat.le_of_ble_eq_true rfl) rfl ?_
    dsimp only [List.set]
    refine r_aload_n C dX5_does_9 rfl rfl ?_
    refine mm_get C flX5_22 dX5_does_10 hm rfl ?_
    refine r_iconst C dX5_does_13 ?_
    refine r_iload_n C dX5_does_14 rfl rfl ?_
    refine r_imul C dX5_does_15 ?_
    refine r_iconst C dX5_does_16 ?_
    refine r_iadd C dX5_does_17 ?_
    refine r_iald C dX5_does_18 (by omega) mput_5 (by omega) (by omega) ?_
    rw [h1]
    refine r_istore_n C dX5_does_19 rfl (Nat.le_of_ble_eq_true rfl) rfl ?_
    dsimp only [List.set]
    refine r_aload_n C dX5_does_20 rfl rfl ?_
    refine mm_get C flX5_22 dX5_does_21 hm rfl ?_
    refine r_iconst C dX5_does_24 ?_
    refine r_iload_n C dX5_does_25 rfl rfl ?_
    refine r_imul C dX5_does_26 ?_
    refine r_iconst C dX5_does_27 ?_
    refine r_iadd C dX5_does_28 ?_
    refine r_iald C dX5_does_29 (by omega) mput_5 (by omega) (by omega) ?_
    refine r_istore C dX5_does_30 (Nat.le_of_ble_eq_true rfl) rfl ?_
    dsimp only [List.set]
    refine r_iload_n C dX5_does_32 rfl rfl ?_
    refine r_iload_n C dX5_does_33 rfl rfl ?_
    refine r_bipush C dX5_does_34 (by decide) ?_
    refine r_icmp_ne (tgt := 43) C dX5_does_36 (by decide) (by omega) (by omega) (fun h36 => ?_) (fun h36 => ?_)
    · refine r_iconst C dX5_does_43 ?_
      refine r_iadd C dX5_does_44 ?_
      refine r_bipush C dX5_does_45 (by decide) ?_
      refine r_irem C dX5_does_47 (by omega) (by omega) ?_
      refine r_istore C dX5_does_48 (Nat.le_of_ble_eq_true rfl) rfl ?_
      dsimp only [List.set]
      refine r_iload_n C dX5_does_50 rfl rfl ?_
      refine r_bipush C dX5_does_51 (by decide) ?_
      refine r_icmp_ne (tgt := 67) C dX5_does_53 (by decide) (by omega) (by omega) (fun h53 => ?_) (fun h53 => ?_)
      · (exfalso; omega)
      · refine r_aload_n C dX5_does_56 rfl rfl ?_
        refine mm_get C flX5_7 dX5_does_57 hm rfl ?_
        refine r_iload_n C dX5_does_60 rfl rfl ?_
        refine r_cS C cwX5_67 (c_X5_mayStrike (by omega) mput_1 hs (by omega)) dX5_does_61 rfl rfl rfl (Nat.le_of_ble_eq_true rfl) ⟨Nat.le_of_ble_eq_true rfl, Nat.le_of_ble_eq_true rfl⟩ ⟨Nat.le_of_ble_eq_true rfl, Nat.le_of_ble_eq_true rfl⟩ ?_
        refine r_goto (tgt := 97) C dX5_does_64 (by decide) ?_
        refine r_istore C dX5_does_97 (Nat.le_of_ble_eq_true rfl) rfl ?_
        dsimp only [List.set]
        refine r_iload C dX5_does_99 rfl ?_
        refine r_ifb_ne (tgt := 144) C dX5_does_101 (by decide) (fun h101 => ?_) (fun h101 => ?_)
        · first
          | (exfalso; first | omega | contradiction)
          | refine r_iconst C dX5_does_144 ?_
            refine r_goto (tgt := 149) C dX5_does_145 (by decide) ?_
            refine r_istore C dX5_does_149 (Nat.le_of_ble_eq_true rfl) rfl ?_
            dsimp only [List.set]
            refine r_iload C dX5_does_151 rfl ?_
            refine r_ifb_eq (tgt := 167) C dX5_does_153 (by decide) (fun h153 => ?_) (fun h153 => ?_)
            · first
              | (exfalso; first | omega | contradiction)
              | refine r_iload C dX5_does_167 rfl ?_
                refine r_if_eq (tgt := 189) C dX5_does_169 (by decide) (by omega) (fun h169 => ?_) (fun h169 => ?_)
                · first
                  | (exfalso; first | omega | contradiction)
                  | refine r_iload C dX5_does_189 rfl ?_
                    refine r_if_eq (tgt := 220) C dX5_does_191 (by decide) (by omega) (fun h191 => ?_) (fun h191 => ?_)
                    · first
                      | (exfalso; first | omega | contradiction)
                      | refine r_iload C dX5_does_220 rfl ?_
                        refine r_if_eq (tgt := 236) C dX5_does_222 (by decide) (by omega) (fun h222 => ?_) (fun h222 => ?_)
                        · first
                          | (exfalso; first | omega | contradiction)
                          | refine r_iload C dX5_does_236 rfl ?_
                            exact r_zretD C dX5_does_238 (by first | omega | exact gB_01 _) (by unfold dOk; rw [if_pos rfl]; first | exact (gB_t (by first | assumption | omega)).symm | exact (gB_f (by first | assumption | omega)).symm) (by unfold dS; rw [if_pos rfl]; first | rw [if_pos (show mayS s r by first | assumption | omega)] | rw [if_neg (show ¬ (mayS s r) by first | assumption | omega)])
                        · first
                          | (exfalso; first | omega | contradiction)
                          | refine r_aload_n C dX5_does_225 rfl rfl ?_
                            refine mm_get C flX5_7 dX5_does_226 hm rfl ?_
                            refine r_iload_n C dX5_does_229 rfl rfl ?_
                            refine r_iload C dX5_does_230 rfl ?_
                            refine r_cS C cwX5_107 (liftN (c_X5_keeps (by omega) (by omega) (by omega))) dX5_does_232 rfl rfl rfl (Nat.le_of_ble_eq_true rfl) ⟨Nat.le_of_ble_eq_true rfl, Nat.le_of_ble_eq_true rfl⟩ ⟨Nat.le_of_ble_eq_true rfl, Nat.le_of_ble_eq_true rfl⟩ ?_
                            refine r_pop C dX5_does_235 rfl ?_
                            refine r_iload C dX5_does_236 rfl ?_
                            exact r_zretD C dX5_does_238 (by first | omega | exact gB_01 _) (by unfold dOk; rw [if_pos rfl]; first | exact (gB_t (by first | assumption | omega)).symm | exact (gB_f (by first | assumption | omega)).symm) (by unfold dS; rw [if_pos rfl]; first | rw [if_pos (show mayS s r by first | assumption | omega)] | rw [if_neg (show ¬ (mayS s r) by first | assumption | omega)])
                    · first
                      | (exfalso; first | omega | contradiction)
                      | refine r_iload_n C dX5_does_194 rfl rfl ?_
                        refine r_bipush C dX5_does_195 (by decide) ?_
                        refine r_icmp_ne (tgt := 220) C dX5_does_197 (by decide) (by omega) (by omega) (fun h197 => ?_) (fun h197 => ?_)
                        · refine r_iload C dX5_does_220 rfl ?_
                          refine r_if_eq (tgt := 236) C dX5_does_222 (by decide) (by omega) (fun h222 => ?_) (fun h222 => ?_)
                          · first
                            | (exfalso; first | omega | contradiction)
                            | refine r_iload C dX5_does_236 rfl ?_
                              exact r_zretD C dX5_does_238 (by first | omega | exact gB_01 _) (by unfold dOk; rw [if_pos rfl]; first | exact (gB_t (by first | assumption | omega)).symm | exact (gB_f (by first | assumption | omega)).symm) (by unfold dS; rw [if_pos rfl]; first | rw [if_pos (show mayS s r by first | assumption | omega)] | rw [if_neg (show ¬ (mayS s r) by first | assumption | omega)])
                          · first
                            | (exfalso; first | omega | contradiction)
                            | refine r_aload_n C dX5_does_225 rfl rfl ?_
                              refine mm_get C flX5_7 dX5_does_226 hm rfl ?_
                              refine r_iload_n C dX5_does_229 rfl rfl ?_
                              refine r_iload C dX5_does_230 rfl ?_
                              refine r_cS C cwX5_107 (liftN (c_X5_keeps (by omega) (by omega) (by omega))) dX5_does_232 rfl rfl rfl (Nat.le_of_ble_eq_true rfl) ⟨Nat.le_of_ble_eq_true rfl, Nat.le_of_ble_eq_true rfl⟩ ⟨Nat.le_of_ble_eq_true rfl, Nat.le_of_ble_eq_true rfl⟩ ?_
                              refine r_pop C dX5_does_235 rfl ?_
                              refine r_iload C dX5_does_236 rfl ?_
                              exact r_zretD C dX5_does_238 (by first | omega | exact gB_01 _) (by unfold dOk; rw [if_pos rfl]; first | exact (gB_t (by first | assumption | omega)).symm | exact (gB_f (by first | assumption | omega)).symm) (by unfold dS; rw [if_pos rfl]; first | rw [if_pos (show mayS s r by first | assumption | omega)] | rw [if_neg (show ¬ (mayS s r) by first | assumption | omega)])
                        · (exfalso; omega)
                · first
                  | (exfalso; first | omega | contradiction)
                  | refine r_iload_n C dX5_does_172 rfl rfl ?_
                    refine r_bipush C dX5_does_173 (by decide) ?_
                    refine r_icmp_ne (tgt := 189) C dX5_does_175 (by decide) (by omega) (by omega) (fun h175 => ?_) (fun h175 => ?_)
                    · refine r_iload C dX5_does_189 rfl ?_
                      refine r_if_eq (tgt := 220) C dX5_does_191 (by decide) (by omega) (fun h191 => ?_) (fun h191 => ?_)
                      · first
                        | (exfalso; first | omega | contradiction)
                        | refine r_iload C dX5_does_220 rfl ?_
                          refine r_if_eq (tgt := 236) C dX5_does_222 (by decide) (by omega) (fun h222 => ?_) (fun h222 => ?_)
                          · first
                            | (exfalso; first | omega | contradiction)
                            | refine r_iload C dX5_does_236 rfl ?_
                              exact r_zretD C dX5_does_238 (by first | omega | exact gB_01 _) (by unfold dOk; rw [if_pos rfl]; first | exact (gB_t (by first | assumption | omega)).symm | exact (gB_f (by first | assumption | omega)).symm) (by unfold dS; rw [if_pos rfl]; first | rw [if_pos (show mayS s r by first | assumption | omega)] | rw [if_neg (show ¬ (mayS s r) by first | assumption | omega)])
                          · first
                            | (exfalso; first | omega | contradiction)
                            | refine r_aload_n C dX5_does_225 rfl rfl ?_
                              refine mm_get C flX5_7 dX5_does_226 hm rfl ?_
                              refine r_iload_n C dX5_does_229 rfl rfl ?_
                              refine r_iload C dX5_does_230 rfl ?_
                              refine r_cS C cwX5_107 (liftN (c_X5_keeps (by omega) (by omega) (by omega))) dX5_does_232 rfl rfl rfl (Nat.le_of_ble_eq_true rfl) ⟨Nat.le_of_ble_eq_true rfl, Nat.le_of_ble_eq_true rfl⟩ ⟨Nat.le_of_ble_eq_true rfl, Nat.le_of_ble_eq_true rfl⟩ ?_
                              refine r_pop C dX5_does_235 rfl ?_
                              refine r_iload C dX5_does_236 rfl ?_
                              exact r_zretD C dX5_does_238 (by first | omega | exact gB_01 _) (by unfold dOk; rw [if_pos rfl]; first | exact (gB_t (by first | assumption | omega)).symm | exact (gB_f (by first | assumption | omega)).symm) (by unfold dS; rw [if_pos rfl]; first | rw [if_pos (show mayS s r by first | assumption | omega)] | rw [if_neg (show ¬ (mayS s r) by first | assumption | omega)])
                      · first
                        | (exfalso; first | omega | contradiction)
                        | refine r_iload_n C dX5_does_194 rfl rfl ?_
                          refine r_bipush C dX5_does_195 (by decide) ?_
                          refine r_icmp_ne (tgt := 220) C dX5_does_197 (by decide) (by omega) (by omega) (fun h197 => ?_) (fun h197 => ?_)
                          · refine r_iload C dX5_does_220 rfl ?_
                            refine r_if_eq (tgt := 236) C dX5_does_222 (by decide) (by omega) (fun h222 => ?_) (fun h222 => ?_)
                            · first
                              | (exfalso; first | omega | contradiction)
                              | refine r_iload C dX5_does_236 rfl ?_
                                exact r_zretD C dX5_does_238 (by first | omega | exact gB_01 _) (by unfold dOk; rw [if_pos rfl]; first | exact (gB_t (by first | assumption | omega)).symm | exact (gB_f (by first | assumption | omega)).symm) (by unfold dS; rw [if_pos rfl]; first | rw [if_pos (show mayS s r by first | assumption | omega)] | rw [if_neg (show ¬ (mayS s r) by first | assumption | omega)])
                            · first
                              | (exfalso; first | omega | contradiction)
                              | refine r_aload_n C dX5_does_225 rfl rfl ?_
                                refine mm_get C flX5_7 dX5_does_226 hm rfl ?_
                                refine r_iload_n C dX5_does_229 rfl rfl ?_
                                refine r_iload C dX5_does_230 rfl ?_
                                refine r_cS C cwX5_107 (liftN (c_X5_keeps (by omega) (by omega) (by omega))) dX5_does_232 rfl rfl rfl (Nat.le_of_ble_eq_true rfl) ⟨Nat.le_of_ble_eq_true rfl, Nat.le_of_ble_eq_true rfl⟩ ⟨Nat.le_of_ble_eq_true rfl, Nat.le_of_ble_eq_true rfl⟩ ?_
                                refine r_pop C dX5_does_235 rfl ?_
                                refine r_iload C dX5_does_236 rfl ?_
                                exact r_zretD C dX5_does_238 (by first | omega | exact gB_01 _) (by unfold dOk; rw [if_pos rfl]; first | exact (gB_t (by first | assumption | omega)).symm | exact (gB_f (by first | assumption | omega)).symm) (by unfold dS; rw [if_pos rfl]; first | rw [if_pos (show mayS s r by first | assumption | omega)] | rw [if_neg (show ¬ (mayS s r) by first | assumption | omega)])
                          · (exfalso; omega)
                    · (exfalso; omega)
            · first
              | (exfalso; first | omega | contradiction)
              | refine r_aload_n C dX5_does_156 rfl rfl ?_
                refine mm_get C flX5_7 dX5_does_157 hm rfl ?_
                refine r_iload_n C dX5_does_160 rfl rfl ?_
                refine r_cSv C cwX5_73 (liftN (c_X5_lights (by omega) (by omega))) dX5_does_161 rfl rfl rfl (Nat.le_of_ble_eq_true rfl) ⟨Nat.le_of_ble_eq_true rfl, Nat.le_of_ble_eq_true rfl⟩ ⟨Nat.le_of_ble_eq_true rfl, Nat.le_of_ble_eq_true rfl⟩ ?_
                refine r_goto (tgt := 236) C dX5_does_164 (by decide) ?_
                refine r_iload C dX5_does_236 rfl ?_
                exact r_zretD C dX5_does_238 (by first | omega | exact gB_01 _) (by unfold dOk; rw [if_pos rfl]; first | exact (gB_t (by first | assumption | omega)).symm | exact (gB_f (by first | assumption | omega)).symm) (by unfold dS; rw [if_pos rfl]; first | rw [if_pos (show mayS s r by first | assumption | omega)] | rw [if_neg (show ¬ (mayS s r) by first | assumption | omega)])
        · first
          | (exfalso; first | omega | contradiction)
          | refine r_iload_n C dX5_does_104 rfl rfl ?_
            refine r_bipush C dX5_does_105 (by decide) ?_
            refine r_icmp_ne (tgt := 119) C dX5_does_107 (by decide) (by omega) (by omega) (fun h107 => ?_) (fun h107 => ?_)
            · refine r_iload_n C dX5_does_119 rfl rfl ?_
              refine r_bipush C dX5_does_120 (by decide) ?_
              refine r_icmp_eq (tgt := 144) C dX5_does_122 (by decide) (by omega) (by omega) (fun h122 => ?_) (fun h122 => ?_)
              · (exfalso; omega)
              · refine r_iload_n C dX5_does_125 rfl rfl ?_
                refine r_bipush C dX5_does_126 (by decide) ?_
                refine r_icmp_ne (tgt := 148) C dX5_does_128 (by decide) (by omega) (by omega) (fun h128 => ?_) (fun h128 => ?_)
                · refine r_iconst C dX5_does_148 ?_
                  refine r_istore C dX5_does_149 (Nat.le_of_ble_eq_true rfl) rfl ?_
                  dsimp only [List.set]
                  refine r_iload C dX5_does_151 rfl ?_
                  refine r_ifb_eq (tgt := 167) C dX5_does_153 (by decide) (fun h153 => ?_) (fun h153 => ?_)
                  · first
                    | (exfalso; first | omega | contradiction)
                    | refine r_iload C dX5_does_167 rfl ?_
                      refine r_if_eq (tgt := 189) C dX5_does_169 (by decide) (by omega) (fun h169 => ?_) (fun h169 => ?_)
                      · first
                        | (exfalso; first | omega | contradiction)
                        | refine r_iload C dX5_does_189 rfl ?_
                          refine r_if_eq (tgt := 220) C dX5_does_191 (by decide) (by omega) (fun h191 => ?_) (fun h191 => ?_)
                          · first
                            | (exfalso; first | omega | contradiction)
                            | refine r_iload C dX5_does_220 rfl ?_
                              refine r_if_eq (tgt := 236) C dX5_does_222 (by decide) (by omega) (fun h222 => ?_) (fun h222 => ?_)
                              · first
                                | (exfalso; first | omega | contradiction)
                                | refine r_iload C dX5_does_236 rfl ?_
                                  exact r_zretD C dX5_does_238 (by first | omega | exact gB_01 _) (by unfold dOk; rw [if_pos rfl]; first | exact (gB_t (by first | assumption | omega)).symm | exact (gB_f (by first | assumption | omega)).symm) (by unfold dS; rw [if_pos rfl]; first | rw [if_pos (show mayS s r by first | assumption | omega)] | rw [if_neg (show ¬ (mayS s r) by first | assumption | omega)])
                              · first
                                | (exfalso; first | omega | contradiction)
                                | refine r_aload_n C dX5_does_225 rfl rfl ?_
                                  refine mm_get C flX5_7 dX5_does_226 hm rfl ?_
                                  refine r_iload_n C dX5_does_229 rfl rfl ?_
                                  refine r_iload C dX5_does_230 rfl ?_
                                  refine r_cS C cwX5_107 (liftN (c_X5_keeps (by omega) (by omega) (by omega))) dX5_does_232 rfl rfl rfl (Nat.le_of_ble_eq_true rfl) ⟨Nat.le_of_ble_eq_true rfl, Nat.le_of_ble_eq_true rfl⟩ ⟨Nat.le_of_ble_eq_true rfl, Nat.le_of_ble_eq_true rfl⟩ ?_
                                  refine r_pop C dX5_does_235 rfl ?_
                                  refine r_iload C dX5_does_236 rfl ?_
                                  exact r_zretD C dX5_does_238 (by first | omega | exact gB_01 _) (by unfold dOk; rw [if_pos rfl]; first | exact (gB_t (by first | assumption | omega)).symm | exact (gB_f (by first | assumption | omega)).symm) (by unfold dS; rw [if_pos rfl]; first | rw [if_pos (show mayS s r by first | assumption | omega)] | rw [if_neg (show ¬ (mayS s r) by first | assumption | omega)])
                          · first
                            | (exfalso; first | omega | contradiction)
                            | refine r_iload_n C dX5_does_194 rfl rfl ?_
                              refine r_bipush C dX5_does_195 (by decide) ?_
                              refine r_icmp_ne (tgt := 220) C dX5_does_197 (by decide) (by omega) (by omega) (fun h197 => ?_) (fun h197 => ?_)
                              · refine r_iload C dX5_does_220 rfl ?_
                                refine r_if_eq (tgt := 236) C dX5_does_222 (by decide) (by omega) (fun h222 => ?_) (fun h222 => ?_)
                                · first
                                  | (exfalso; first | omega | contradiction)
                                  | refine r_iload C dX5_does_236 rfl ?_
                                    exact r_zretD C dX5_does_238 (by first | omega | exact gB_01 _) (by unfold dOk; rw [if_pos rfl]; first | exact (gB_t (by first | assumption | omega)).symm | exact (gB_f (by first | assumption | omega)).symm) (by unfold dS; rw [if_pos rfl]; first | rw [if_pos (show mayS s r by first | assumption | omega)] | rw [if_neg (show ¬ (mayS s r) by first | assumption | omega)])
                                · first
                                  | (exfalso; first | omega | contradiction)
                                  | refine r_aload_n C dX5_does_225 rfl rfl ?_
                                    refine mm_get C flX5_7 dX5_does_226 hm rfl ?_
                                    refine r_iload_n C dX5_does_229 rfl rfl ?_
                                    refine r_iload C dX5_does_230 rfl ?_
                                    refine r_cS C cwX5_107 (liftN (c_X5_keeps (by omega) (by omega) (by omega))) dX5_does_232 rfl rfl rfl (Nat.le_of_ble_eq_true rfl) ⟨Nat.le_of_ble_eq_true rfl, Nat.le_of_ble_eq_true rfl⟩ ⟨Nat.le_of_ble_eq_true rfl, Nat.le_of_ble_eq_true rfl⟩ ?_
                                    refine r_pop C dX5_does_235 rfl ?_
                                    refine r_iload C dX5_does_236 rfl ?_
                                    exact r_zretD C dX5_does_238 (by first | omega | exact gB_01 _) (by unfold dOk; rw [if_pos rfl]; first | exact (gB_t (by first | assumption | omega)).symm | exact (gB_f (by first | assumption | omega)).symm) (by unfold dS; rw [if_pos rfl]; first | rw [if_pos (show mayS s r by first | assumption | omega)] | rw [if_neg (show ¬ (mayS s r) by first | assumption | omega)])
                              · (exfalso; omega)
                      · first
                        | (exfalso; first | omega | contradiction)
                        | refine r_iload_n C dX5_does_172 rfl rfl ?_
                          refine r_bipush C dX5_does_173 (by decide) ?_
                          refine r_icmp_ne (tgt := 189) C dX5_does_175 (by decide) (by omega) (by omega) (fun h175 => ?_) (fun h175 => ?_)
                          · refine r_iload C dX5_does_189 rfl ?_
                            refine r_if_eq (tgt := 220) C dX5_does_191 (by decide) (by omega) (fun h191 => ?_) (fun h191 => ?_)
                            · first
                              | (exfalso; first | omega | contradiction)
                              | refine r_iload C dX5_does_220 rfl ?_
                                refine r_if_eq (tgt := 236) C dX5_does_222 (by decide) (by omega) (fun h222 => ?_) (fun h222 => ?_)
                                · first
                                  | (exfalso; first | omega | contradiction)
                                  | refine r_iload C dX5_does_236 rfl ?_
                                    exact r_zretD C dX5_does_238 (by first | omega | exact gB_01 _) (by unfold dOk; rw [if_pos rfl]; first | exact (gB_t (by first | assumption | omega)).symm | exact (gB_f (by first | assumption | omega)).symm) (by unfold dS; rw [if_pos rfl]; first | rw [if_pos (show mayS s r by first | assumption | omega)] | rw [if_neg (show ¬ (mayS s r) by first | assumption | omega)])
                                · first
                                  | (exfalso; first | omega | contradiction)
                                  | refine r_aload_n C dX5_does_225 rfl rfl ?_
                                    refine mm_get C flX5_7 dX5_does_226 hm rfl ?_
                                    refine r_iload_n C dX5_does_229 rfl rfl ?_
                                    refine r_iload C dX5_does_230 rfl ?_
                                    refine r_cS C cwX5_107 (liftN (c_X5_keeps (by omega) (by omega) (by omega))) dX5_does_232 rfl rfl rfl (Nat.le_of_ble_eq_true rfl) ⟨Nat.le_of_ble_eq_true rfl, Nat.le_of_ble_eq_true rfl⟩ ⟨Nat.le_of_ble_eq_true rfl, Nat.le_of_ble_eq_true rfl⟩ ?_
                                    refine r_pop C dX5_does_235 rfl ?_
                                    refine r_iload C dX5_does_236 rfl ?_
                                    exact r_zretD C dX5_does_238 (by first | omega | exact gB_01 _) (by unfold dOk; rw [if_pos rfl]; first | exact (gB_t (by first | assumption | omega)).symm | exact (gB_f (by first | assumption | omega)).symm) (by unfold dS; rw [if_pos rfl]; first | rw [if_pos (show mayS s r by first | assumption | omega)] | rw [if_neg (show ¬ (mayS s r) by first | assumption | omega)])
                            · first
                              | (exfalso; first | omega | contradiction)
                              | refine r_iload_n C dX5_does_194 rfl rfl ?_
                                refine r_bipush C dX5_does_195 (by decide) ?_
                                refine r_icmp_ne (tgt := 220) C dX5_does_197 (by decide) (by omega) (by omega) (fun h197 => ?_) (fun h197 => ?_)
                                · refine r_iload C dX5_does_220 rfl ?_
                                  refine r_if_eq (tgt := 236) C dX5_does_222 (by decide) (by omega) (fun h222 => ?_) (fun h222 => ?_)
                                  · first
                                    | (exfalso; first | omega | contradiction)
                                    | refine r_iload C dX5_does_236 rfl ?_
                                      exact r_zretD C dX5_does_238 (by first | omega | exact gB_01 _) (by unfold dOk; rw [if_pos rfl]; first | exact (gB_t (by first | assumption | omega)).symm | exact (gB_f (by first | assumption | omega)).symm) (by unfold dS; rw [if_pos rfl]; first | rw [if_pos (show mayS s r by first | assumption | omega)] | rw [if_neg (show ¬ (mayS s r) by first | assumption | omega)])
                                  · first
                                    | (exfalso; first | omega | contradiction)
                                    | refine r_aload_n C dX5_does_225 rfl rfl ?_
                                      refine mm_get C flX5_7 dX5_does_226 hm rfl ?_
                                      refine r_iload_n C dX5_does_229 rfl rfl ?_
                                      refine r_iload C dX5_does_230 rfl ?_
                                      refine r_cS C cwX5_107 (liftN (c_X5_keeps (by omega) (by omega) (by omega))) dX5_does_232 rfl rfl rfl (Nat.le_of_ble_eq_true rfl) ⟨Nat.le_of_ble_eq_true rfl, Nat.le_of_ble_eq_true rfl⟩ ⟨Nat.le_of_ble_eq_true rfl, Nat.le_of_ble_eq_true rfl⟩ ?_
                                      refine r_pop C dX5_does_235 rfl ?_
                                      refine r_iload C dX5_does_236 rfl ?_
                                      exact r_zretD C dX5_does_238 (by first | omega | exact gB_01 _) (by unfold dOk; rw [if_pos rfl]; first | exact (gB_t (by first | assumption | omega)).symm | exact (gB_f (by first | assumption | omega)).symm) (by unfold dS; rw [if_pos rfl]; first | rw [if_pos (show mayS s r by first | assumption | omega)] | rw [if_neg (show ¬ (mayS s r) by first | assumption | omega)])
                                · (exfalso; omega)
                          · (exfalso; omega)
                  · first
                    | (exfalso; first | omega | contradiction)
                    | refine r_aload_n C dX5_does_156 rfl rfl ?_
                      refine mm_get C flX5_7 dX5_does_157 hm rfl ?_
                      refine r_iload_n C dX5_does_160 rfl rfl ?_
                      refine r_cSv C cwX5_73 (liftN (c_X5_lights (by omega) (by omega))) dX5_does_161 rfl rfl rfl (Nat.le_of_ble_eq_true rfl) ⟨Nat.le_of_ble_eq_true rfl, Nat.le_of_ble_eq_true rfl⟩ ⟨Nat.le_of_ble_eq_true rfl, Nat.le_of_ble_eq_true rfl⟩ ?_
                      refine r_goto (tgt := 236) C dX5_does_164 (by decide) ?_
                      refine r_iload C dX5_does_236 rfl ?_
                      exact r_zretD C dX5_does_238 (by first | omega | exact gB_01 _) (by unfold dOk; rw [if_pos rfl]; first | exact (gB_t (by first | assumption | omega)).symm | exact (gB_f (by first | assumption | omega)).symm) (by unfold dS; rw [if_pos rfl]; first | rw [if_pos (show mayS s r by first | assumption | omega)] | rw [if_neg (show ¬ (mayS s r) by first | assumption | omega)])
                · (exfalso; omega)
            · (exfalso; omega)
    · (exfalso; omega)
  · subst hw
    refine r_aload_n C dX5_does_0 rfl rfl ?_
    refine mm_get C flX5_22 dX5_does_1 hm rfl ?_
    refine r_iconst C dX5_does_4 ?_
    refine r_iload_n C dX5_does_5 rfl rfl ?_
    refine r_imul C dX5_does_6 ?_
    refine r_iald C dX5_does_7 (by omega) mput_5 (by omega) (by omega) ?_
    rw [h0]
    refine r_istore_n C dX5_does_8 rfl (Nat.le_of_ble_eq_true rfl) rfl ?_
    dsimp only [List.set]
    refine r_aload_n C dX5_does_9 rfl rfl ?_
    refine mm_get C flX5_22 dX5_does_10 hm rfl ?_
    refine r_iconst C dX5_does_13 ?_
    refine r_iload_n C dX5_does_14 rfl rfl ?_
    refine r_imul C dX5_does_15 ?_
    refine r_iconst C dX5_does_16 ?_
    refine r_iadd C dX5_does_17 ?_
    refine r_iald C dX5_does_18 (by omega) mput_5 (by omega) (by omega) ?_
    rw [h1]
    refine r_istore_n C dX5_does_19 rfl (Nat.le_of_ble_eq_true rfl) rfl ?_
    dsimp only [List.set]
    refine r_aload_n C dX5_does_20 rfl rfl ?_
    refine mm_get C flX5_22 dX5_does_21 hm rfl ?_
    refine r_iconst C dX5_does_24 ?_
    refine r_iload_n C dX5_does_25 rfl rfl ?_
    refine r_imul C dX5_does_26 ?_
    refine r_iconst C dX5_does_27 ?_
    refine r_iadd C dX5_does_28 ?_
    refine r_iald C dX5_does_29 (by omega) mput_5 (by omega) (by omega) ?_
    refine r_istore C dX5_does_30 (Nat.le_of_ble_eq_true rfl) rfl ?_
    dsimp only [List.set]
    refine r_iload_n C dX5_does_32 rfl rfl ?_
    refine r_iload_n C dX5_does_33 rfl rfl ?_
    refine r_bipush C dX5_does_34 (by decide) ?_
    refine r_icmp_ne (tgt := 43) C dX5_does_36 (by decide) (by omega) (by omega) (fun h36 => ?_) (fun h36 => ?_)
    · (exfalso; omega)
    · refine r_iconst C dX5_does_39 ?_
      refine r_goto (tgt := 44) C dX5_does_40 (by decide) ?_
      refine r_iadd C dX5_does_44 ?_
      refine r_bipush C dX5_does_45 (by decide) ?_
      refine r_irem C dX5_does_47 (by omega) (by omega) ?_
      rw [show (r + 5) % 6 = (r - 1) % 6 by omega]
      refine r_istore C dX5_does_48 (Nat.le_of_ble_eq_true rfl) rfl ?_
      dsimp only [List.set]
      refine r_iload_n C dX5_does_50 rfl rfl ?_
      refine r_bipush C dX5_does_51 (by decide) ?_
      refine r_icmp_ne (tgt := 67) C dX5_does_53 (by decide) (by omega) (by omega) (fun h53 => ?_) (fun h53 => ?_)
      · refine r_iload_n C dX5_does_67 rfl rfl ?_
        refine r_bipush C dX5_does_68 (by decide) ?_
        refine r_icmp_eq (tgt := 79) C dX5_does_70 (by decide) (by omega) (by omega) (fun h70 => ?_) (fun h70 => ?_)
        · refine r_aload_n C dX5_does_79 rfl rfl ?_
          refine mm_get C flX5_7 dX5_does_80 hm rfl ?_
          refine r_iload_n C dX5_does_83 rfl rfl ?_
          refine r_iload C dX5_does_84 rfl ?_
          refine r_cS C cwX5_77 (c_X5_mayLight (by omega) mput_1 hs (by omega) (by omega)) dX5_does_86 rfl rfl rfl (Nat.le_of_ble_eq_true rfl) ⟨Nat.le_of_ble_eq_true rfl, Nat.le_of_ble_eq_true rfl⟩ ⟨Nat.le_of_ble_eq_true rfl, Nat.le_of_ble_eq_true rfl⟩ ?_
          refine r_ifb_eq (tgt := 96) C dX5_does_89 (by decide) (fun h89 => ?_) (fun h89 => ?_)
          · refine r_iconst C dX5_does_96 ?_
            refine r_istore C dX5_does_97 (Nat.le_of_ble_eq_true rfl) rfl ?_
            dsimp only [List.set]
            refine r_iload C dX5_does_99 rfl ?_
            refine r_if_ne (tgt := 144) C dX5_does_101 (by decide) (by omega) (fun h101 => ?_) (fun h101 => ?_)
            · first
              | (exfalso; first | omega | contradiction)
              | refine r_iconst C dX5_does_144 ?_
                refine r_goto (tgt := 149) C dX5_does_145 (by decide) ?_
                refine r_istore C dX5_does_149 (Nat.le_of_ble_eq_true rfl) rfl ?_
                dsimp only [List.set]
                refine r_iload C dX5_does_151 rfl ?_
                refine r_if_eq (tgt := 167) C dX5_does_153 (by decide) (by omega) (fun h153 => ?_) (fun h153 => ?_)
                · first
                  | (exfalso; first | omega | contradiction)
                  | refine r_iload C dX5_does_167 rfl ?_
                    refine r_if_eq (tgt := 189) C dX5_does_169 (by decide) (by omega) (fun h169 => ?_) (fun h169 => ?_)
                    · first
                      | (exfalso; first | omega | contradiction)
                      | refine r_iload C dX5_does_189 rfl ?_
                        refine r_if_eq (tgt := 220) C dX5_does_191 (by decide) (by omega) (fun h191 => ?_) (fun h191 => ?_)
                        · first
                          | (exfalso; first | omega | contradiction)
                          | refine r_iload C dX5_does_220 rfl ?_
                            refine r_if_eq (tgt := 236) C dX5_does_222 (by decide) (by omega) (fun h222 => ?_) (fun h222 => ?_)
                            · first
                              | (exfalso; first | omega | contradiction)
                              | refine r_iload C dX5_does_236 rfl ?_
                                exact r_zretD C dX5_does_238 (by first | omega | exact gB_01 _) (by unfold dOk; rw [if_neg (by decide), if_pos rfl]; first | exact (gB_t (by first | assumption | omega)).symm | exact (gB_f (by first | assumption | omega)).symm) (by unfold dS; rw [if_neg (by decide), if_pos rfl]; first | rw [if_pos (show mayL s r ((r - 1) % 6) by first | assumption | omega)] | rw [if_neg (show ¬ (mayL s r ((r - 1) % 6)) by first | assumption | omega)])
                            · first
                              | (exfalso; first | omega | contradiction)
                              | refine r_aload_n C dX5_does_225 rfl rfl ?_
                                refine mm_get C flX5_7 dX5_does_226 hm rfl ?_
                                refine r_iload_n C dX5_does_229 rfl rfl ?_
                                refine r_iload C dX5_does_230 rfl ?_
                                refine r_cS C cwX5_107 (liftN (c_X5_keeps (by omega) (by omega) (by omega))) dX5_does_232 rfl rfl rfl (Nat.le_of_ble_eq_true rfl) ⟨Nat.le_of_ble_eq_true rfl, Nat.le_of_ble_eq_true rfl⟩ ⟨Nat.le_of_ble_eq_true rfl, Nat.le_of_ble_eq_true rfl⟩ ?_
                                refine r_pop C dX5_does_235 rfl ?_
                                refine r_iload C dX5_does_236 rfl ?_
                                exact r_zretD C dX5_does_238 (by first | omega | exact gB_01 _) (by unfold dOk; rw [if_neg (by decide), if_pos rfl]; first | exact (gB_t (by first | assumption | omega)).symm | exact (gB_f (by first | assumption | omega)).symm) (by unfold dS; rw [if_neg (by decide), if_pos rfl]; first | rw [if_pos (show mayL s r ((r - 1) % 6) by first | assumption | omega)] | rw [if_neg (show ¬ (mayL s r ((r - 1) % 6)) by first | assumption | omega)])
                        · first
                          | (exfalso; first | omega | contradiction)
                          | refine r_iload_n C dX5_does_194 rfl rfl ?_
                            refine r_bipush C dX5_does_195 (by decide) ?_
                            refine r_icmp_ne (tgt := 220) C dX5_does_197 (by decide) (by omega) (by omega) (fun h197 => ?_) (fun h197 => ?_)
                            · refine r_iload C dX5_does_220 rfl ?_
                              refine r_if_eq (tgt := 236) C dX5_does_222 (by decide) (by omega) (fun h222 => ?_) (fun h222 => ?_)
                              · first
                                | (exfalso; first | omega | contradiction)
                                | refine r_iload C dX5_does_236 rfl ?_
                                  exact r_zretD C dX5_does_238 (by first | omega | exact gB_01 _) (by unfold dOk; rw [if_neg (by decide), if_pos rfl]; first | exact (gB_t (by first | assumption | omega)).symm | exact (gB_f (by first | assumption | omega)).symm) (by unfold dS; rw [if_neg (by decide), if_pos rfl]; first | rw [if_pos (show mayL s r ((r - 1) % 6) by first | assumption | omega)] | rw [if_neg (show ¬ (mayL s r ((r - 1) % 6)) by first | assumption | omega)])
                              · first
                                | (exfalso; first | omega | contradiction)
                                | refine r_aload_n C dX5_does_225 rfl rfl ?_
                                  refine mm_get C flX5_7 dX5_does_226 hm rfl ?_
                                  refine r_iload_n C dX5_does_229 rfl rfl ?_
                                  refine r_iload C dX5_does_230 rfl ?_
                                  refine r_cS C cwX5_107 (liftN (c_X5_keeps (by omega) (by omega) (by omega))) dX5_does_232 rfl rfl rfl (Nat.le_of_ble_eq_true rfl) ⟨Nat.le_of_ble_eq_true rfl, Nat.le_of_ble_eq_true rfl⟩ ⟨Nat.le_of_ble_eq_true rfl, Nat.le_of_ble_eq_true rfl⟩ ?_
                                  refine r_pop C dX5_does_235 rfl ?_
                                  refine r_iload C dX5_does_236 rfl ?_
                                  exact r_zretD C dX5_does_238 (by first | omega | exact gB_01 _) (by unfold dOk; rw [if_neg (by decide), if_pos rfl]; first | exact (gB_t (by first | assumption | omega)).symm | exact (gB_f (by first | assumption | omega)).symm) (by unfold dS; rw [if_neg (by decide), if_pos rfl]; first | rw [if_pos (show mayL s r ((r - 1) % 6) by first | assumption | omega)] | rw [if_neg (show ¬ (mayL s r ((r - 1) % 6)) by first | assumption | omega)])
                            · (exfalso; omega)
                    · first
                      | (exfalso; first | omega | contradiction)
                      | refine r_iload_n C dX5_does_172 rfl rfl ?_
                        refine r_bipush C dX5_does_173 (by decide) ?_
                        refine r_icmp_ne (tgt := 189) C dX5_does_175 (by decide) (by omega) (by omega) (fun h175 => ?_) (fun h175 => ?_)
                        · refine r_iload C dX5_does_189 rfl ?_
                          refine r_if_eq (tgt := 220) C dX5_does_191 (by decide) (by omega) (fun h191 => ?_) (fun h191 => ?_)
                          · first
                            | (exfalso; first | omega | contradiction)
                            | refine r_iload C dX5_does_220 rfl ?_
                              refine r_if_eq (tgt := 236) C dX5_does_222 (by decide) (by omega) (fun h222 => ?_) (fun h222 => ?_)
                              · first
                                | (exfalso; first | omega | contradiction)
                                | refine r_iload C dX5_does_236 rfl ?_
                                  exact r_zretD C dX5_does_238 (by first | omega | exact gB_01 _) (by unfold dOk; rw [if_neg (by decide), if_pos rfl]; first | exact (gB_t (by first | assumption | omega)).symm | exact (gB_f (by first | assumption | omega)).symm) (by unfold dS; rw [if_neg (by decide), if_pos rfl]; first | rw [if_pos (show mayL s r ((r - 1) % 6) by first | assumption | omega)] | rw [if_neg (show ¬ (mayL s r ((r - 1) % 6)) by first | assumption | omega)])
                              · first
                                | (exfalso; first | omega | contradiction)
                                | refine r_aload_n C dX5_does_225 rfl rfl ?_
                                  refine mm_get C flX5_7 dX5_does_226 hm rfl ?_
                                  refine r_iload_n C dX5_does_229 rfl rfl ?_
                                  refine r_iload C dX5_does_230 rfl ?_
                                  refine r_cS C cwX5_107 (liftN (c_X5_keeps (by omega) (by omega) (by omega))) dX5_does_232 rfl rfl rfl (Nat.le_of_ble_eq_true rfl) ⟨Nat.le_of_ble_eq_true rfl, Nat.le_of_ble_eq_true rfl⟩ ⟨Nat.le_of_ble_eq_true rfl, Nat.le_of_ble_eq_true rfl⟩ ?_
                                  refine r_pop C dX5_does_235 rfl ?_
                                  refine r_iload C dX5_does_236 rfl ?_
                                  exact r_zretD C dX5_does_238 (by first | omega | exact gB_01 _) (by unfold dOk; rw [if_neg (by decide), if_pos rfl]; first | exact (gB_t (by first | assumption | omega)).symm | exact (gB_f (by first | assumption | omega)).symm) (by unfold dS; rw [if_neg (by decide), if_pos rfl]; first | rw [if_pos (show mayL s r ((r - 1) % 6) by first | assumption | omega)] | rw [if_neg (show ¬ (mayL s r ((r - 1) % 6)) by first | assumption | omega)])
                          · first
                            | (exfalso; first | omega | contradiction)
                            | refine r_iload_n C dX5_does_194 rfl rfl ?_
                              refine r_bipush C dX5_does_195 (by decide) ?_
                              refine r_icmp_ne (tgt := 220) C dX5_does_197 (by decide) (by omega) (by omega) (fun h197 => ?_) (fun h197 => ?_)
                              · refine r_iload C dX5_does_220 rfl ?_
                                refine r_if_eq (tgt := 236) C dX5_does_222 (by decide) (by omega) (fun h222 => ?_) (fun h222 => ?_)
                                · first
                                  | (exfalso; first | omega | contradiction)
                                  | refine r_iload C dX5_does_236 rfl ?_
                                    exact r_zretD C dX5_does_238 (by first | omega | exact gB_01 _) (by unfold dOk; rw [if_neg (by decide), if_pos rfl]; first | exact (gB_t (by first | assumption | omega)).symm | exact (gB_f (by first | assumption | omega)).symm) (by unfold dS; rw [if_neg (by decide), if_pos rfl]; first | rw [if_pos (show mayL s r ((r - 1) % 6) by first | assumption | omega)] | rw [if_neg (show ¬ (mayL s r ((r - 1) % 6)) by first | assumption | omega)])
                                · first
                                  | (exfalso; first | omega | contradiction)
                                  | refine r_aload_n C dX5_does_225 rfl rfl ?_
                                    refine mm_get C flX5_7 dX5_does_226 hm rfl ?_
                                    refine r_iload_n C dX5_does_229 rfl rfl ?_
                                    refine r_iload C dX5_does_230 rfl ?_
                                    refine r_cS C cwX5_107 (liftN (c_X5_keeps (by omega) (by omega) (by omega))) dX5_does_232 rfl rfl rfl (Nat.le_of_ble_eq_true rfl) ⟨Nat.le_of_ble_eq_true rfl, Nat.le_of_ble_eq_true rfl⟩ ⟨Nat.le_of_ble_eq_true rfl, Nat.le_of_ble_eq_true rfl⟩ ?_
                                    refine r_pop C dX5_does_235 rfl ?_
                                    refine r_iload C dX5_does_236 rfl ?_
                                    exact r_zretD C dX5_does_238 (by first | omega | exact gB_01 _) (by unfold dOk; rw [if_neg (by decide), if_pos rfl]; first | exact (gB_t (by first | assumption | omega)).symm | exact (gB_f (by first | assumption | omega)).symm) (by unfold dS; rw [if_neg (by decide), if_pos rfl]; first | rw [if_pos (show mayL s r ((r - 1) % 6) by first | assumption | omega)] | rw [if_neg (show ¬ (mayL s r ((r - 1) % 6)) by first | assumption | omega)])
                              · (exfalso; omega)
                        · (exfalso; omega)
                · first
                  | (exfalso; first | omega | contradiction)
                  | refine r_aload_n C dX5_does_156 rfl rfl ?_
                    refine mm_get C flX5_7 dX5_does_157 hm rfl ?_
                    refine r_iload_n C dX5_does_160 rfl rfl ?_
                    refine r_cSv C cwX5_73 (liftN (c_X5_lights (by omega) (by omega))) dX5_does_161 rfl rfl rfl (Nat.le_of_ble_eq_true rfl) ⟨Nat.le_of_ble_eq_true rfl, Nat.le_of_ble_eq_true rfl⟩ ⟨Nat.le_of_ble_eq_true rfl, Nat.le_of_ble_eq_true rfl⟩ ?_
                    refine r_goto (tgt := 236) C dX5_does_164 (by decide) ?_
                    refine r_iload C dX5_does_236 rfl ?_
                    exact r_zretD C dX5_does_238 (by first | omega | exact gB_01 _) (by unfold dOk; rw [if_neg (by decide), if_pos rfl]; first | exact (gB_t (by first | assumption | omega)).symm | exact (gB_f (by first | assumption | omega)).symm) (by unfold dS; rw [if_neg (by decide), if_pos rfl]; first | rw [if_pos (show mayL s r ((r - 1) % 6) by first | assumption | omega)] | rw [if_neg (show ¬ (mayL s r ((r - 1) % 6)) by first | assumption | omega)])
            · first
              | (exfalso; first | omega | contradiction)
              | refine r_iload_n C dX5_does_104 rfl rfl ?_
                refine r_bipush C dX5_does_105 (by decide) ?_
                refine r_icmp_ne (tgt := 119) C dX5_does_107 (by decide) (by omega) (by omega) (fun h107 => ?_) (fun h107 => ?_)
                · refine r_iload_n C dX5_does_119 rfl rfl ?_
                  refine r_bipush C dX5_does_120 (by decide) ?_
                  refine r_icmp_eq (tgt := 144) C dX5_does_122 (by decide) (by omega) (by omega) (fun h122 => ?_) (fun h122 => ?_)
                  · (exfalso; omega)
                  · refine r_iload_n C dX5_does_125 rfl rfl ?_
                    refine r_bipush C dX5_does_126 (by decide) ?_
                    refine r_icmp_ne (tgt := 148) C dX5_does_128 (by decide) (by omega) (by omega) (fun h128 => ?_) (fun h128 => ?_)
                    · refine r_iconst C dX5_does_148 ?_
                      refine r_istore C dX5_does_149 (Nat.le_of_ble_eq_true rfl) rfl ?_
                      dsimp only [List.set]
                      refine r_iload C dX5_does_151 rfl ?_
                      refine r_if_eq (tgt := 167) C dX5_does_153 (by decide) (by omega) (fun h153 => ?_) (fun h153 => ?_)
                      · first
                        | (exfalso; first | omega | contradiction)
                        | refine r_iload C dX5_does_167 rfl ?_
                          refine r_if_eq (tgt := 189) C dX5_does_169 (by decide) (by omega) (fun h169 => ?_) (fun h169 => ?_)
                          · first
                            | (exfalso; first | omega | contradiction)
                            | refine r_iload C dX5_does_189 rfl ?_
                              refine r_if_eq (tgt := 220) C dX5_does_191 (by decide) (by omega) (fun h191 => ?_) (fun h191 => ?_)
                              · first
                                | (exfalso; first | omega | contradiction)
                                | refine r_iload C dX5_does_220 rfl ?_
                                  refine r_if_eq (tgt := 236) C dX5_does_222 (by decide) (by omega) (fun h222 => ?_) (fun h222 => ?_)
                                  · first
                                    | (exfalso; first | omega | contradiction)
                                    | refine r_iload C dX5_does_236 rfl ?_
                                      exact r_zretD C dX5_does_238 (by first | omega | exact gB_01 _) (by unfold dOk; rw [if_neg (by decide), if_pos rfl]; first | exact (gB_t (by first | assumption | omega)).symm | exact (gB_f (by first | assumption | omega)).symm) (by unfold dS; rw [if_neg (by decide), if_pos rfl]; first | rw [if_pos (show mayL s r ((r - 1) % 6) by first | assumption | omega)] | rw [if_neg (show ¬ (mayL s r ((r - 1) % 6)) by first | assumption | omega)])
                                  · first
                                    | (exfalso; first | omega | contradiction)
                                    | refine r_aload_n C dX5_does_225 rfl rfl ?_
                                      refine mm_get C flX5_7 dX5_does_226 hm rfl ?_
                                      refine r_iload_n C dX5_does_229 rfl rfl ?_
                                      refine r_iload C dX5_does_230 rfl ?_
                                      refine r_cS C cwX5_107 (liftN (c_X5_keeps (by omega) (by omega) (by omega))) dX5_does_232 rfl rfl rfl (Nat.le_of_ble_eq_true rfl) ⟨Nat.le_of_ble_eq_true rfl, Nat.le_of_ble_eq_true rfl⟩ ⟨Nat.le_of_ble_eq_true rfl, Nat.le_of_ble_eq_true rfl⟩ ?_
                                      refine r_pop C dX5_does_235 rfl ?_
                                      refine r_iload C dX5_does_236 rfl ?_
                                      exact r_zretD C dX5_does_238 (by first | omega | exact gB_01 _) (by unfold dOk; rw [if_neg (by decide), if_pos rfl]; first | exact (gB_t (by first | assumption | omega)).symm | exact (gB_f (by first | assumption | omega)).symm) (by unfold dS; rw [if_neg (by decide), if_pos rfl]; first | rw [if_pos (show mayL s r ((r - 1) % 6) by first | assumption | omega)] | rw [if_neg (show ¬ (mayL s r ((r - 1) % 6)) by first | assumption | omega)])
                              · first
                                | (exfalso; first | omega | contradiction)
                                | refine r_iload_n C dX5_does_194 rfl rfl ?_
                                  refine r_bipush C dX5_does_195 (by decide) ?_
                                  refine r_icmp_ne (tgt := 220) C dX5_does_197 (by decide) (by omega) (by omega) (fun h197 => ?_) (fun h197 => ?_)
                                  · refine r_iload C dX5_does_220 rfl ?_
                                    refine r_if_eq (tgt := 236) C dX5_does_222 (by decide) (by omega) (fun h222 => ?_) (fun h222 => ?_)
                                    · first
                                      | (exfalso; first | omega | contradiction)
                                      | refine r_iload C dX5_does_236 rfl ?_
                                        exact r_zretD C dX5_does_238 (by first | omega | exact gB_01 _) (by unfold dOk; rw [if_neg (by decide), if_pos rfl]; first | exact (gB_t (by first | assumption | omega)).symm | exact (gB_f (by first | assumption | omega)).symm) (by unfold dS; rw [if_neg (by decide), if_pos rfl]; first | rw [if_pos (show mayL s r ((r - 1) % 6) by first | assumption | omega)] | rw [if_neg (show ¬ (mayL s r ((r - 1) % 6)) by first | assumption | omega)])
                                    · first
                                      | (exfalso; first | omega | contradiction)
                                      | refine r_aload_n C dX5_does_225 rfl rfl ?_
                                        refine mm_get C flX5_7 dX5_does_226 hm rfl ?_
                                        refine r_iload_n C dX5_does_229 rfl rfl ?_
                                        refine r_iload C dX5_does_230 rfl ?_
                                        refine r_cS C cwX5_107 (liftN (c_X5_keeps (by omega) (by omega) (by omega))) dX5_does_232 rfl rfl rfl (Nat.le_of_ble_eq_true rfl) ⟨Nat.le_of_ble_eq_true rfl, Nat.le_of_ble_eq_true rfl⟩ ⟨Nat.le_of_ble_eq_true rfl, Nat.le_of_ble_eq_true rfl⟩ ?_
                                        refine r_pop C dX5_does_235 rfl ?_
                                        refine r_iload C dX5_does_236 rfl ?_
                                        exact r_zretD C dX5_does_238 (by first | omega | exact gB_01 _) (by unfold dOk; rw [if_neg (by decide), if_pos rfl]; first | exact (gB_t (by first | assumption | omega)).symm | exact (gB_f (by first | assumption | omega)).symm) (by unfold dS; rw [if_neg (by decide), if_pos rfl]; first | rw [if_pos (show mayL s r ((r - 1) % 6) by first | assumption | omega)] | rw [if_neg (show ¬ (mayL s r ((r - 1) % 6)) by first | assumption | omega)])
                                  · (exfalso; omega)
                          · first
                            | (exfalso; first | omega | contradiction)
                            | refine r_iload_n C dX5_does_172 rfl rfl ?_
                              refine r_bipush C dX5_does_173 (by decide) ?_
                              refine r_icmp_ne (tgt := 189) C dX5_does_175 (by decide) (by omega) (by omega) (fun h175 => ?_) (fun h175 => ?_)
                              · refine r_iload C dX5_does_189 rfl ?_
                                refine r_if_eq (tgt := 220) C dX5_does_191 (by decide) (by omega) (fun h191 => ?_) (fun h191 => ?_)
                                · first
                                  | (exfalso; first | omega | contradiction)
                                  | refine r_iload C dX5_does_220 rfl ?_
                                    refine r_if_eq (tgt := 236) C dX5_does_222 (by decide) (by omega) (fun h222 => ?_) (fun h222 => ?_)
                                    · first
                                      | (exfalso; first | omega | contradiction)
                                      | refine r_iload C dX5_does_236 rfl ?_
                                        exact r_zretD C dX5_does_238 (by first | omega | exact gB_01 _) (by unfold dOk; rw [if_neg (by decide), if_pos rfl]; first | exact (gB_t (by first | assumption | omega)).symm | exact (gB_f (by first | assumption | omega)).symm) (by unfold dS; rw [if_neg (by decide), if_pos rfl]; first | rw [if_pos (show mayL s r ((r - 1) % 6) by first | assumption | omega)] | rw [if_neg (show ¬ (mayL s r ((r - 1) % 6)) by first | assumption | omega)])
                                    · first
                                      | (exfalso; first | omega | contradiction)
                                      | refine r_aload_n C dX5_does_225 rfl rfl ?_
                                        refine mm_get C flX5_7 dX5_does_226 hm rfl ?_
                                        refine r_iload_n C dX5_does_229 rfl rfl ?_
                                        refine r_iload C dX5_does_230 rfl ?_
                                        refine r_cS C cwX5_107 (liftN (c_X5_keeps (by omega) (by omega) (by omega))) dX5_does_232 rfl rfl rfl (Nat.le_of_ble_eq_true rfl) ⟨Nat.le_of_ble_eq_true rfl, Nat.le_of_ble_eq_true rfl⟩ ⟨Nat.le_of_ble_eq_true rfl, Nat.le_of_ble_eq_true rfl⟩ ?_
                                        refine r_pop C dX5_does_235 rfl ?_
                                        refine r_iload C dX5_does_236 rfl ?_
                                        exact r_zretD C dX5_does_238 (by first | omega | exact gB_01 _) (by unfold dOk; rw [if_neg (by decide), if_pos rfl]; first | exact (gB_t (by first | assumption | omega)).symm | exact (gB_f (by first | assumption | omega)).symm) (by unfold dS; rw [if_neg (by decide), if_pos rfl]; first | rw [if_pos (show mayL s r ((r - 1) % 6) by first | assumption | omega)] | rw [if_neg (show ¬ (mayL s r ((r - 1) % 6)) by first | assumption | omega)])
                                · first
                                  | (exfalso; first | omega | contradiction)
                                  | refine r_iload_n C dX5_does_194 rfl rfl ?_
                                    refine r_bipush C dX5_does_195 (by decide) ?_
                                    refine r_icmp_ne (tgt := 220) C dX5_does_197 (by decide) (by omega) (by omega) (fun h197 => ?_) (fun h197 => ?_)
                                    · refine r_iload C dX5_does_220 rfl ?_
                                      refine r_if_eq (tgt := 236) C dX5_does_222 (by decide) (by omega) (fun h222 => ?_) (fun h222 => ?_)
                                      · first
                                        | (exfalso; first | omega | contradiction)
                                        | refine r_iload C dX5_does_236 rfl ?_
                                          exact r_zretD C dX5_does_238 (by first | omega | exact gB_01 _) (by unfold dOk; rw [if_neg (by decide), if_pos rfl]; first | exact (gB_t (by first | assumption | omega)).symm | exact (gB_f (by first | assumption | omega)).symm) (by unfold dS; rw [if_neg (by decide), if_pos rfl]; first | rw [if_pos (show mayL s r ((r - 1) % 6) by first | assumption | omega)] | rw [if_neg (show ¬ (mayL s r ((r - 1) % 6)) by first | assumption | omega)])
                                      · first
                                        | (exfalso; first | omega | contradiction)
                                        | refine r_aload_n C dX5_does_225 rfl rfl ?_
                                          refine mm_get C flX5_7 dX5_does_226 hm rfl ?_
                                          refine r_iload_n C dX5_does_229 rfl rfl ?_
                                          refine r_iload C dX5_does_230 rfl ?_
                                          refine r_cS C cwX5_107 (liftN (c_X5_keeps (by omega) (by omega) (by omega))) dX5_does_232 rfl rfl rfl (Nat.le_of_ble_eq_true rfl) ⟨Nat.le_of_ble_eq_true rfl, Nat.le_of_ble_eq_true rfl⟩ ⟨Nat.le_of_ble_eq_true rfl, Nat.le_of_ble_eq_true rfl⟩ ?_
                                          refine r_pop C dX5_does_235 rfl ?_
                                          refine r_iload C dX5_does_236 rfl ?_
                                          exact r_zretD C dX5_does_238 (by first | omega | exact gB_01 _) (by unfold dOk; rw [if_neg (by decide), if_pos rfl]; first | exact (gB_t (by first | assumption | omega)).symm | exact (gB_f (by first | assumption | omega)).symm) (by unfold dS; rw [if_neg (by decide), if_pos rfl]; first | rw [if_pos (show mayL s r ((r - 1) % 6) by first | assumption | omega)] | rw [if_neg (show ¬ (mayL s r ((r - 1) % 6)) by first | assumption | omega)])
                                    · (exfalso; omega)
                              · (exfalso; omega)
                      · first
                        | (exfalso; first | omega | contradiction)
                        | refine r_aload_n C dX5_does_156 rfl rfl ?_
                          refine mm_get C flX5_7 dX5_does_157 hm rfl ?_
                          refine r_iload_n C dX5_does_160 rfl rfl ?_
                          refine r_cSv C cwX5_73 (liftN (c_X5_lights (by omega) (by omega))) dX5_does_161 rfl rfl rfl (Nat.le_of_ble_eq_true rfl) ⟨Nat.le_of_ble_eq_true rfl, Nat.le_of_ble_eq_true rfl⟩ ⟨Nat.le_of_ble_eq_true rfl, Nat.le_of_ble_eq_true rfl⟩ ?_
                          refine r_goto (tgt := 236) C dX5_does_164 (by decide) ?_
                          refine r_iload C dX5_does_236 rfl ?_
                          exact r_zretD C dX5_does_238 (by first | omega | exact gB_01 _) (by unfold dOk; rw [if_neg (by decide), if_pos rfl]; first | exact (gB_t (by first | assumption | omega)).symm | exact (gB_f (by first | assumption | omega)).symm) (by unfold dS; rw [if_neg (by decide), if_pos rfl]; first | rw [if_pos (show mayL s r ((r - 1) % 6) by first | assumption | omega)] | rw [if_neg (show ¬ (mayL s r ((r - 1) % 6)) by first | assumption | omega)])
                    · (exfalso; omega)
                · (exfalso; omega)
          · refine r_iconst C dX5_does_92 ?_
            refine r_goto (tgt := 97) C dX5_does_93 (by decide) ?_
            refine r_istore C dX5_does_97 (Nat.le_of_ble_eq_true rfl) rfl ?_
            dsimp only [List.set]
            refine r_iload C dX5_does_99 rfl ?_
            refine r_if_ne (tgt := 144) C dX5_does_101 (by decide) (by omega) (fun h101 => ?_) (fun h101 => ?_)
            · first
              | (exfalso; first | omega | contradiction)
              | refine r_iconst C dX5_does_144 ?_
                refine r_goto (tgt := 149) C dX5_does_145 (by decide) ?_
                refine r_istore C dX5_does_149 (Nat.le_of_ble_eq_true rfl) rfl ?_
                dsimp only [List.set]
                refine r_iload C dX5_does_151 rfl ?_
                refine r_if_eq (tgt := 167) C dX5_does_153 (by decide) (by omega) (fun h153 => ?_) (fun h153 => ?_)
                · first
                  | (exfalso; first | omega | contradiction)
                  | refine r_iload C dX5_does_167 rfl ?_
                    refine r_if_eq (tgt := 189) C dX5_does_169 (by decide) (by omega) (fun h169 => ?_) (fun h169 => ?_)
                    · first
                      | (exfalso; first | omega | contradiction)
                      | refine r_iload C dX5_does_189 rfl ?_
                        refine r_if_eq (tgt := 220) C dX5_does_191 (by decide) (by omega) (fun h191 => ?_) (fun h191 => ?_)
                        · first
                          | (exfalso; first | omega | contradiction)
                          | refine r_iload C dX5_does_220 rfl ?_
                            refine r_if_eq (tgt := 236) C dX5_does_222 (by decide) (by omega) (fun h222 => ?_) (fun h222 => ?_)
                            · first
                              | (exfalso; first | omega | contradiction)
                              | refine r_iload C dX5_does_236 rfl ?_
                                exact r_zretD C dX5_does_238 (by first | omega | exact gB_01 _) (by unfold dOk; rw [if_neg (by decide), if_pos rfl]; first | exact (gB_t (by first | assumption | omega)).symm | exact (gB_f (by first | assumption | omega)).symm) (by unfold dS; rw [if_neg (by decide), if_pos rfl]; first | rw [if_pos (show mayL s r ((r - 1) % 6) by first | assumption | omega)] | rw [if_neg (show ¬ (mayL s r ((r - 1) % 6)) by first | assumption | omega)])
                            · first
                              | (exfalso; first | omega | contradiction)
                              | refine r_aload_n C dX5_does_225 rfl rfl ?_
                                refine mm_get C flX5_7 dX5_does_226 hm rfl ?_
                                refine r_iload_n C dX5_does_229 rfl rfl ?_
                                refine r_iload C dX5_does_230 rfl ?_
                                refine r_cS C cwX5_107 (liftN (c_X5_keeps (by omega) (by omega) (by omega))) dX5_does_232 rfl rfl rfl (Nat.le_of_ble_eq_true rfl) ⟨Nat.le_of_ble_eq_true rfl, Nat.le_of_ble_eq_true rfl⟩ ⟨Nat.le_of_ble_eq_true rfl, Nat.le_of_ble_eq_true rfl⟩ ?_
                                refine r_pop C dX5_does_235 rfl ?_
                                refine r_iload C dX5_does_236 rfl ?_
                                exact r_zretD C dX5_does_238 (by first | omega | exact gB_01 _) (by unfold dOk; rw [if_neg (by decide), if_pos rfl]; first | exact (gB_t (by first | assumption | omega)).symm | exact (gB_f (by first | assumption | omega)).symm) (by unfold dS; rw [if_neg (by decide), if_pos rfl]; first | rw [if_pos (show mayL s r ((r - 1) % 6) by first | assumption | omega)] | rw [if_neg (show ¬ (mayL s r ((r - 1) % 6)) by first | assumption | omega)])
                        · first
                          | (exfalso; first | omega | contradiction)
                          | refine r_iload_n C dX5_does_194 rfl rfl ?_
                            refine r_bipush C dX5_does_195 (by decide) ?_
                            refine r_icmp_ne (tgt := 220) C dX5_does_197 (by decide) (by omega) (by omega) (fun h197 => ?_) (fun h197 => ?_)
                            · refine r_iload C dX5_does_220 rfl ?_
                              refine r_if_eq (tgt := 236) C dX5_does_222 (by decide) (by omega) (fun h222 => ?_) (fun h222 => ?_)
                              · first
                                | (exfalso; first | omega | contradiction)
                                | refine r_iload C dX5_does_236 rfl ?_
                                  exact r_zretD C dX5_does_238 (by first | omega | exact gB_01 _) (by unfold dOk; rw [if_neg (by decide), if_pos rfl]; first | exact (gB_t (by first | assumption | omega)).symm | exact (gB_f (by first | assumption | omega)).symm) (by unfold dS; rw [if_neg (by decide), if_pos rfl]; first | rw [if_pos (show mayL s r ((r - 1) % 6) by first | assumption | omega)] | rw [if_neg (show ¬ (mayL s r ((r - 1) % 6)) by first | assumption | omega)])
                              · first
                                | (exfalso; first | omega | contradiction)
                                | refine r_aload_n C dX5_does_225 rfl rfl ?_
                                  refine mm_get C flX5_7 dX5_does_226 hm rfl ?_
                                  refine r_iload_n C dX5_does_229 rfl rfl ?_
                                  refine r_iload C dX5_does_230 rfl ?_
                                  refine r_cS C cwX5_107 (liftN (c_X5_keeps (by omega) (by omega) (by omega))) dX5_does_232 rfl rfl rfl (Nat.le_of_ble_eq_true rfl) ⟨Nat.le_of_ble_eq_true rfl, Nat.le_of_ble_eq_true rfl⟩ ⟨Nat.le_of_ble_eq_true rfl, Nat.le_of_ble_eq_true rfl⟩ ?_
                                  refine r_pop C dX5_does_235 rfl ?_
                                  refine r_iload C dX5_does_236 rfl ?_
                                  exact r_zretD C dX5_does_238 (by first | omega | exact gB_01 _) (by unfold dOk; rw [if_neg (by decide), if_pos rfl]; first | exact (gB_t (by first | assumption | omega)).symm | exact (gB_f (by first | assumption | omega)).symm) (by unfold dS; rw [if_neg (by decide), if_pos rfl]; first | rw [if_pos (show mayL s r ((r - 1) % 6) by first | assumption | omega)] | rw [if_neg (show ¬ (mayL s r ((r - 1) % 6)) by first | assumption | omega)])
                            · (exfalso; omega)
                    · first
                      | (exfalso; first | omega | contradiction)
                      | refine r_iload_n C dX5_does_172 rfl rfl ?_
                        refine r_bipush C dX5_does_173 (by decide) ?_
                        refine r_icmp_ne (tgt := 189) C dX5_does_175 (by decide) (by omega) (by omega) (fun h175 => ?_) (fun h175 => ?_)
                        · refine r_iload C dX5_does_189 rfl ?_
                          refine r_if_eq (tgt := 220) C dX5_does_191 (by decide) (by omega) (fun h191 => ?_) (fun h191 => ?_)
                          · first
                            | (exfalso; first | omega | contradiction)
                            | refine r_iload C dX5_does_220 rfl ?_
                              refine r_if_eq (tgt := 236) C dX5_does_222 (by decide) (by omega) (fun h222 => ?_) (fun h222 => ?_)
                              · first
                                | (exfalso; first | omega | contradiction)
                                | refine r_iload C dX5_does_236 rfl ?_
                                  exact r_zretD C dX5_does_238 (by first | omega | exact gB_01 _) (by unfold dOk; rw [if_neg (by decide), if_pos rfl]; first | exact (gB_t (by first | assumption | omega)).symm | exact (gB_f (by first | assumption | omega)).symm) (by unfold dS; rw [if_neg (by decide), if_pos rfl]; first | rw [if_pos (show mayL s r ((r - 1) % 6) by first | assumption | omega)] | rw [if_neg (show ¬ (mayL s r ((r - 1) % 6)) by first | assumption | omega)])
                              · first
                                | (exfalso; first | omega | contradiction)
                                | refine r_aload_n C dX5_does_225 rfl rfl ?_
                                  refine mm_get C flX5_7 dX5_does_226 hm rfl ?_
                                  refine r_iload_n C dX5_does_229 rfl rfl ?_
                                  refine r_iload C dX5_does_230 rfl ?_
                                  refine r_cS C cwX5_107 (liftN (c_X5_keeps (by omega) (by omega) (by omega))) dX5_does_232 rfl rfl rfl (Nat.le_of_ble_eq_true rfl) ⟨Nat.le_of_ble_eq_true rfl, Nat.le_of_ble_eq_true rfl⟩ ⟨Nat.le_of_ble_eq_true rfl, Nat.le_of_ble_eq_true rfl⟩ ?_
                                  refine r_pop C dX5_does_235 rfl ?_
                                  refine r_iload C dX5_does_236 rfl ?_
                                  exact r_zretD C dX5_does_238 (by first | omega | exact gB_01 _) (by unfold dOk; rw [if_neg (by decide), if_pos rfl]; first | exact (gB_t (by first | assumption | omega)).symm | exact (gB_f (by first | assumption | omega)).symm) (by unfold dS; rw [if_neg (by decide), if_pos rfl]; first | rw [if_pos (show mayL s r ((r - 1) % 6) by first | assumption | omega)] | rw [if_neg (show ¬ (mayL s r ((r - 1) % 6)) by first | assumption | omega)])
                          · first
                            | (exfalso; first | omega | contradiction)
                            | refine r_iload_n C dX5_does_194 rfl rfl ?_
                              refine r_bipush C dX5_does_195 (by decide) ?_
                              refine r_icmp_ne (tgt := 220) C dX5_does_197 (by decide) (by omega) (by omega) (fun h197 => ?_) (fun h197 => ?_)
                              · refine r_iload C dX5_does_220 rfl ?_
                                refine r_if_eq (tgt := 236) C dX5_does_222 (by decide) (by omega) (fun h222 => ?_) (fun h222 => ?_)
                                · first
                                  | (exfalso; first | omega | contradiction)
                                  | refine r_iload C dX5_does_236 rfl ?_
                                    exact r_zretD C dX5_does_238 (by first | omega | exact gB_01 _) (by unfold dOk; rw [if_neg (by decide), if_pos rfl]; first | exact (gB_t (by first | assumption | omega)).symm | exact (gB_f (by first | assumption | omega)).symm) (by unfold dS; rw [if_neg (by decide), if_pos rfl]; first | rw [if_pos (show mayL s r ((r - 1) % 6) by first | assumption | omega)] | rw [if_neg (show ¬ (mayL s r ((r - 1) % 6)) by first | assumption | omega)])
                                · first
                                  | (exfalso; first | omega | contradiction)
                                  | refine r_aload_n C dX5_does_225 rfl rfl ?_
                                    refine mm_get C flX5_7 dX5_does_226 hm rfl ?_
                                    refine r_iload_n C dX5_does_229 rfl rfl ?_
                                    refine r_iload C dX5_does_230 rfl ?_
                                    refine r_cS C cwX5_107 (liftN (c_X5_keeps (by omega) (by omega) (by omega))) dX5_does_232 rfl rfl rfl (Nat.le_of_ble_eq_true rfl) ⟨Nat.le_of_ble_eq_true rfl, Nat.le_of_ble_eq_true rfl⟩ ⟨Nat.le_of_ble_eq_true rfl, Nat.le_of_ble_eq_true rfl⟩ ?_
                                    refine r_pop C dX5_does_235 rfl ?_
                                    refine r_iload C dX5_does_236 rfl ?_
                                    exact r_zretD C dX5_does_238 (by first | omega | exact gB_01 _) (by unfold dOk; rw [if_neg (by decide), if_pos rfl]; first | exact (gB_t (by first | assumption | omega)).symm | exact (gB_f (by first | assumption | omega)).symm) (by unfold dS; rw [if_neg (by decide), if_pos rfl]; first | rw [if_pos (show mayL s r ((r - 1) % 6) by first | assumption | omega)] | rw [if_neg (show ¬ (mayL s r ((r - 1) % 6)) by first | assumption | omega)])
                              · (exfalso; omega)
                        · (exfalso; omega)
                · first
                  | (exfalso; first | omega | contradiction)
                  | refine r_aload_n C dX5_does_156 rfl rfl ?_
                    refine mm_get C flX5_7 dX5_does_157 hm rfl ?_
                    refine r_iload_n C dX5_does_160 rfl rfl ?_
                    refine r_cSv C cwX5_73 (liftN (c_X5_lights (by omega) (by omega))) dX5_does_161 rfl rfl rfl (Nat.le_of_ble_eq_true rfl) ⟨Nat.le_of_ble_eq_true rfl, Nat.le_of_ble_eq_true rfl⟩ ⟨Nat.le_of_ble_eq_true rfl, Nat.le_of_ble_eq_true rfl⟩ ?_
                    refine r_goto (tgt := 236) C dX5_does_164 (by decide) ?_
                    refine r_iload C dX5_does_236 rfl ?_
                    exact r_zretD C dX5_does_238 (by first | omega | exact gB_01 _) (by unfold dOk; rw [if_neg (by decide), if_pos rfl]; first | exact (gB_t (by first | assumption | omega)).symm | exact (gB_f (by first | assumption | omega)).symm) (by unfold dS; rw [if_neg (by decide), if_pos rfl]; first | rw [if_pos (show mayL s r ((r - 1) % 6) by first | assumption | omega)] | rw [if_neg (show ¬ (mayL s r ((r - 1) % 6)) by first | assumption | omega)])
            · first
              | (exfalso; first | omega | contradiction)
              | refine r_iload_n C dX5_does_104 rfl rfl ?_
                refine r_bipush C dX5_does_105 (by decide) ?_
                refine r_icmp_ne (tgt := 119) C dX5_does_107 (by decide) (by omega) (by omega) (fun h107 => ?_) (fun h107 => ?_)
                · refine r_iload_n C dX5_does_119 rfl rfl ?_
                  refine r_bipush C dX5_does_120 (by decide) ?_
                  refine r_icmp_eq (tgt := 144) C dX5_does_122 (by decide) (by omega) (by omega) (fun h122 => ?_) (fun h122 => ?_)
                  · (exfalso; omega)
                  · refine r_iload_n C dX5_does_125 rfl rfl ?_
                    refine r_bipush C dX5_does_126 (by decide) ?_
                    refine r_icmp_ne (tgt := 148) C dX5_does_128 (by decide) (by omega) (by omega) (fun h128 => ?_) (fun h128 => ?_)
                    · refine r_iconst C dX5_does_148 ?_
                      refine r_istore C dX5_does_149 (Nat.le_of_ble_eq_true rfl) rfl ?_
                      dsimp only [List.set]
                      refine r_iload C dX5_does_151 rfl ?_
                      refine r_if_eq (tgt := 167) C dX5_does_153 (by decide) (by omega) (fun h153 => ?_) (fun h153 => ?_)
                      · first
                        | (exfalso; first | omega | contradiction)
                        | refine r_iload C dX5_does_167 rfl ?_
                          refine r_if_eq (tgt := 189) C dX5_does_169 (by decide) (by omega) (fun h169 => ?_) (fun h169 => ?_)
                          · first
                            | (exfalso; first | omega | contradiction)
                            | refine r_iload C dX5_does_189 rfl ?_
                              refine r_if_eq (tgt := 220) C dX5_does_191 (by decide) (by omega) (fun h191 => ?_) (fun h191 => ?_)
                              · first
                                | (exfalso; first | omega | contradiction)
                                | refine r_iload C dX5_does_220 rfl ?_
                                  refine r_if_eq (tgt := 236) C dX5_does_222 (by decide) (by omega) (fun h222 => ?_) (fun h222 => ?_)
                                  · first
                                    | (exfalso; first | omega | contradiction)
                                    | refine r_iload C dX5_does_236 rfl ?_
                                      exact r_zretD C dX5_does_238 (by first | omega | exact gB_01 _) (by unfold dOk; rw [if_neg (by decide), if_pos rfl]; first | exact (gB_t (by first | assumption | omega)).symm | exact (gB_f (by first | assumption | omega)).symm) (by unfold dS; rw [if_neg (by decide), if_pos rfl]; first | rw [if_pos (show mayL s r ((r - 1) % 6) by first | assumption | omega)] | rw [if_neg (show ¬ (mayL s r ((r - 1) % 6)) by first | assumption | omega)])
                                  · first
                                    | (exfalso; first | omega | contradiction)
                                    | refine r_aload_n C dX5_does_225 rfl rfl ?_
                                      refine mm_get C flX5_7 dX5_does_226 hm rfl ?_
                                      refine r_iload_n C dX5_does_229 rfl rfl ?_
                                      refine r_iload C dX5_does_230 rfl ?_
                                      refine r_cS C cwX5_107 (liftN (c_X5_keeps (by omega) (by omega) (by omega))) dX5_does_232 rfl rfl rfl (Nat.le_of_ble_eq_true rfl) ⟨Nat.le_of_ble_eq_true rfl, Nat.le_of_ble_eq_true rfl⟩ ⟨Nat.le_of_ble_eq_true rfl, Nat.le_of_ble_eq_true rfl⟩ ?_
                                      refine r_pop C dX5_does_235 rfl ?_
                                      refine r_iload C dX5_does_236 rfl ?_
                                      exact r_zretD C dX5_does_238 (by first | omega | exact gB_01 _) (by unfold dOk; rw [if_neg (by decide), if_pos rfl]; first | exact (gB_t (by first | assumption | omega)).symm | exact (gB_f (by first | assumption | omega)).symm) (by unfold dS; rw [if_neg (by decide), if_pos rfl]; first | rw [if_pos (show mayL s r ((r - 1) % 6) by first | assumption | omega)] | rw [if_neg (show ¬ (mayL s r ((r - 1) % 6)) by first | assumption | omega)])
                              · first
                                | (exfalso; first | omega | contradiction)
                                | refine r_iload_n C dX5_does_194 rfl rfl ?_
                                  refine r_bipush C dX5_does_195 (by decide) ?_
                                  refine r_icmp_ne (tgt := 220) C dX5_does_197 (by decide) (by omega) (by omega) (fun h197 => ?_) (fun h197 => ?_)
                                  · refine r_iload C dX5_does_220 rfl ?_
                                    refine r_if_eq (tgt := 236) C dX5_does_222 (by decide) (by omega) (fun h222 => ?_) (fun h222 => ?_)
                                    · first
                                      | (exfalso; first | omega | contradiction)
                                      | refine r_iload C dX5_does_236 rfl ?_
                                        exact r_zretD C dX5_does_238 (by first | omega | exact gB_01 _) (by unfold dOk; rw [if_neg (by decide), if_pos rfl]; first | exact (gB_t (by first | assumption | omega)).symm | exact (gB_f (by first | assumption | omega)).symm) (by unfold dS; rw [if_neg (by decide), if_pos rfl]; first | rw [if_pos (show mayL s r ((r - 1) % 6) by first | assumption | omega)] | rw [if_neg (show ¬ (mayL s r ((r - 1) % 6)) by first | assumption | omega)])
                                    · first
                                      | (exfalso; first | omega | contradiction)
                                      | refine r_aload_n C dX5_does_225 rfl rfl ?_
                                        refine mm_get C flX5_7 dX5_does_226 hm rfl ?_
                                        refine r_iload_n C dX5_does_229 rfl rfl ?_
                                        refine r_iload C dX5_does_230 rfl ?_
                                        refine r_cS C cwX5_107 (liftN (c_X5_keeps (by omega) (by omega) (by omega))) dX5_does_232 rfl rfl rfl (Nat.le_of_ble_eq_true rfl) ⟨Nat.le_of_ble_eq_true rfl, Nat.le_of_ble_eq_true rfl⟩ ⟨Nat.le_of_ble_eq_true rfl, Nat.le_of_ble_eq_true rfl⟩ ?_
                                        refine r_pop C dX5_does_235 rfl ?_
                                        refine r_iload C dX5_does_236 rfl ?_
                                        exact r_zretD C dX5_does_238 (by first | omega | exact gB_01 _) (by unfold dOk; rw [if_neg (by decide), if_pos rfl]; first | exact (gB_t (by first | assumption | omega)).symm | exact (gB_f (by first | assumption | omega)).symm) (by unfold dS; rw [if_neg (by decide), if_pos rfl]; first | rw [if_pos (show mayL s r ((r - 1) % 6) by first | assumption | omega)] | rw [if_neg (show ¬ (mayL s r ((r - 1) % 6)) by first | assumption | omega)])
                                  · (exfalso; omega)
                          · first
                            | (exfalso; first | omega | contradiction)
                            | refine r_iload_n C dX5_does_172 rfl rfl ?_
                              refine r_bipush C dX5_does_173 (by decide) ?_
                              refine r_icmp_ne (tgt := 189) C dX5_does_175 (by decide) (by omega) (by omega) (fun h175 => ?_) (fun h175 => ?_)
                              · refine r_iload C dX5_does_189 rfl ?_
                                refine r_if_eq (tgt := 220) C dX5_does_191 (by decide) (by omega) (fun h191 => ?_) (fun h191 => ?_)
                                · first
                                  | (exfalso; first | omega | contradiction)
                                  | refine r_iload C dX5_does_220 rfl ?_
                                    refine r_if_eq (tgt := 236) C dX5_does_222 (by decide) (by omega) (fun h222 => ?_) (fun h222 => ?_)
                                    · first
                                      | (exfalso; first | omega | contradiction)
                                      | refine r_iload C dX5_does_236 rfl ?_
                                        exact r_zretD C dX5_does_238 (by first | omega | exact gB_01 _) (by unfold dOk; rw [if_neg (by decide), if_pos rfl]; first | exact (gB_t (by first | assumption | omega)).symm | exact (gB_f (by first | assumption | omega)).symm) (by unfold dS; rw [if_neg (by decide), if_pos rfl]; first | rw [if_pos (show mayL s r ((r - 1) % 6) by first | assumption | omega)] | rw [if_neg (show ¬ (mayL s r ((r - 1) % 6)) by first | assumption | omega)])
                                    · first
                                      | (exfalso; first | omega | contradiction)
                                      | refine r_aload_n C dX5_does_225 rfl rfl ?_
                                        refine mm_get C flX5_7 dX5_does_226 hm rfl ?_
                                        refine r_iload_n C dX5_does_229 rfl rfl ?_
                                        refine r_iload C dX5_does_230 rfl ?_
                                        refine r_cS C cwX5_107 (liftN (c_X5_keeps (by omega) (by omega) (by omega))) dX5_does_232 rfl rfl rfl (Nat.le_of_ble_eq_true rfl) ⟨Nat.le_of_ble_eq_true rfl, Nat.le_of_ble_eq_true rfl⟩ ⟨Nat.le_of_ble_eq_true rfl, Nat.le_of_ble_eq_true rfl⟩ ?_
                                        refine r_pop C dX5_does_235 rfl ?_
                                        refine r_iload C dX5_does_236 rfl ?_
                                        exact r_zretD C dX5_does_238 (by first | omega | exact gB_01 _) (by unfold dOk; rw [if_neg (by decide), if_pos rfl]; first | exact (gB_t (by first | assumption | omega)).symm | exact (gB_f (by first | assumption | omega)).symm) (by unfold dS; rw [if_neg (by decide), if_pos rfl]; first | rw [if_pos (show mayL s r ((r - 1) % 6) by first | assumption | omega)] | rw [if_neg (show ¬ (mayL s r ((r - 1) % 6)) by first | assumption | omega)])
                                · first
                                  | (exfalso; first | omega | contradiction)
                                  | refine r_iload_n C dX5_does_194 rfl rfl ?_
                                    refine r_bipush C dX5_does_195 (by decide) ?_
                                    refine r_icmp_ne (tgt := 220) C dX5_does_197 (by decide) (by omega) (by omega) (fun h197 => ?_) (fun h197 => ?_)
                                    · refine r_iload C dX5_does_220 rfl ?_
                                      refine r_if_eq (tgt := 236) C dX5_does_222 (by decide) (by omega) (fun h222 => ?_) (fun h222 => ?_)
                                      · first
                                        | (exfalso; first | omega | contradiction)
                                        | refine r_iload C dX5_does_236 rfl ?_
                                          exact r_zretD C dX5_does_238 (by first | omega | exact gB_01 _) (by unfold dOk; rw [if_neg (by decide), if_pos rfl]; first | exact (gB_t (by first | assumption | omega)).symm | exact (gB_f (by first | assumption | omega)).symm) (by unfold dS; rw [if_neg (by decide), if_pos rfl]; first | rw [if_pos (show mayL s r ((r - 1) % 6) by first | assumption | omega)] | rw [if_neg (show ¬ (mayL s r ((r - 1) % 6)) by first | assumption | omega)])
                                      · first
                                        | (exfalso; first | omega | contradiction)
                                        | refine r_aload_n C dX5_does_225 rfl rfl ?_
                                          refine mm_get C flX5_7 dX5_does_226 hm rfl ?_
                                          refine r_iload_n C dX5_does_229 rfl rfl ?_
                                          refine r_iload C dX5_does_230 rfl ?_
                                          refine r_cS C cwX5_107 (liftN (c_X5_keeps (by omega) (by omega) (by omega))) dX5_does_232 rfl rfl rfl (Nat.le_of_ble_eq_true rfl) ⟨Nat.le_of_ble_eq_true rfl, Nat.le_of_ble_eq_true rfl⟩ ⟨Nat.le_of_ble_eq_true rfl, Nat.le_of_ble_eq_true rfl⟩ ?_
                                          refine r_pop C dX5_does_235 rfl ?_
                                          refine r_iload C dX5_does_236 rfl ?_
                                          exact r_zretD C dX5_does_238 (by first | omega | exact gB_01 _) (by unfold dOk; rw [if_neg (by decide), if_pos rfl]; first | exact (gB_t (by first | assumption | omega)).symm | exact (gB_f (by first | assumption | omega)).symm) (by unfold dS; rw [if_neg (by decide), if_pos rfl]; first | rw [if_pos (show mayL s r ((r - 1) % 6) by first | assumption | omega)] | rw [if_neg (show ¬ (mayL s r ((r - 1) % 6)) by first | assumption | omega)])
                                    · (exfalso; omega)
                              · (exfalso; omega)
                      · first
                        | (exfalso; first | omega | contradiction)
                        | refine r_aload_n C dX5_does_156 rfl rfl ?_
                          refine mm_get C flX5_7 dX5_does_157 hm rfl ?_
                          refine r_iload_n C dX5_does_160 rfl rfl ?_
                          refine r_cSv C cwX5_73 (liftN (c_X5_lights (by omega) (by omega))) dX5_does_161 rfl rfl rfl (Nat.le_of_ble_eq_true rfl) ⟨Nat.le_of_ble_eq_true rfl, Nat.le_of_ble_eq_true rfl⟩ ⟨Nat.le_of_ble_eq_true rfl, Nat.le_of_ble_eq_true rfl⟩ ?_
                          refine r_goto (tgt := 236) C dX5_does_164 (by decide) ?_
                          refine r_iload C dX5_does_236 rfl ?_
                          exact r_zretD C dX5_does_238 (by first | omega | exact gB_01 _) (by unfold dOk; rw [if_neg (by decide), if_pos rfl]; first | exact (gB_t (by first | assumption | omega)).symm | exact (gB_f (by first | assumption | omega)).symm) (by unfold dS; rw [if_neg (by decide), if_pos rfl]; first | rw [if_pos (show mayL s r ((r - 1) % 6) by first | assumption | omega)] | rw [if_neg (show ¬ (mayL s r ((r - 1) % 6)) by first | assumption | omega)])
                    · (exfalso; omega)
                · (exfalso; omega)
        · (exfalso; omega)
      · (exfalso; omega)
  · subst hw
    refine r_aload_n C dX5_does_0 rfl rfl ?_
    refine mm_get C flX5_22 dX5_does_1 hm rfl ?_
    refine r_iconst C dX5_does_4 ?_
    refine r_iload_n C dX5_does_5 rfl rfl ?_
    refine r_imul C dX5_does_6 ?_
    refine r_iald C dX5_does_7 (by omega) mput_5 (by omega) (by omega) ?_
    rw [h0]
    refine r_istore_n C dX5_does_8 rfl (Nat.le_of_ble_eq_true rfl) rfl ?_
    dsimp only [List.set]
    refine r_aload_n C dX5_does_9 rfl rfl ?_
    refine mm_get C flX5_22 dX5_does_10 hm rfl ?_
    refine r_iconst C dX5_does_13 ?_
    refine r_iload_n C dX5_does_14 rfl rfl ?_
    refine r_imul C dX5_does_15 ?_
    refine r_iconst C dX5_does_16 ?_
    refine r_iadd C dX5_does_17 ?_
    refine r_iald C dX5_does_18 (by omega) mput_5 (by omega) (by omega) ?_
    rw [h1]
    refine r_istore_n C dX5_does_19 rfl (Nat.le_of_ble_eq_true rfl) rfl ?_
    dsimp only [List.set]
    refine r_aload_n C dX5_does_20 rfl rfl ?_
    refine mm_get C flX5_22 dX5_does_21 hm rfl ?_
    refine r_iconst C dX5_does_24 ?_
    refine r_iload_n C dX5_does_25 rfl rfl ?_
    refine r_imul C dX5_does_26 ?_
    refine r_iconst C dX5_does_27 ?_
    refine r_iadd C dX5_does_28 ?_
    refine r_iald C dX5_does_29 (by omega) mput_5 (by omega) (by omega) ?_
    refine r_istore C dX5_does_30 (Nat.le_of_ble_eq_true rfl) rfl ?_
    dsimp only [List.set]
    refine r_iload_n C dX5_does_32 rfl rfl ?_
    refine r_iload_n C dX5_does_33 rfl rfl ?_
    refine r_bipush C dX5_does_34 (by decide) ?_
    refine r_icmp_ne (tgt := 43) C dX5_does_36 (by decide) (by omega) (by omega) (fun h36 => ?_) (fun h36 => ?_)
    · refine r_iconst C dX5_does_43 ?_
      refine r_iadd C dX5_does_44 ?_
      refine r_bipush C dX5_does_45 (by decide) ?_
      refine r_irem C dX5_does_47 (by omega) (by omega) ?_
      refine r_istore C dX5_does_48 (Nat.le_of_ble_eq_true rfl) rfl ?_
      dsimp only [List.set]
      refine r_iload_n C dX5_does_50 rfl rfl ?_
      refine r_bipush C dX5_does_51 (by decide) ?_
      refine r_icmp_ne (tgt := 67) C dX5_does_53 (by decide) (by omega) (by omega) (fun h53 => ?_) (fun h53 => ?_)
      · refine r_iload_n C dX5_does_67 rfl rfl ?_
        refine r_bipush C dX5_does_68 (by decide) ?_
        refine r_icmp_eq (tgt := 79) C dX5_does_70 (by decide) (by omega) (by omega) (fun h70 => ?_) (fun h70 => ?_)
        · (exfalso; omega)
        · refine r_iload_n C dX5_does_73 rfl rfl ?_
          refine r_bipush C dX5_does_74 (by decide) ?_
          refine r_icmp_ne (tgt := 96) C dX5_does_76 (by decide) (by omega) (by omega) (fun h76 => ?_) (fun h76 => ?_)
          · (exfalso; omega)
          · refine r_aload_n C dX5_does_79 rfl rfl ?_
            refine mm_get C flX5_7 dX5_does_80 hm rfl ?_
            refine r_iload_n C dX5_does_83 rfl rfl ?_
            refine r_iload C dX5_does_84 rfl ?_
            refine r_cS C cwX5_77 (c_X5_mayLight (by omega) mput_1 hs (by omega) (by omega)) dX5_does_86 rfl rfl rfl (Nat.le_of_ble_eq_true rfl) ⟨Nat.le_of_ble_eq_true rfl, Nat.le_of_ble_eq_true rfl⟩ ⟨Nat.le_of_ble_eq_true rfl, Nat.le_of_ble_eq_true rfl⟩ ?_
            refine r_ifb_eq (tgt := 96) C dX5_does_89 (by decide) (fun h89 => ?_) (fun h89 => ?_)
            · refine r_iconst C dX5_does_96 ?_
              refine r_istore C dX5_does_97 (Nat.le_of_ble_eq_true rfl) rfl ?_
              dsimp only [List.set]
              refine r_iload C dX5_does_99 rfl ?_
              refine r_if_ne (tgt := 144) C dX5_does_101 (by decide) (by omega) (fun h101 => ?_) (fun h101 => ?_)
              · first
                | (exfalso; first | omega | contradiction)
                | refine r_iconst C dX5_does_144 ?_
                  refine r_goto (tgt := 149) C dX5_does_145 (by decide) ?_
                  refine r_istore C dX5_does_149 (Nat.le_of_ble_eq_true rfl) rfl ?_
                  dsimp only [List.set]
                  refine r_iload C dX5_does_151 rfl ?_
                  refine r_if_eq (tgt := 167) C dX5_does_153 (by decide) (by omega) (fun h153 => ?_) (fun h153 => ?_)
                  · first
                    | (exfalso; first | omega | contradiction)
                    | refine r_iload C dX5_does_167 rfl ?_
                      refine r_if_eq (tgt := 189) C dX5_does_169 (by decide) (by omega) (fun h169 => ?_) (fun h169 => ?_)
                      · first
                        | (exfalso; first | omega | contradiction)
                        | refine r_iload C dX5_does_189 rfl ?_
                          refine r_if_eq (tgt := 220) C dX5_does_191 (by decide) (by omega) (fun h191 => ?_) (fun h191 => ?_)
                          · first
                            | (exfalso; first | omega | contradiction)
                            | refine r_iload C dX5_does_220 rfl ?_
                              refine r_if_eq (tgt := 236) C dX5_does_222 (by decide) (by omega) (fun h222 => ?_) (fun h222 => ?_)
                              · first
                                | (exfalso; first | omega | contradiction)
                                | refine r_iload C dX5_does_236 rfl ?_
                                  exact r_zretD C dX5_does_238 (by first | omega | exact gB_01 _) (by unfold dOk; rw [if_neg (by decide), if_neg (by decide), if_pos rfl]; first | exact (gB_t (by first | assumption | omega)).symm | exact (gB_f (by first | assumption | omega)).symm) (by unfold dS; rw [if_neg (by decide), if_neg (by decide), if_pos rfl]; first | rw [if_pos (show mayL s r ((r + 1) % 6) by first | assumption | omega)] | rw [if_neg (show ¬ (mayL s r ((r + 1) % 6)) by first | assumption | omega)])
                              · first
                                | (exfalso; first | omega | contradiction)
                                | refine r_aload_n C dX5_does_225 rfl rfl ?_
                                  refine mm_get C flX5_7 dX5_does_226 hm rfl ?_
                                  refine r_iload_n C dX5_does_229 rfl rfl ?_
                                  refine r_iload C dX5_does_230 rfl ?_
                                  refine r_cS C cwX5_107 (liftN (c_X5_keeps (by omega) (by omega) (by omega))) dX5_does_232 rfl rfl rfl (Nat.le_of_ble_eq_true rfl) ⟨Nat.le_of_ble_eq_true rfl, Nat.le_of_ble_eq_true rfl⟩ ⟨Nat.le_of_ble_eq_true rfl, Nat.le_of_ble_eq_true rfl⟩ ?_
                                  refine r_pop C dX5_does_235 rfl ?_
                                  refine r_iload C dX5_does_236 rfl ?_
                                  exact r_zretD C dX5_does_238 (by first | omega | exact gB_01 _) (by unfold dOk; rw [if_neg (by decide), if_neg (by decide), if_pos rfl]; first | exact (gB_t (by first | assumption | omega)).symm | exact (gB_f (by first | assumption | omega)).symm) (by unfold dS; rw [if_neg (by decide), if_neg (by decide), if_pos rfl]; first | rw [if_pos (show mayL s r ((r + 1) % 6) by first | assumption | omega)] | rw [if_neg (show ¬ (mayL s r ((r + 1) % 6)) by first | assumption | omega)])
                          · first
                            | (exfalso; first | omega | contradiction)
                            | refine r_iload_n C dX5_does_194 rfl rfl ?_
                              refine r_bipush C dX5_does_195 (by decide) ?_
                              refine r_icmp_ne (tgt := 220) C dX5_does_197 (by decide) (by omega) (by omega) (fun h197 => ?_) (fun h197 => ?_)
                              · refine r_iload C dX5_does_220 rfl ?_
                                refine r_if_eq (tgt := 236) C dX5_does_222 (by decide) (by omega) (fun h222 => ?_) (fun h222 => ?_)
                                · first
                                  | (exfalso; first | omega | contradiction)
                                  | refine r_iload C dX5_does_236 rfl ?_
                                    exact r_zretD C dX5_does_238 (by first | omega | exact gB_01 _) (by unfold dOk; rw [if_neg (by decide), if_neg (by decide), if_pos rfl]; first | exact (gB_t (by first | assumption | omega)).symm | exact (gB_f (by first | assumption | omega)).symm) (by unfold dS; rw [if_neg (by decide), if_neg (by decide), if_pos rfl]; first | rw [if_pos (show mayL s r ((r + 1) % 6) by first | assumption | omega)] | rw [if_neg (show ¬ (mayL s r ((r + 1) % 6)) by first | assumption | omega)])
                                · first
                                  | (exfalso; first | omega | contradiction)
                                  | refine r_aload_n C dX5_does_225 rfl rfl ?_
                                    refine mm_get C flX5_7 dX5_does_226 hm rfl ?_
                                    refine r_iload_n C dX5_does_229 rfl rfl ?_
                                    refine r_iload C dX5_does_230 rfl ?_
                                    refine r_cS C cwX5_107 (liftN (c_X5_keeps (by omega) (by omega) (by omega))) dX5_does_232 rfl rfl rfl (Nat.le_of_ble_eq_true rfl) ⟨Nat.le_of_ble_eq_true rfl, Nat.le_of_ble_eq_true rfl⟩ ⟨Nat.le_of_ble_eq_true rfl, Nat.le_of_ble_eq_true rfl⟩ ?_
                                    refine r_pop C dX5_does_235 rfl ?_
                                    refine r_iload C dX5_does_236 rfl ?_
                                    exact r_zretD C dX5_does_238 (by first | omega | exact gB_01 _) (by unfold dOk; rw [if_neg (by decide), if_neg (by decide), if_pos rfl]; first | exact (gB_t (by first | assumption | omega)).symm | exact (gB_f (by first | assumption | omega)).symm) (by unfold dS; rw [if_neg (by decide), if_neg (by decide), if_pos rfl]; first | rw [if_pos (show mayL s r ((r + 1) % 6) by first | assumption | omega)] | rw [if_neg (show ¬ (mayL s r ((r + 1) % 6)) by first | assumption | omega)])
                              · (exfalso; omega)
                      · first
                        | (exfalso; first | omega | contradiction)
                        | refine r_iload_n C dX5_does_172 rfl rfl ?_
                          refine r_bipush C dX5_does_173 (by decide) ?_
                          refine r_icmp_ne (tgt := 189) C dX5_does_175 (by decide) (by omega) (by omega) (fun h175 => ?_) (fun h175 => ?_)
                          · refine r_iload C dX5_does_189 rfl ?_
                            refine r_if_eq (tgt := 220) C dX5_does_191 (by decide) (by omega) (fun h191 => ?_) (fun h191 => ?_)
                            · first
                              | (exfalso; first | omega | contradiction)
                              | refine r_iload C dX5_does_220 rfl ?_
                                refine r_if_eq (tgt := 236) C dX5_does_222 (by decide) (by omega) (fun h222 => ?_) (fun h222 => ?_)
                                · first
                                  | (exfalso; first | omega | contradiction)
                                  | refine r_iload C dX5_does_236 rfl ?_
                                    exact r_zretD C dX5_does_238 (by first | omega | exact gB_01 _) (by unfold dOk; rw [if_neg (by decide), if_neg (by decide), if_pos rfl]; first | exact (gB_t (by first | assumption | omega)).symm | exact (gB_f (by first | assumption | omega)).symm) (by unfold dS; rw [if_neg (by decide), if_neg (by decide), if_pos rfl]; first | rw [if_pos (show mayL s r ((r + 1) % 6) by first | assumption | omega)] | rw [if_neg (show ¬ (mayL s r ((r + 1) % 6)) by first | assumption | omega)])
                                · first
                                  | (exfalso; first | omega | contradiction)
                                  | refine r_aload_n C dX5_does_225 rfl rfl ?_
                                    refine mm_get C flX5_7 dX5_does_226 hm rfl ?_
                                    refine r_iload_n C dX5_does_229 rfl rfl ?_
                                    refine r_iload C dX5_does_230 rfl ?_
                                    refine r_cS C cwX5_107 (liftN (c_X5_keeps (by omega) (by omega) (by omega))) dX5_does_232 rfl rfl rfl (Nat.le_of_ble_eq_true rfl) ⟨Nat.le_of_ble_eq_true rfl, Nat.le_of_ble_eq_true rfl⟩ ⟨Nat.le_of_ble_eq_true rfl, Nat.le_of_ble_eq_true rfl⟩ ?_
                                    refine r_pop C dX5_does_235 rfl ?_
                                    refine r_iload C dX5_does_236 rfl ?_
                                    exact r_zretD C dX5_does_238 (by first | omega | exact gB_01 _) (by unfold dOk; rw [if_neg (by decide), if_neg (by decide), if_pos rfl]; first | exact (gB_t (by first | assumption | omega)).symm | exact (gB_f (by first | assumption | omega)).symm) (by unfold dS; rw [if_neg (by decide), if_neg (by decide), if_pos rfl]; first | rw [if_pos (show mayL s r ((r + 1) % 6) by first | assumption | omega)] | rw [if_neg (show ¬ (mayL s r ((r + 1) % 6)) by first | assumption | omega)])
                            · first
                              | (exfalso; first | omega | contradiction)
                              | refine r_iload_n C dX5_does_194 rfl rfl ?_
                                refine r_bipush C dX5_does_195 (by decide) ?_
                                refine r_icmp_ne (tgt := 220) C dX5_does_197 (by decide) (by omega) (by omega) (fun h197 => ?_) (fun h197 => ?_)
                                · refine r_iload C dX5_does_220 rfl ?_
                                  refine r_if_eq (tgt := 236) C dX5_does_222 (by decide) (by omega) (fun h222 => ?_) (fun h222 => ?_)
                                  · first
                                    | (exfalso; first | omega | contradiction)
                                    | refine r_iload C dX5_does_236 rfl ?_
                                      exact r_zretD C dX5_does_238 (by first | omega | exact gB_01 _) (by unfold dOk; rw [if_neg (by decide), if_neg (by decide), if_pos rfl]; first | exact (gB_t (by first | assumption | omega)).symm | exact (gB_f (by first | assumption | omega)).symm) (by unfold dS; rw [if_neg (by decide), if_neg (by decide), if_pos rfl]; first | rw [if_pos (show mayL s r ((r + 1) % 6) by first | assumption | omega)] | rw [if_neg (show ¬ (mayL s r ((r + 1) % 6)) by first | assumption | omega)])
                                  · first
                                    | (exfalso; first | omega | contradiction)
                                    | refine r_aload_n C dX5_does_225 rfl rfl ?_
                                      refine mm_get C flX5_7 dX5_does_226 hm rfl ?_
                                      refine r_iload_n C dX5_does_229 rfl rfl ?_
                                      refine r_iload C dX5_does_230 rfl ?_
                                      refine r_cS C cwX5_107 (liftN (c_X5_keeps (by omega) (by omega) (by omega))) dX5_does_232 rfl rfl rfl (Nat.le_of_ble_eq_true rfl) ⟨Nat.le_of_ble_eq_true rfl, Nat.le_of_ble_eq_true rfl⟩ ⟨Nat.le_of_ble_eq_true rfl, Nat.le_of_ble_eq_true rfl⟩ ?_
                                      refine r_pop C dX5_does_235 rfl ?_
                                      refine r_iload C dX5_does_236 rfl ?_
                                      exact r_zretD C dX5_does_238 (by first | omega | exact gB_01 _) (by unfold dOk; rw [if_neg (by decide), if_neg (by decide), if_pos rfl]; first | exact (gB_t (by first | assumption | omega)).symm | exact (gB_f (by first | assumption | omega)).symm) (by unfold dS; rw [if_neg (by decide), if_neg (by decide), if_pos rfl]; first | rw [if_pos (show mayL s r ((r + 1) % 6) by first | assumption | omega)] | rw [if_neg (show ¬ (mayL s r ((r + 1) % 6)) by first | assumption | omega)])
                                · (exfalso; omega)
                          · (exfalso; omega)
                  · first
                    | (exfalso; first | omega | contradiction)
                    | refine r_aload_n C dX5_does_156 rfl rfl ?_
                      refine mm_get C flX5_7 dX5_does_157 hm rfl ?_
                      refine r_iload_n C dX5_does_160 rfl rfl ?_
                      refine r_cSv C cwX5_73 (liftN (c_X5_lights (by omega) (by omega))) dX5_does_161 rfl rfl rfl (Nat.le_of_ble_eq_true rfl) ⟨Nat.le_of_ble_eq_true rfl, Nat.le_of_ble_eq_true rfl⟩ ⟨Nat.le_of_ble_eq_true rfl, Nat.le_of_ble_eq_true rfl⟩ ?_
                      refine r_goto (tgt := 236) C dX5_does_164 (by decide) ?_
                      refine r_iload C dX5_does_236 rfl ?_
                      exact r_zretD C dX5_does_238 (by first | omega | exact gB_01 _) (by unfold dOk; rw [if_neg (by decide), if_neg (by decide), if_pos rfl]; first | exact (gB_t (by first | assumption | omega)).symm | exact (gB_f (by first | assumption | omega)).symm) (by unfold dS; rw [if_neg (by decide), if_neg (by decide), if_pos rfl]; first | rw [if_pos (show mayL s r ((r + 1) % 6) by first | assumption | omega)] | rw [if_neg (show ¬ (mayL s r ((r + 1) % 6)) by first | assumption | omega)])
              · first
                | (exfalso; first | omega | contradiction)
                | refine r_iload_n C dX5_does_104 rfl rfl ?_
                  refine r_bipush C dX5_does_105 (by decide) ?_
                  refine r_icmp_ne (tgt := 119) C dX5_does_107 (by decide) (by omega) (by omega) (fun h107 => ?_) (fun h107 => ?_)
                  · refine r_iload_n C dX5_does_119 rfl rfl ?_
                    refine r_bipush C dX5_does_120 (by decide) ?_
                    refine r_icmp_eq (tgt := 144) C dX5_does_122 (by decide) (by omega) (by omega) (fun h122 => ?_) (fun h122 => ?_)
                    · (exfalso; omega)
                    · refine r_iload_n C dX5_does_125 rfl rfl ?_
                      refine r_bipush C dX5_does_126 (by decide) ?_
                      refine r_icmp_ne (tgt := 148) C dX5_does_128 (by decide) (by omega) (by omega) (fun h128 => ?_) (fun h128 => ?_)
                      · refine r_iconst C dX5_does_148 ?_
                        refine r_istore C dX5_does_149 (Nat.le_of_ble_eq_true rfl) rfl ?_
                        dsimp only [List.set]
                        refine r_iload C dX5_does_151 rfl ?_
                        refine r_if_eq (tgt := 167) C dX5_does_153 (by decide) (by omega) (fun h153 => ?_) (fun h153 => ?_)
                        · first
                          | (exfalso; first | omega | contradiction)
                          | refine r_iload C dX5_does_167 rfl ?_
                            refine r_if_eq (tgt := 189) C dX5_does_169 (by decide) (by omega) (fun h169 => ?_) (fun h169 => ?_)
                            · first
                              | (exfalso; first | omega | contradiction)
                              | refine r_iload C dX5_does_189 rfl ?_
                                refine r_if_eq (tgt := 220) C dX5_does_191 (by decide) (by omega) (fun h191 => ?_) (fun h191 => ?_)
                                · first
                                  | (exfalso; first | omega | contradiction)
                                  | refine r_iload C dX5_does_220 rfl ?_
                                    refine r_if_eq (tgt := 236) C dX5_does_222 (by decide) (by omega) (fun h222 => ?_) (fun h222 => ?_)
                                    · first
                                      | (exfalso; first | omega | contradiction)
                                      | refine r_iload C dX5_does_236 rfl ?_
                                        exact r_zretD C dX5_does_238 (by first | omega | exact gB_01 _) (by unfold dOk; rw [if_neg (by decide), if_neg (by decide), if_pos rfl]; first | exact (gB_t (by first | assumption | omega)).symm | exact (gB_f (by first | assumption | omega)).symm) (by unfold dS; rw [if_neg (by decide), if_neg (by decide), if_pos rfl]; first | rw [if_pos (show mayL s r ((r + 1) % 6) by first | assumption | omega)] | rw [if_neg (show ¬ (mayL s r ((r + 1) % 6)) by first | assumption | omega)])
                                    · first
                                      | (exfalso; first | omega | contradiction)
                                      | refine r_aload_n C dX5_does_225 rfl rfl ?_
                                        refine mm_get C flX5_7 dX5_does_226 hm rfl ?_
                                        refine r_iload_n C dX5_does_229 rfl rfl ?_
                                        refine r_iload C dX5_does_230 rfl ?_
                                        refine r_cS C cwX5_107 (liftN (c_X5_keeps (by omega) (by omega) (by omega))) dX5_does_232 rfl rfl rfl (Nat.le_of_ble_eq_true rfl) ⟨Nat.le_of_ble_eq_true rfl, Nat.le_of_ble_eq_true rfl⟩ ⟨Nat.le_of_ble_eq_true rfl, Nat.le_of_ble_eq_true rfl⟩ ?_
                                        refine r_pop C dX5_does_235 rfl ?_
                                        refine r_iload C dX5_does_236 rfl ?_
                                        exact r_zretD C dX5_does_238 (by first | omega | exact gB_01 _) (by unfold dOk; rw [if_neg (by decide), if_neg (by decide), if_pos rfl]; first | exact (gB_t (by first | assumption | omega)).symm | exact (gB_f (by first | assumption | omega)).symm) (by unfold dS; rw [if_neg (by decide), if_neg (by decide), if_pos rfl]; first | rw [if_pos (show mayL s r ((r + 1) % 6) by first | assumption | omega)] | rw [if_neg (show ¬ (mayL s r ((r + 1) % 6)) by first | assumption | omega)])
                                · first
                                  | (exfalso; first | omega | contradiction)
                                  | refine r_iload_n C dX5_does_194 rfl rfl ?_
                                    refine r_bipush C dX5_does_195 (by decide) ?_
                                    refine r_icmp_ne (tgt := 220) C dX5_does_197 (by decide) (by omega) (by omega) (fun h197 => ?_) (fun h197 => ?_)
                                    · refine r_iload C dX5_does_220 rfl ?_
                                      refine r_if_eq (tgt := 236) C dX5_does_222 (by decide) (by omega) (fun h222 => ?_) (fun h222 => ?_)
                                      · first
                                        | (exfalso; first | omega | contradiction)
                                        | refine r_iload C dX5_does_236 rfl ?_
                                          exact r_zretD C dX5_does_238 (by first | omega | exact gB_01 _) (by unfold dOk; rw [if_neg (by decide), if_neg (by decide), if_pos rfl]; first | exact (gB_t (by first | assumption | omega)).symm | exact (gB_f (by first | assumption | omega)).symm) (by unfold dS; rw [if_neg (by decide), if_neg (by decide), if_pos rfl]; first | rw [if_pos (show mayL s r ((r + 1) % 6) by first | assumption | omega)] | rw [if_neg (show ¬ (mayL s r ((r + 1) % 6)) by first | assumption | omega)])
                                      · first
                                        | (exfalso; first | omega | contradiction)
                                        | refine r_aload_n C dX5_does_225 rfl rfl ?_
                                          refine mm_get C flX5_7 dX5_does_226 hm rfl ?_
                                          refine r_iload_n C dX5_does_229 rfl rfl ?_
                                          refine r_iload C dX5_does_230 rfl ?_
                                          refine r_cS C cwX5_107 (liftN (c_X5_keeps (by omega) (by omega) (by omega))) dX5_does_232 rfl rfl rfl (Nat.le_of_ble_eq_true rfl) ⟨Nat.le_of_ble_eq_true rfl, Nat.le_of_ble_eq_true rfl⟩ ⟨Nat.le_of_ble_eq_true rfl, Nat.le_of_ble_eq_true rfl⟩ ?_
                                          refine r_pop C dX5_does_235 rfl ?_
                                          refine r_iload C dX5_does_236 rfl ?_
                                          exact r_zretD C dX5_does_238 (by first | omega | exact gB_01 _) (by unfold dOk; rw [if_neg (by decide), if_neg (by decide), if_pos rfl]; first | exact (gB_t (by first | assumption | omega)).symm | exact (gB_f (by first | assumption | omega)).symm) (by unfold dS; rw [if_neg (by decide), if_neg (by decide), if_pos rfl]; first | rw [if_pos (show mayL s r ((r + 1) % 6) by first | assumption | omega)] | rw [if_neg (show ¬ (mayL s r ((r + 1) % 6)) by first | assumption | omega)])
                                    · (exfalso; omega)
                            · first
                              | (exfalso; first | omega | contradiction)
                              | refine r_iload_n C dX5_does_172 rfl rfl ?_
                                refine r_bipush C dX5_does_173 (by decide) ?_
                                refine r_icmp_ne (tgt := 189) C dX5_does_175 (by decide) (by omega) (by omega) (fun h175 => ?_) (fun h175 => ?_)
                                · refine r_iload C dX5_does_189 rfl ?_
                                  refine r_if_eq (tgt := 220) C dX5_does_191 (by decide) (by omega) (fun h191 => ?_) (fun h191 => ?_)
                                  · first
                                    | (exfalso; first | omega | contradiction)
                                    | refine r_iload C dX5_does_220 rfl ?_
                                      refine r_if_eq (tgt := 236) C dX5_does_222 (by decide) (by omega) (fun h222 => ?_) (fun h222 => ?_)
                                      · first
                                        | (exfalso; first | omega | contradiction)
                                        | refine r_iload C dX5_does_236 rfl ?_
                                          exact r_zretD C dX5_does_238 (by first | omega | exact gB_01 _) (by unfold dOk; rw [if_neg (by decide), if_neg (by decide), if_pos rfl]; first | exact (gB_t (by first | assumption | omega)).symm | exact (gB_f (by first | assumption | omega)).symm) (by unfold dS; rw [if_neg (by decide), if_neg (by decide), if_pos rfl]; first | rw [if_pos (show mayL s r ((r + 1) % 6) by first | assumption | omega)] | rw [if_neg (show ¬ (mayL s r ((r + 1) % 6)) by first | assumption | omega)])
                                      · first
                                        | (exfalso; first | omega | contradiction)
                                        | refine r_aload_n C dX5_does_225 rfl rfl ?_
                                          refine mm_get C flX5_7 dX5_does_226 hm rfl ?_
                                          refine r_iload_n C dX5_does_229 rfl rfl ?_
                                          refine r_iload C dX5_does_230 rfl ?_
                                          refine r_cS C cwX5_107 (liftN (c_X5_keeps (by omega) (by omega) (by omega))) dX5_does_232 rfl rfl rfl (Nat.le_of_ble_eq_true rfl) ⟨Nat.le_of_ble_eq_true rfl, Nat.le_of_ble_eq_true rfl⟩ ⟨Nat.le_of_ble_eq_true rfl, Nat.le_of_ble_eq_true rfl⟩ ?_
                                          refine r_pop C dX5_does_235 rfl ?_
                                          refine r_iload C dX5_does_236 rfl ?_
                                          exact r_zretD C dX5_does_238 (by first | omega | exact gB_01 _) (by unfold dOk; rw [if_neg (by decide), if_neg (by decide), if_pos rfl]; first | exact (gB_t (by first | assumption | omega)).symm | exact (gB_f (by first | assumption | omega)).symm) (by unfold dS; rw [if_neg (by decide), if_neg (by decide), if_pos rfl]; first | rw [if_pos (show mayL s r ((r + 1) % 6) by first | assumption | omega)] | rw [if_neg (show ¬ (mayL s r ((r + 1) % 6)) by first | assumption | omega)])
                                  · first
                                    | (exfalso; first | omega | contradiction)
                                    | refine r_iload_n C dX5_does_194 rfl rfl ?_
                                      refine r_bipush C dX5_does_195 (by decide) ?_
                                      refine r_icmp_ne (tgt := 220) C dX5_does_197 (by decide) (by omega) (by omega) (fun h197 => ?_) (fun h197 => ?_)
                                      · refine r_iload C dX5_does_220 rfl ?_
                                        refine r_if_eq (tgt := 236) C dX5_does_222 (by decide) (by omega) (fun h222 => ?_) (fun h222 => ?_)
                                        · first
                                          | (exfalso; first | omega | contradiction)
                                          | refine r_iload C dX5_does_236 rfl ?_
                                            exact r_zretD C dX5_does_238 (by first | omega | exact gB_01 _) (by unfold dOk; rw [if_neg (by decide), if_neg (by decide), if_pos rfl]; first | exact (gB_t (by first | assumption | omega)).symm | exact (gB_f (by first | assumption | omega)).symm) (by unfold dS; rw [if_neg (by decide), if_neg (by decide), if_pos rfl]; first | rw [if_pos (show mayL s r ((r + 1) % 6) by first | assumption | omega)] | rw [if_neg (show ¬ (mayL s r ((r + 1) % 6)) by first | assumption | omega)])
                                        · first
                                          | (exfalso; first | omega | contradiction)
                                          | refine r_aload_n C dX5_does_225 rfl rfl ?_
                                            refine mm_get C flX5_7 dX5_does_226 hm rfl ?_
                                            refine r_iload_n C dX5_does_229 rfl rfl ?_
                                            refine r_iload C dX5_does_230 rfl ?_
                                            refine r_cS C cwX5_107 (liftN (c_X5_keeps (by omega) (by omega) (by omega))) dX5_does_232 rfl rfl rfl (Nat.le_of_ble_eq_true rfl) ⟨Nat.le_of_ble_eq_true rfl, Nat.le_of_ble_eq_true rfl⟩ ⟨Nat.le_of_ble_eq_true rfl, Nat.le_of_ble_eq_true rfl⟩ ?_
                                            refine r_pop C dX5_does_235 rfl ?_
                                            refine r_iload C dX5_does_236 rfl ?_
                                            exact r_zretD C dX5_does_238 (by first | omega | exact gB_01 _) (by unfold dOk; rw [if_neg (by decide), if_neg (by decide), if_pos rfl]; first | exact (gB_t (by first | assumption | omega)).symm | exact (gB_f (by first | assumption | omega)).symm) (by unfold dS; rw [if_neg (by decide), if_neg (by decide), if_pos rfl]; first | rw [if_pos (show mayL s r ((r + 1) % 6) by first | assumption | omega)] | rw [if_neg (show ¬ (mayL s r ((r + 1) % 6)) by first | assumption | omega)])
                                      · (exfalso; omega)
                                · (exfalso; omega)
                        · first
                          | (exfalso; first | omega | contradiction)
                          | refine r_aload_n C dX5_does_156 rfl rfl ?_
                            refine mm_get C flX5_7 dX5_does_157 hm rfl ?_
                            refine r_iload_n C dX5_does_160 rfl rfl ?_
                            refine r_cSv C cwX5_73 (liftN (c_X5_lights (by omega) (by omega))) dX5_does_161 rfl rfl rfl (Nat.le_of_ble_eq_true rfl) ⟨Nat.le_of_ble_eq_true rfl, Nat.le_of_ble_eq_true rfl⟩ ⟨Nat.le_of_ble_eq_true rfl, Nat.le_of_ble_eq_true rfl⟩ ?_
                            refine r_goto (tgt := 236) C dX5_does_164 (by decide) ?_
                            refine r_iload C dX5_does_236 rfl ?_
                            exact r_zretD C dX5_does_238 (by first | omega | exact gB_01 _) (by unfold dOk; rw [if_neg (by decide), if_neg (by decide), if_pos rfl]; first | exact (gB_t (by first | assumption | omega)).symm | exact (gB_f (by first | assumption | omega)).symm) (by unfold dS; rw [if_neg (by decide), if_neg (by decide), if_pos rfl]; first | rw [if_pos (show mayL s r ((r + 1) % 6) by first | assumption | omega)] | rw [if_neg (show ¬ (mayL s r ((r + 1) % 6)) by first | assumption | omega)])
                      · (exfalso; omega)
                  · (exfalso; omega)
            · refine r_iconst C dX5_does_92 ?_
              refine r_goto (tgt := 97) C dX5_does_93 (by decide) ?_
              refine r_istore C dX5_does_97 (Nat.le_of_ble_eq_true rfl) rfl ?_
              dsimp only [List.set]
              refine r_iload C dX5_does_99 rfl ?_
              refine r_if_ne (tgt := 144) C dX5_does_101 (by decide) (by omega) (fun h101 => ?_) (fun h101 => ?_)
              · first
                | (exfalso; first | omega | contradiction)
                | refine r_iconst C dX5_does_144 ?_
                  refine r_goto (tgt := 149) C dX5_does_145 (by decide) ?_
                  refine r_istore C dX5_does_149 (Nat.le_of_ble_eq_true rfl) rfl ?_
                  dsimp only [List.set]
                  refine r_iload C dX5_does_151 rfl ?_
                  refine r_if_eq (tgt := 167) C dX5_does_153 (by decide) (by omega) (fun h153 => ?_) (fun h153 => ?_)
                  · first
                    | (exfalso; first | omega | contradiction)
                    | refine r_iload C dX5_does_167 rfl ?_
                      refine r_if_eq (tgt := 189) C dX5_does_169 (by decide) (by omega) (fun h169 => ?_) (fun h169 => ?_)
                      · first
                        | (exfalso; first | omega | contradiction)
                        | refine r_iload C dX5_does_189 rfl ?_
                          refine r_if_eq (tgt := 220) C dX5_does_191 (by decide) (by omega) (fun h191 => ?_) (fun h191 => ?_)
                          · first
                            | (exfalso; first | omega | contradiction)
                            | refine r_iload C dX5_does_220 rfl ?_
                              refine r_if_eq (tgt := 236) C dX5_does_222 (by decide) (by omega) (fun h222 => ?_) (fun h222 => ?_)
                              · first
                                | (exfalso; first | omega | contradiction)
                                | refine r_iload C dX5_does_236 rfl ?_
                                  exact r_zretD C dX5_does_238 (by first | omega | exact gB_01 _) (by unfold dOk; rw [if_neg (by decide), if_neg (by decide), if_pos rfl]; first | exact (gB_t (by first | assumption | omega)).symm | exact (gB_f (by first | assumption | omega)).symm) (by unfold dS; rw [if_neg (by decide), if_neg (by decide), if_pos rfl]; first | rw [if_pos (show mayL s r ((r + 1) % 6) by first | assumption | omega)] | rw [if_neg (show ¬ (mayL s r ((r + 1) % 6)) by first | assumption | omega)])
                              · first
                                | (exfalso; first | omega | contradiction)
                                | refine r_aload_n C dX5_does_225 rfl rfl ?_
                                  refine mm_get C flX5_7 dX5_does_226 hm rfl ?_
                                  refine r_iload_n C dX5_does_229 rfl rfl ?_
                                  refine r_iload C dX5_does_230 rfl ?_
                                  refine r_cS C cwX5_107 (liftN (c_X5_keeps (by omega) (by omega) (by omega))) dX5_does_232 rfl rfl rfl (Nat.le_of_ble_eq_true rfl) ⟨Nat.le_of_ble_eq_true rfl, Nat.le_of_ble_eq_true rfl⟩ ⟨Nat.le_of_ble_eq_true rfl, Nat.le_of_ble_eq_true rfl⟩ ?_
                                  refine r_pop C dX5_does_235 rfl ?_
                                  refine r_iload C dX5_does_236 rfl ?_
                                  exact r_zretD C dX5_does_238 (by first | omega | exact gB_01 _) (by unfold dOk; rw [if_neg (by decide), if_neg (by decide), if_pos rfl]; first | exact (gB_t (by first | assumption | omega)).symm | exact (gB_f (by first | assumption | omega)).symm) (by unfold dS; rw [if_neg (by decide), if_neg (by decide), if_pos rfl]; first | rw [if_pos (show mayL s r ((r + 1) % 6) by first | assumption | omega)] | rw [if_neg (show ¬ (mayL s r ((r + 1) % 6)) by first | assumption | omega)])
                          · first
                            | (exfalso; first | omega | contradiction)
                            | refine r_iload_n C dX5_does_194 rfl rfl ?_
                              refine r_bipush C dX5_does_195 (by decide) ?_
                              refine r_icmp_ne (tgt := 220) C dX5_does_197 (by decide) (by omega) (by omega) (fun h197 => ?_) (fun h197 => ?_)
                              · refine r_iload C dX5_does_220 rfl ?_
                                refine r_if_eq (tgt := 236) C dX5_does_222 (by decide) (by omega) (fun h222 => ?_) (fun h222 => ?_)
                                · first
                                  | (exfalso; first | omega | contradiction)
                                  | refine r_iload C dX5_does_236 rfl ?_
                                    exact r_zretD C dX5_does_238 (by first | omega | exact gB_01 _) (by unfold dOk; rw [if_neg (by decide), if_neg (by decide), if_pos rfl]; first | exact (gB_t (by first | assumption | omega)).symm | exact (gB_f (by first | assumption | omega)).symm) (by unfold dS; rw [if_neg (by decide), if_neg (by decide), if_pos rfl]; first | rw [if_pos (show mayL s r ((r + 1) % 6) by first | assumption | omega)] | rw [if_neg (show ¬ (mayL s r ((r + 1) % 6)) by first | assumption | omega)])
                                · first
                                  | (exfalso; first | omega | contradiction)
                                  | refine r_aload_n C dX5_does_225 rfl rfl ?_
                                    refine mm_get C flX5_7 dX5_does_226 hm rfl ?_
                                    refine r_iload_n C dX5_does_229 rfl rfl ?_
                                    refine r_iload C dX5_does_230 rfl ?_
                                    refine r_cS C cwX5_107 (liftN (c_X5_keeps (by omega) (by omega) (by omega))) dX5_does_232 rfl rfl rfl (Nat.le_of_ble_eq_true rfl) ⟨Nat.le_of_ble_eq_true rfl, Nat.le_of_ble_eq_true rfl⟩ ⟨Nat.le_of_ble_eq_true rfl, Nat.le_of_ble_eq_true rfl⟩ ?_
                                    refine r_pop C dX5_does_235 rfl ?_
                                    refine r_iload C dX5_does_236 rfl ?_
                                    exact r_zretD C dX5_does_238 (by first | omega | exact gB_01 _) (by unfold dOk; rw [if_neg (by decide), if_neg (by decide), if_pos rfl]; first | exact (gB_t (by first | assumption | omega)).symm | exact (gB_f (by first | assumption | omega)).symm) (by unfold dS; rw [if_neg (by decide), if_neg (by decide), if_pos rfl]; first | rw [if_pos (show mayL s r ((r + 1) % 6) by first | assumption | omega)] | rw [if_neg (show ¬ (mayL s r ((r + 1) % 6)) by first | assumption | omega)])
                              · (exfalso; omega)
                      · first
                        | (exfalso; first | omega | contradiction)
                        | refine r_iload_n C dX5_does_172 rfl rfl ?_
                          refine r_bipush C dX5_does_173 (by decide) ?_
                          refine r_icmp_ne (tgt := 189) C dX5_does_175 (by decide) (by omega) (by omega) (fun h175 => ?_) (fun h175 => ?_)
                          · refine r_iload C dX5_does_189 rfl ?_
                            refine r_if_eq (tgt := 220) C dX5_does_191 (by decide) (by omega) (fun h191 => ?_) (fun h191 => ?_)
                            · first
                              | (exfalso; first | omega | contradiction)
                              | refine r_iload C dX5_does_220 rfl ?_
                                refine r_if_eq (tgt := 236) C dX5_does_222 (by decide) (by omega) (fun h222 => ?_) (fun h222 => ?_)
                                · first
                                  | (exfalso; first | omega | contradiction)
                                  | refine r_iload C dX5_does_236 rfl ?_
                                    exact r_zretD C dX5_does_238 (by first | omega | exact gB_01 _) (by unfold dOk; rw [if_neg (by decide), if_neg (by decide), if_pos rfl]; first | exact (gB_t (by first | assumption | omega)).symm | exact (gB_f (by first | assumption | omega)).symm) (by unfold dS; rw [if_neg (by decide), if_neg (by decide), if_pos rfl]; first | rw [if_pos (show mayL s r ((r + 1) % 6) by first | assumption | omega)] | rw [if_neg (show ¬ (mayL s r ((r + 1) % 6)) by first | assumption | omega)])
                                · first
                                  | (exfalso; first | omega | contradiction)
                                  | refine r_aload_n C dX5_does_225 rfl rfl ?_
                                    refine mm_get C flX5_7 dX5_does_226 hm rfl ?_
                                    refine r_iload_n C dX5_does_229 rfl rfl ?_
                                    refine r_iload C dX5_does_230 rfl ?_
                                    refine r_cS C cwX5_107 (liftN (c_X5_keeps (by omega) (by omega) (by omega))) dX5_does_232 rfl rfl rfl (Nat.le_of_ble_eq_true rfl) ⟨Nat.le_of_ble_eq_true rfl, Nat.le_of_ble_eq_true rfl⟩ ⟨Nat.le_of_ble_eq_true rfl, Nat.le_of_ble_eq_true rfl⟩ ?_
                                    refine r_pop C dX5_does_235 rfl ?_
                                    refine r_iload C dX5_does_236 rfl ?_
                                    exact r_zretD C dX5_does_238 (by first | omega | exact gB_01 _) (by unfold dOk; rw [if_neg (by decide), if_neg (by decide), if_pos rfl]; first | exact (gB_t (by first | assumption | omega)).symm | exact (gB_f (by first | assumption | omega)).symm) (by unfold dS; rw [if_neg (by decide), if_neg (by decide), if_pos rfl]; first | rw [if_pos (show mayL s r ((r + 1) % 6) by first | assumption | omega)] | rw [if_neg (show ¬ (mayL s r ((r + 1) % 6)) by first | assumption | omega)])
                            · first
                              | (exfalso; first | omega | contradiction)
                              | refine r_iload_n C dX5_does_194 rfl rfl ?_
                                refine r_bipush C dX5_does_195 (by decide) ?_
                                refine r_icmp_ne (tgt := 220) C dX5_does_197 (by decide) (by omega) (by omega) (fun h197 => ?_) (fun h197 => ?_)
                                · refine r_iload C dX5_does_220 rfl ?_
                                  refine r_if_eq (tgt := 236) C dX5_does_222 (by decide) (by omega) (fun h222 => ?_) (fun h222 => ?_)
                                  · first
                                    | (exfalso; first | omega | contradiction)
                                    | refine r_iload C dX5_does_236 rfl ?_
                                      exact r_zretD C dX5_does_238 (by first | omega | exact gB_01 _) (by unfold dOk; rw [if_neg (by decide), if_neg (by decide), if_pos rfl]; first | exact (gB_t (by first | assumption | omega)).symm | exact (gB_f (by first | assumption | omega)).symm) (by unfold dS; rw [if_neg (by decide), if_neg (by decide), if_pos rfl]; first | rw [if_pos (show mayL s r ((r + 1) % 6) by first | assumption | omega)] | rw [if_neg (show ¬ (mayL s r ((r + 1) % 6)) by first | assumption | omega)])
                                  · first
                                    | (exfalso; first | omega | contradiction)
                                    | refine r_aload_n C dX5_does_225 rfl rfl ?_
                                      refine mm_get C flX5_7 dX5_does_226 hm rfl ?_
                                      refine r_iload_n C dX5_does_229 rfl rfl ?_
                                      refine r_iload C dX5_does_230 rfl ?_
                                      refine r_cS C cwX5_107 (liftN (c_X5_keeps (by omega) (by omega) (by omega))) dX5_does_232 rfl rfl rfl (Nat.le_of_ble_eq_true rfl) ⟨Nat.le_of_ble_eq_true rfl, Nat.le_of_ble_eq_true rfl⟩ ⟨Nat.le_of_ble_eq_true rfl, Nat.le_of_ble_eq_true rfl⟩ ?_
                                      refine r_pop C dX5_does_235 rfl ?_
                                      refine r_iload C dX5_does_236 rfl ?_
                                      exact r_zretD C dX5_does_238 (by first | omega | exact gB_01 _) (by unfold dOk; rw [if_neg (by decide), if_neg (by decide), if_pos rfl]; first | exact (gB_t (by first | assumption | omega)).symm | exact (gB_f (by first | assumption | omega)).symm) (by unfold dS; rw [if_neg (by decide), if_neg (by decide), if_pos rfl]; first | rw [if_pos (show mayL s r ((r + 1) % 6) by first | assumption | omega)] | rw [if_neg (show ¬ (mayL s r ((r + 1) % 6)) by first | assumption | omega)])
                                · (exfalso; omega)
                          · (exfalso; omega)
                  · first
                    | (exfalso; first | omega | contradiction)
                    | refine r_aload_n C dX5_does_156 rfl rfl ?_
                      refine mm_get C flX5_7 dX5_does_157 hm rfl ?_
                      refine r_iload_n C dX5_does_160 rfl rfl ?_
                      refine r_cSv C cwX5_73 (liftN (c_X5_lights (by omega) (by omega))) dX5_does_161 rfl rfl rfl (Nat.le_of_ble_eq_true rfl) ⟨Nat.le_of_ble_eq_true rfl, Nat.le_of_ble_eq_true rfl⟩ ⟨Nat.le_of_ble_eq_true rfl, Nat.le_of_ble_eq_true rfl⟩ ?_
                      refine r_goto (tgt := 236) C dX5_does_164 (by decide) ?_
                      refine r_iload C dX5_does_236 rfl ?_
                      exact r_zretD C dX5_does_238 (by first | omega | exact gB_01 _) (by unfold dOk; rw [if_neg (by decide), if_neg (by decide), if_pos rfl]; first | exact (gB_t (by first | assumption | omega)).symm | exact (gB_f (by first | assumption | omega)).symm) (by unfold dS; rw [if_neg (by decide), if_neg (by decide), if_pos rfl]; first | rw [if_pos (show mayL s r ((r + 1) % 6) by first | assumption | omega)] | rw [if_neg (show ¬ (mayL s r ((r + 1) % 6)) by first | assumption | omega)])
              · first
                | (exfalso; first | omega | contradiction)
                | refine r_iload_n C dX5_does_104 rfl rfl ?_
                  refine r_bipush C dX5_does_105 (by decide) ?_
                  refine r_icmp_ne (tgt := 119) C dX5_does_107 (by decide) (by omega) (by omega) (fun h107 => ?_) (fun h107 => ?_)
                  · refine r_iload_n C dX5_does_119 rfl rfl ?_
                    refine r_bipush C dX5_does_120 (by decide) ?_
                    refine r_icmp_eq (tgt := 144) C dX5_does_122 (by decide) (by omega) (by omega) (fun h122 => ?_) (fun h122 => ?_)
                    · (exfalso; omega)
                    · refine r_iload_n C dX5_does_125 rfl rfl ?_
                      refine r_bipush C dX5_does_126 (by decide) ?_
                      refine r_icmp_ne (tgt := 148) C dX5_does_128 (by decide) (by omega) (by omega) (fun h128 => ?_) (fun h128 => ?_)
                      · refine r_iconst C dX5_does_148 ?_
                        refine r_istore C dX5_does_149 (Nat.le_of_ble_eq_true rfl) rfl ?_
                        dsimp only [List.set]
                        refine r_iload C dX5_does_151 rfl ?_
                        refine r_if_eq (tgt := 167) C dX5_does_153 (by decide) (by omega) (fun h153 => ?_) (fun h153 => ?_)
                        · first
                          | (exfalso; first | omega | contradiction)
                          | refine r_iload C dX5_does_167 rfl ?_
                            refine r_if_eq (tgt := 189) C dX5_does_169 (by decide) (by omega) (fun h169 => ?_) (fun h169 => ?_)
                            · first
                              | (exfalso; first | omega | contradiction)
                              | refine r_iload C dX5_does_189 rfl ?_
                                refine r_if_eq (tgt := 220) C dX5_does_191 (by decide) (by omega) (fun h191 => ?_) (fun h191 => ?_)
                                · first
                                  | (exfalso; first | omega | contradiction)
                                  | refine r_iload C dX5_does_220 rfl ?_
                                    refine r_if_eq (tgt := 236) C dX5_does_222 (by decide) (by omega) (fun h222 => ?_) (fun h222 => ?_)
                                    · first
                                      | (exfalso; first | omega | contradiction)
                                      | refine r_iload C dX5_does_236 rfl ?_
                                        exact r_zretD C dX5_does_238 (by first | omega | exact gB_01 _) (by unfold dOk; rw [if_neg (by decide), if_neg (by decide), if_pos rfl]; first | exact (gB_t (by first | assumption | omega)).symm | exact (gB_f (by first | assumption | omega)).symm) (by unfold dS; rw [if_neg (by decide), if_neg (by decide), if_pos rfl]; first | rw [if_pos (show mayL s r ((r + 1) % 6) by first | assumption | omega)] | rw [if_neg (show ¬ (mayL s r ((r + 1) % 6)) by first | assumption | omega)])
                                    · first
                                      | (exfalso; first | omega | contradiction)
                                      | refine r_aload_n C dX5_does_225 rfl rfl ?_
                                        refine mm_get C flX5_7 dX5_does_226 hm rfl ?_
                                        refine r_iload_n C dX5_does_229 rfl rfl ?_
                                        refine r_iload C dX5_does_230 rfl ?_
                                        refine r_cS C cwX5_107 (liftN (c_X5_keeps (by omega) (by omega) (by omega))) dX5_does_232 rfl rfl rfl (Nat.le_of_ble_eq_true rfl) ⟨Nat.le_of_ble_eq_true rfl, Nat.le_of_ble_eq_true rfl⟩ ⟨Nat.le_of_ble_eq_true rfl, Nat.le_of_ble_eq_true rfl⟩ ?_
                                        refine r_pop C dX5_does_235 rfl ?_
                                        refine r_iload C dX5_does_236 rfl ?_
                                        exact r_zretD C dX5_does_238 (by first | omega | exact gB_01 _) (by unfold dOk; rw [if_neg (by decide), if_neg (by decide), if_pos rfl]; first | exact (gB_t (by first | assumption | omega)).symm | exact (gB_f (by first | assumption | omega)).symm) (by unfold dS; rw [if_neg (by decide), if_neg (by decide), if_pos rfl]; first | rw [if_pos (show mayL s r ((r + 1) % 6) by first | assumption | omega)] | rw [if_neg (show ¬ (mayL s r ((r + 1) % 6)) by first | assumption | omega)])
                                · first
                                  | (exfalso; first | omega | contradiction)
                                  | refine r_iload_n C dX5_does_194 rfl rfl ?_
                                    refine r_bipush C dX5_does_195 (by decide) ?_
                                    refine r_icmp_ne (tgt := 220) C dX5_does_197 (by decide) (by omega) (by omega) (fun h197 => ?_) (fun h197 => ?_)
                                    · refine r_iload C dX5_does_220 rfl ?_
                                      refine r_if_eq (tgt := 236) C dX5_does_222 (by decide) (by omega) (fun h222 => ?_) (fun h222 => ?_)
                                      · first
                                        | (exfalso; first | omega | contradiction)
                                        | refine r_iload C dX5_does_236 rfl ?_
                                          exact r_zretD C dX5_does_238 (by first | omega | exact gB_01 _) (by unfold dOk; rw [if_neg (by decide), if_neg (by decide), if_pos rfl]; first | exact (gB_t (by first | assumption | omega)).symm | exact (gB_f (by first | assumption | omega)).symm) (by unfold dS; rw [if_neg (by decide), if_neg (by decide), if_pos rfl]; first | rw [if_pos (show mayL s r ((r + 1) % 6) by first | assumption | omega)] | rw [if_neg (show ¬ (mayL s r ((r + 1) % 6)) by first | assumption | omega)])
                                      · first
                                        | (exfalso; first | omega | contradiction)
                                        | refine r_aload_n C dX5_does_225 rfl rfl ?_
                                          refine mm_get C flX5_7 dX5_does_226 hm rfl ?_
                                          refine r_iload_n C dX5_does_229 rfl rfl ?_
                                          refine r_iload C dX5_does_230 rfl ?_
                                          refine r_cS C cwX5_107 (liftN (c_X5_keeps (by omega) (by omega) (by omega))) dX5_does_232 rfl rfl rfl (Nat.le_of_ble_eq_true rfl) ⟨Nat.le_of_ble_eq_true rfl, Nat.le_of_ble_eq_true rfl⟩ ⟨Nat.le_of_ble_eq_true rfl, Nat.le_of_ble_eq_true rfl⟩ ?_
                                          refine r_pop C dX5_does_235 rfl ?_
                                          refine r_iload C dX5_does_236 rfl ?_
                                          exact r_zretD C dX5_does_238 (by first | omega | exact gB_01 _) (by unfold dOk; rw [if_neg (by decide), if_neg (by decide), if_pos rfl]; first | exact (gB_t (by first | assumption | omega)).symm | exact (gB_f (by first | assumption | omega)).symm) (by unfold dS; rw [if_neg (by decide), if_neg (by decide), if_pos rfl]; first | rw [if_pos (show mayL s r ((r + 1) % 6) by first | assumption | omega)] | rw [if_neg (show ¬ (mayL s r ((r + 1) % 6)) by first | assumption | omega)])
                                    · (exfalso; omega)
                            · first
                              | (exfalso; first | omega | contradiction)
                              | refine r_iload_n C dX5_does_172 rfl rfl ?_
                                refine r_bipush C dX5_does_173 (by decide) ?_
                                refine r_icmp_ne (tgt := 189) C dX5_does_175 (by decide) (by omega) (by omega) (fun h175 => ?_) (fun h175 => ?_)
                                · refine r_iload C dX5_does_189 rfl ?_
                                  refine r_if_eq (tgt := 220) C dX5_does_191 (by decide) (by omega) (fun h191 => ?_) (fun h191 => ?_)
                                  · first
                                    | (exfalso; first | omega | contradiction)
                                    | refine r_iload C dX5_does_220 rfl ?_
                                      refine r_if_eq (tgt := 236) C dX5_does_222 (by decide) (by omega) (fun h222 => ?_) (fun h222 => ?_)
                                      · first
                                        | (exfalso; first | omega | contradiction)
                                        | refine r_iload C dX5_does_236 rfl ?_
                                          exact r_zretD C dX5_does_238 (by first | omega | exact gB_01 _) (by unfold dOk; rw [if_neg (by decide), if_neg (by decide), if_pos rfl]; first | exact (gB_t (by first | assumption | omega)).symm | exact (gB_f (by first | assumption | omega)).symm) (by unfold dS; rw [if_neg (by decide), if_neg (by decide), if_pos rfl]; first | rw [if_pos (show mayL s r ((r + 1) % 6) by first | assumption | omega)] | rw [if_neg (show ¬ (mayL s r ((r + 1) % 6)) by first | assumption | omega)])
                                      · first
                                        | (exfalso; first | omega | contradiction)
                                        | refine r_aload_n C dX5_does_225 rfl rfl ?_
                                          refine mm_get C flX5_7 dX5_does_226 hm rfl ?_
                                          refine r_iload_n C dX5_does_229 rfl rfl ?_
                                          refine r_iload C dX5_does_230 rfl ?_
                                          refine r_cS C cwX5_107 (liftN (c_X5_keeps (by omega) (by omega) (by omega))) dX5_does_232 rfl rfl rfl (Nat.le_of_ble_eq_true rfl) ⟨Nat.le_of_ble_eq_true rfl, Nat.le_of_ble_eq_true rfl⟩ ⟨Nat.le_of_ble_eq_true rfl, Nat.le_of_ble_eq_true rfl⟩ ?_
                                          refine r_pop C dX5_does_235 rfl ?_
                                          refine r_iload C dX5_does_236 rfl ?_
                                          exact r_zretD C dX5_does_238 (by first | omega | exact gB_01 _) (by unfold dOk; rw [if_neg (by decide), if_neg (by decide), if_pos rfl]; first | exact (gB_t (by first | assumption | omega)).symm | exact (gB_f (by first | assumption | omega)).symm) (by unfold dS; rw [if_neg (by decide), if_neg (by decide), if_pos rfl]; first | rw [if_pos (show mayL s r ((r + 1) % 6) by first | assumption | omega)] | rw [if_neg (show ¬ (mayL s r ((r + 1) % 6)) by first | assumption | omega)])
                                  · first
                                    | (exfalso; first | omega | contradiction)
                                    | refine r_iload_n C dX5_does_194 rfl rfl ?_
                                      refine r_bipush C dX5_does_195 (by decide) ?_
                                      refine r_icmp_ne (tgt := 220) C dX5_does_197 (by decide) (by omega) (by omega) (fun h197 => ?_) (fun h197 => ?_)
                                      · refine r_iload C dX5_does_220 rfl ?_
                                        refine r_if_eq (tgt := 236) C dX5_does_222 (by decide) (by omega) (fun h222 => ?_) (fun h222 => ?_)
                                        · first
                                          | (exfalso; first | omega | contradiction)
                                          | refine r_iload C dX5_does_236 rfl ?_
                                            exact r_zretD C dX5_does_238 (by first | omega | exact gB_01 _) (by unfold dOk; rw [if_neg (by decide), if_neg (by decide), if_pos rfl]; first | exact (gB_t (by first | assumption | omega)).symm | exact (gB_f (by first | assumption | omega)).symm) (by unfold dS; rw [if_neg (by decide), if_neg (by decide), if_pos rfl]; first | rw [if_pos (show mayL s r ((r + 1) % 6) by first | assumption | omega)] | rw [if_neg (show ¬ (mayL s r ((r + 1) % 6)) by first | assumption | omega)])
                                        · first
                                          | (exfalso; first | omega | contradiction)
                                          | refine r_aload_n C dX5_does_225 rfl rfl ?_
                                            refine mm_get C flX5_7 dX5_does_226 hm rfl ?_
                                            refine r_iload_n C dX5_does_229 rfl rfl ?_
                                            refine r_iload C dX5_does_230 rfl ?_
                                            refine r_cS C cwX5_107 (liftN (c_X5_keeps (by omega) (by omega) (by omega))) dX5_does_232 rfl rfl rfl (Nat.le_of_ble_eq_true rfl) ⟨Nat.le_of_ble_eq_true rfl, Nat.le_of_ble_eq_true rfl⟩ ⟨Nat.le_of_ble_eq_true rfl, Nat.le_of_ble_eq_true rfl⟩ ?_
                                            refine r_pop C dX5_does_235 rfl ?_
                                            refine r_iload C dX5_does_236 rfl ?_
                                            exact r_zretD C dX5_does_238 (by first | omega | exact gB_01 _) (by unfold dOk; rw [if_neg (by decide), if_neg (by decide), if_pos rfl]; first | exact (gB_t (by first | assumption | omega)).symm | exact (gB_f (by first | assumption | omega)).symm) (by unfold dS; rw [if_neg (by decide), if_neg (by decide), if_pos rfl]; first | rw [if_pos (show mayL s r ((r + 1) % 6) by first | assumption | omega)] | rw [if_neg (show ¬ (mayL s r ((r + 1) % 6)) by first | assumption | omega)])
                                      · (exfalso; omega)
                                · (exfalso; omega)
                        · first
                          | (exfalso; first | omega | contradiction)
                          | refine r_aload_n C dX5_does_156 rfl rfl ?_
                            refine mm_get C flX5_7 dX5_does_157 hm rfl ?_
                            refine r_iload_n C dX5_does_160 rfl rfl ?_
                            refine r_cSv C cwX5_73 (liftN (c_X5_lights (by omega) (by omega))) dX5_does_161 rfl rfl rfl (Nat.le_of_ble_eq_true rfl) ⟨Nat.le_of_ble_eq_true rfl, Nat.le_of_ble_eq_true rfl⟩ ⟨Nat.le_of_ble_eq_true rfl, Nat.le_of_ble_eq_true rfl⟩ ?_
                            refine r_goto (tgt := 236) C dX5_does_164 (by decide) ?_
                            refine r_iload C dX5_does_236 rfl ?_
                            exact r_zretD C dX5_does_238 (by first | omega | exact gB_01 _) (by unfold dOk; rw [if_neg (by decide), if_neg (by decide), if_pos rfl]; first | exact (gB_t (by first | assumption | omega)).symm | exact (gB_f (by first | assumption | omega)).symm) (by unfold dS; rw [if_neg (by decide), if_neg (by decide), if_pos rfl]; first | rw [if_pos (show mayL s r ((r + 1) % 6) by first | assumption | omega)] | rw [if_neg (show ¬ (mayL s r ((r + 1) % 6)) by first | assumption | omega)])
                      · (exfalso; omega)
                  · (exfalso; omega)
      · (exfalso; omega)
    · (exfalso; omega)
  · subst hw
    refine r_aload_n C dX5_does_0 rfl rfl ?_
    refine mm_get C flX5_22 dX5_does_1 hm rfl ?_
    refine r_iconst C dX5_does_4 ?_
    refine r_iload_n C dX5_does_5 rfl rfl ?_
    refine r_imul C dX5_does_6 ?_
    refine r_iald C dX5_does_7 (by omega) mput_5 (by omega) (by omega) ?_
    rw [h0]
    refine r_istore_n C dX5_does_8 rfl (Nat.le_of_ble_eq_true rfl) rfl ?_
    dsimp only [List.set]
    refine r_aload_n C dX5_does_9 rfl rfl ?_
    refine mm_get C flX5_22 dX5_does_10 hm rfl ?_
    refine r_iconst C dX5_does_13 ?_
    refine r_iload_n C dX5_does_14 rfl rfl ?_
    refine r_imul C dX5_does_15 ?_
    refine r_iconst C dX5_does_16 ?_
    refine r_iadd C dX5_does_17 ?_
    refine r_iald C dX5_does_18 (by omega) mput_5 (by omega) (by omega) ?_
    rw [h1]
    refine r_istore_n C dX5_does_19 rfl (Nat.le_of_ble_eq_true rfl) rfl ?_
    dsimp only [List.set]
    refine r_aload_n C dX5_does_20 rfl rfl ?_
    refine mm_get C flX5_22 dX5_does_21 hm rfl ?_
    refine r_iconst C dX5_does_24 ?_
    refine r_iload_n C dX5_does_25 rfl rfl ?_
    refine r_imul C dX5_does_26 ?_
    refine r_iconst C dX5_does_27 ?_
    refine r_iadd C dX5_does_28 ?_
    refine r_iald C dX5_does_29 (by omega) mput_5 (by omega) (by omega) ?_
    rw [h2 (by omega)]
    refine r_istore C dX5_does_30 (Nat.le_of_ble_eq_true rfl) rfl ?_
    dsimp only [List.set]
    refine r_iload_n C dX5_does_32 rfl rfl ?_
    refine r_iload_n C dX5_does_33 rfl rfl ?_
    refine r_bipush C dX5_does_34 (by decide) ?_
    refine r_icmp_ne (tgt := 43) C dX5_does_36 (by decide) (by omega) (by omega) (fun h36 => ?_) (fun h36 => ?_)
    · refine r_iconst C dX5_does_43 ?_
      refine r_iadd C dX5_does_44 ?_
      refine r_bipush C dX5_does_45 (by decide) ?_
      refine r_irem C dX5_does_47 (by omega) (by omega) ?_
      refine r_istore C dX5_does_48 (Nat.le_of_ble_eq_true rfl) rfl ?_
      dsimp only [List.set]
      refine r_iload_n C dX5_does_50 rfl rfl ?_
      refine r_bipush C dX5_does_51 (by decide) ?_
      refine r_icmp_ne (tgt := 67) C dX5_does_53 (by decide) (by omega) (by omega) (fun h53 => ?_) (fun h53 => ?_)
      · refine r_iload_n C dX5_does_67 rfl rfl ?_
        refine r_bipush C dX5_does_68 (by decide) ?_
        refine r_icmp_eq (tgt := 79) C dX5_does_70 (by decide) (by omega) (by omega) (fun h70 => ?_) (fun h70 => ?_)
        · (exfalso; omega)
        · refine r_iload_n C dX5_does_73 rfl rfl ?_
          refine r_bipush C dX5_does_74 (by decide) ?_
          refine r_icmp_ne (tgt := 96) C dX5_does_76 (by decide) (by omega) (by omega) (fun h76 => ?_) (fun h76 => ?_)
          · refine r_iconst C dX5_does_96 ?_
            refine r_istore C dX5_does_97 (Nat.le_of_ble_eq_true rfl) rfl ?_
            dsimp only [List.set]
            refine r_iload C dX5_does_99 rfl ?_
            refine r_if_ne (tgt := 144) C dX5_does_101 (by decide) (by omega) (fun h101 => ?_) (fun h101 => ?_)
            · first
              | (exfalso; first | omega | contradiction)
              | refine r_iconst C dX5_does_144 ?_
                refine r_goto (tgt := 149) C dX5_does_145 (by decide) ?_
                refine r_istore C dX5_does_149 (Nat.le_of_ble_eq_true rfl) rfl ?_
                dsimp only [List.set]
                refine r_iload C dX5_does_151 rfl ?_
                refine r_if_eq (tgt := 167) C dX5_does_153 (by decide) (by omega) (fun h153 => ?_) (fun h153 => ?_)
                · first
                  | (exfalso; first | omega | contradiction)
                  | refine r_iload C dX5_does_167 rfl ?_
                    refine r_if_eq (tgt := 189) C dX5_does_169 (by decide) (by omega) (fun h169 => ?_) (fun h169 => ?_)
                    · first
                      | (exfalso; first | omega | contradiction)
                      | refine r_iload C dX5_does_189 rfl ?_
                        refine r_if_eq (tgt := 220) C dX5_does_191 (by decide) (by omega) (fun h191 => ?_) (fun h191 => ?_)
                        · first
                          | (exfalso; first | omega | contradiction)
                          | refine r_iload C dX5_does_220 rfl ?_
                            refine r_if_eq (tgt := 236) C dX5_does_222 (by decide) (by omega) (fun h222 => ?_) (fun h222 => ?_)
                            · first
                              | (exfalso; first | omega | contradiction)
                              | refine r_iload C dX5_does_236 rfl ?_
                                exact r_zretD C dX5_does_238 (by first | omega | exact gB_01 _) (by unfold dOk; rw [if_neg (by decide), if_neg (by decide), if_neg (by decide), if_pos rfl]) (by unfold dS; rw [if_neg (by decide), if_neg (by decide), if_neg (by decide), if_pos rfl]; rfl)
                            · first
                              | (exfalso; first | omega | contradiction)
                              | refine r_aload_n C dX5_does_225 rfl rfl ?_
                                refine mm_get C flX5_7 dX5_does_226 hm rfl ?_
                                refine r_iload_n C dX5_does_229 rfl rfl ?_
                                refine r_iload C dX5_does_230 rfl ?_
                                refine r_cS C cwX5_107 (liftN (c_X5_keeps (by omega) (by omega) (by omega))) dX5_does_232 rfl rfl rfl (Nat.le_of_ble_eq_true rfl) ⟨Nat.le_of_ble_eq_true rfl, Nat.le_of_ble_eq_true rfl⟩ ⟨Nat.le_of_ble_eq_true rfl, Nat.le_of_ble_eq_true rfl⟩ ?_
                                refine r_pop C dX5_does_235 rfl ?_
                                refine r_iload C dX5_does_236 rfl ?_
                                exact r_zretD C dX5_does_238 (by first | omega | exact gB_01 _) (by unfold dOk; rw [if_neg (by decide), if_neg (by decide), if_neg (by decide), if_pos rfl]) (by unfold dS; rw [if_neg (by decide), if_neg (by decide), if_neg (by decide), if_pos rfl]; rfl)
                        · first
                          | (exfalso; first | omega | contradiction)
                          | refine r_iload_n C dX5_does_194 rfl rfl ?_
                            refine r_bipush C dX5_does_195 (by decide) ?_
                            refine r_icmp_ne (tgt := 220) C dX5_does_197 (by decide) (by omega) (by omega) (fun h197 => ?_) (fun h197 => ?_)
                            · (exfalso; omega)
                            · refine r_aload_n C dX5_does_200 rfl rfl ?_
                              refine mm_get C flX5_7 dX5_does_201 hm rfl ?_
                              refine r_bipush C dX5_does_204 (by decide) ?_
                              refine r_iload_n C dX5_does_206 rfl rfl ?_
                              refine r_iast C dX5_does_207 (by omega) mput_1 (by omega) (by omega) ?_
                              rw [mput_u1]
                              refine r_aload_n C dX5_does_208 rfl rfl ?_
                              refine mm_get C flX5_7 dX5_does_209 hm rfl ?_
                              refine r_bipush C dX5_does_212 (by decide) ?_
                              refine r_iload C dX5_does_214 rfl ?_
                              refine r_iast C dX5_does_216 (by omega) mput_1 (by omega) (by omega) ?_
                              rw [mput_u1]
                              refine r_goto (tgt := 236) C dX5_does_217 (by decide) ?_
                              refine r_iload C dX5_does_236 rfl ?_
                              exact r_zretD C dX5_does_238 (by first | omega | exact gB_01 _) (by unfold dOk; rw [if_neg (by decide), if_neg (by decide), if_neg (by decide), if_pos rfl]) (by unfold dS; rw [if_neg (by decide), if_neg (by decide), if_neg (by decide), if_pos rfl]; rfl)
                    · first
                      | (exfalso; first | omega | contradiction)
                      | refine r_iload_n C dX5_does_172 rfl rfl ?_
                        refine r_bipush C dX5_does_173 (by decide) ?_
                        refine r_icmp_ne (tgt := 189) C dX5_does_175 (by decide) (by omega) (by omega) (fun h175 => ?_) (fun h175 => ?_)
                        · refine r_iload C dX5_does_189 rfl ?_
                          refine r_if_eq (tgt := 220) C dX5_does_191 (by decide) (by omega) (fun h191 => ?_) (fun h191 => ?_)
                          · first
                            | (exfalso; first | omega | contradiction)
                            | refine r_iload C dX5_does_220 rfl ?_
                              refine r_if_eq (tgt := 236) C dX5_does_222 (by decide) (by omega) (fun h222 => ?_) (fun h222 => ?_)
                              · first
                                | (exfalso; first | omega | contradiction)
                                | refine r_iload C dX5_does_236 rfl ?_
                                  exact r_zretD C dX5_does_238 (by first | omega | exact gB_01 _) (by unfold dOk; rw [if_neg (by decide), if_neg (by decide), if_neg (by decide), if_pos rfl]) (by unfold dS; rw [if_neg (by decide), if_neg (by decide), if_neg (by decide), if_pos rfl]; rfl)
                              · first
                                | (exfalso; first | omega | contradiction)
                                | refine r_aload_n C dX5_does_225 rfl rfl ?_
                                  refine mm_get C flX5_7 dX5_does_226 hm rfl ?_
                                  refine r_iload_n C dX5_does_229 rfl rfl ?_
                                  refine r_iload C dX5_does_230 rfl ?_
                                  refine r_cS C cwX5_107 (liftN (c_X5_keeps (by omega) (by omega) (by omega))) dX5_does_232 rfl rfl rfl (Nat.le_of_ble_eq_true rfl) ⟨Nat.le_of_ble_eq_true rfl, Nat.le_of_ble_eq_true rfl⟩ ⟨Nat.le_of_ble_eq_true rfl, Nat.le_of_ble_eq_true rfl⟩ ?_
                                  refine r_pop C dX5_does_235 rfl ?_
                                  refine r_iload C dX5_does_236 rfl ?_
                                  exact r_zretD C dX5_does_238 (by first | omega | exact gB_01 _) (by unfold dOk; rw [if_neg (by decide), if_neg (by decide), if_neg (by decide), if_pos rfl]) (by unfold dS; rw [if_neg (by decide), if_neg (by decide), if_neg (by decide), if_pos rfl]; rfl)
                          · first
                            | (exfalso; first | omega | contradiction)
                            | refine r_iload_n C dX5_does_194 rfl rfl ?_
                              refine r_bipush C dX5_does_195 (by decide) ?_
                              refine r_icmp_ne (tgt := 220) C dX5_does_197 (by decide) (by omega) (by omega) (fun h197 => ?_) (fun h197 => ?_)
                              · (exfalso; omega)
                              · refine r_aload_n C dX5_does_200 rfl rfl ?_
                                refine mm_get C flX5_7 dX5_does_201 hm rfl ?_
                                refine r_bipush C dX5_does_204 (by decide) ?_
                                refine r_iload_n C dX5_does_206 rfl rfl ?_
                                refine r_iast C dX5_does_207 (by omega) mput_1 (by omega) (by omega) ?_
                                rw [mput_u1]
                                refine r_aload_n C dX5_does_208 rfl rfl ?_
                                refine mm_get C flX5_7 dX5_does_209 hm rfl ?_
                                refine r_bipush C dX5_does_212 (by decide) ?_
                                refine r_iload C dX5_does_214 rfl ?_
                                refine r_iast C dX5_does_216 (by omega) mput_1 (by omega) (by omega) ?_
                                rw [mput_u1]
                                refine r_goto (tgt := 236) C dX5_does_217 (by decide) ?_
                                refine r_iload C dX5_does_236 rfl ?_
                                exact r_zretD C dX5_does_238 (by first | omega | exact gB_01 _) (by unfold dOk; rw [if_neg (by decide), if_neg (by decide), if_neg (by decide), if_pos rfl]) (by unfold dS; rw [if_neg (by decide), if_neg (by decide), if_neg (by decide), if_pos rfl]; rfl)
                        · (exfalso; omega)
                · first
                  | (exfalso; first | omega | contradiction)
                  | refine r_aload_n C dX5_does_156 rfl rfl ?_
                    refine mm_get C flX5_7 dX5_does_157 hm rfl ?_
                    refine r_iload_n C dX5_does_160 rfl rfl ?_
                    refine r_cSv C cwX5_73 (liftN (c_X5_lights (by omega) (by omega))) dX5_does_161 rfl rfl rfl (Nat.le_of_ble_eq_true rfl) ⟨Nat.le_of_ble_eq_true rfl, Nat.le_of_ble_eq_true rfl⟩ ⟨Nat.le_of_ble_eq_true rfl, Nat.le_of_ble_eq_true rfl⟩ ?_
                    refine r_goto (tgt := 236) C dX5_does_164 (by decide) ?_
                    refine r_iload C dX5_does_236 rfl ?_
                    exact r_zretD C dX5_does_238 (by first | omega | exact gB_01 _) (by unfold dOk; rw [if_neg (by decide), if_neg (by decide), if_neg (by decide), if_pos rfl]) (by unfold dS; rw [if_neg (by decide), if_neg (by decide), if_neg (by decide), if_pos rfl]; rfl)
            · first
              | (exfalso; first | omega | contradiction)
              | refine r_iload_n C dX5_does_104 rfl rfl ?_
                refine r_bipush C dX5_does_105 (by decide) ?_
                refine r_icmp_ne (tgt := 119) C dX5_does_107 (by decide) (by omega) (by omega) (fun h107 => ?_) (fun h107 => ?_)
                · refine r_iload_n C dX5_does_119 rfl rfl ?_
                  refine r_bipush C dX5_does_120 (by decide) ?_
                  refine r_icmp_eq (tgt := 144) C dX5_does_122 (by decide) (by omega) (by omega) (fun h122 => ?_) (fun h122 => ?_)
                  · refine r_iconst C dX5_does_144 ?_
                    refine r_goto (tgt := 149) C dX5_does_145 (by decide) ?_
                    refine r_istore C dX5_does_149 (Nat.le_of_ble_eq_true rfl) rfl ?_
                    dsimp only [List.set]
                    refine r_iload C dX5_does_151 rfl ?_
                    refine r_if_eq (tgt := 167) C dX5_does_153 (by decide) (by omega) (fun h153 => ?_) (fun h153 => ?_)
                    · first
                      | (exfalso; first | omega | contradiction)
                      | refine r_iload C dX5_does_167 rfl ?_
                        refine r_if_eq (tgt := 189) C dX5_does_169 (by decide) (by omega) (fun h169 => ?_) (fun h169 => ?_)
                        · first
                          | (exfalso; first | omega | contradiction)
                          | refine r_iload C dX5_does_189 rfl ?_
                            refine r_if_eq (tgt := 220) C dX5_does_191 (by decide) (by omega) (fun h191 => ?_) (fun h191 => ?_)
                            · first
                              | (exfalso; first | omega | contradiction)
                              | refine r_iload C dX5_does_220 rfl ?_
                                refine r_if_eq (tgt := 236) C dX5_does_222 (by decide) (by omega) (fun h222 => ?_) (fun h222 => ?_)
                                · first
                                  | (exfalso; first | omega | contradiction)
                                  | refine r_iload C dX5_does_236 rfl ?_
                                    exact r_zretD C dX5_does_238 (by first | omega | exact gB_01 _) (by unfold dOk; rw [if_neg (by decide), if_neg (by decide), if_neg (by decide), if_pos rfl]) (by unfold dS; rw [if_neg (by decide), if_neg (by decide), if_neg (by decide), if_pos rfl]; rfl)
                                · first
                                  | (exfalso; first | omega | contradiction)
                                  | refine r_aload_n C dX5_does_225 rfl rfl ?_
                                    refine mm_get C flX5_7 dX5_does_226 hm rfl ?_
                                    refine r_iload_n C dX5_does_229 rfl rfl ?_
                                    refine r_iload C dX5_does_230 rfl ?_
                                    refine r_cS C cwX5_107 (liftN (c_X5_keeps (by omega) (by omega) (by omega))) dX5_does_232 rfl rfl rfl (Nat.le_of_ble_eq_true rfl) ⟨Nat.le_of_ble_eq_true rfl, Nat.le_of_ble_eq_true rfl⟩ ⟨Nat.le_of_ble_eq_true rfl, Nat.le_of_ble_eq_true rfl⟩ ?_
                                    refine r_pop C dX5_does_235 rfl ?_
                                    refine r_iload C dX5_does_236 rfl ?_
                                    exact r_zretD C dX5_does_238 (by first | omega | exact gB_01 _) (by unfold dOk; rw [if_neg (by decide), if_neg (by decide), if_neg (by decide), if_pos rfl]) (by unfold dS; rw [if_neg (by decide), if_neg (by decide), if_neg (by decide), if_pos rfl]; rfl)
                            · first
                              | (exfalso; first | omega | contradiction)
                              | refine r_iload_n C dX5_does_194 rfl rfl ?_
                                refine r_bipush C dX5_does_195 (by decide) ?_
                                refine r_icmp_ne (tgt := 220) C dX5_does_197 (by decide) (by omega) (by omega) (fun h197 => ?_) (fun h197 => ?_)
                                · (exfalso; omega)
                                · refine r_aload_n C dX5_does_200 rfl rfl ?_
                                  refine mm_get C flX5_7 dX5_does_201 hm rfl ?_
                                  refine r_bipush C dX5_does_204 (by decide) ?_
                                  refine r_iload_n C dX5_does_206 rfl rfl ?_
                                  refine r_iast C dX5_does_207 (by omega) mput_1 (by omega) (by omega) ?_
                                  rw [mput_u1]
                                  refine r_aload_n C dX5_does_208 rfl rfl ?_
                                  refine mm_get C flX5_7 dX5_does_209 hm rfl ?_
                                  refine r_bipush C dX5_does_212 (by decide) ?_
                                  refine r_iload C dX5_does_214 rfl ?_
                                  refine r_iast C dX5_does_216 (by omega) mput_1 (by omega) (by omega) ?_
                                  rw [mput_u1]
                                  refine r_goto (tgt := 236) C dX5_does_217 (by decide) ?_
                                  refine r_iload C dX5_does_236 rfl ?_
                                  exact r_zretD C dX5_does_238 (by first | omega | exact gB_01 _) (by unfold dOk; rw [if_neg (by decide), if_neg (by decide), if_neg (by decide), if_pos rfl]) (by unfold dS; rw [if_neg (by decide), if_neg (by decide), if_neg (by decide), if_pos rfl]; rfl)
                        · first
                          | (exfalso; first | omega | contradiction)
                          | refine r_iload_n C dX5_does_172 rfl rfl ?_
                            refine r_bipush C dX5_does_173 (by decide) ?_
                            refine r_icmp_ne (tgt := 189) C dX5_does_175 (by decide) (by omega) (by omega) (fun h175 => ?_) (fun h175 => ?_)
                            · refine r_iload C dX5_does_189 rfl ?_
                              refine r_if_eq (tgt := 220) C dX5_does_191 (by decide) (by omega) (fun h191 => ?_) (fun h191 => ?_)
                              · first
                                | (exfalso; first | omega | contradiction)
                                | refine r_iload C dX5_does_220 rfl ?_
                                  refine r_if_eq (tgt := 236) C dX5_does_222 (by decide) (by omega) (fun h222 => ?_) (fun h222 => ?_)
                                  · first
                                    | (exfalso; first | omega | contradiction)
                                    | refine r_iload C dX5_does_236 rfl ?_
                                      exact r_zretD C dX5_does_238 (by first | omega | exact gB_01 _) (by unfold dOk; rw [if_neg (by decide), if_neg (by decide), if_neg (by decide), if_pos rfl]) (by unfold dS; rw [if_neg (by decide), if_neg (by decide), if_neg (by decide), if_pos rfl]; rfl)
                                  · first
                                    | (exfalso; first | omega | contradiction)
                                    | refine r_aload_n C dX5_does_225 rfl rfl ?_
                                      refine mm_get C flX5_7 dX5_does_226 hm rfl ?_
                                      refine r_iload_n C dX5_does_229 rfl rfl ?_
                                      refine r_iload C dX5_does_230 rfl ?_
                                      refine r_cS C cwX5_107 (liftN (c_X5_keeps (by omega) (by omega) (by omega))) dX5_does_232 rfl rfl rfl (Nat.le_of_ble_eq_true rfl) ⟨Nat.le_of_ble_eq_true rfl, Nat.le_of_ble_eq_true rfl⟩ ⟨Nat.le_of_ble_eq_true rfl, Nat.le_of_ble_eq_true rfl⟩ ?_
                                      refine r_pop C dX5_does_235 rfl ?_
                                      refine r_iload C dX5_does_236 rfl ?_
                                      exact r_zretD C dX5_does_238 (by first | omega | exact gB_01 _) (by unfold dOk; rw [if_neg (by decide), if_neg (by decide), if_neg (by decide), if_pos rfl]) (by unfold dS; rw [if_neg (by decide), if_neg (by decide), if_neg (by decide), if_pos rfl]; rfl)
                              · first
                                | (exfalso; first | omega | contradiction)
                                | refine r_iload_n C dX5_does_194 rfl rfl ?_
                                  refine r_bipush C dX5_does_195 (by decide) ?_
                                  refine r_icmp_ne (tgt := 220) C dX5_does_197 (by decide) (by omega) (by omega) (fun h197 => ?_) (fun h197 => ?_)
                                  · (exfalso; omega)
                                  · refine r_aload_n C dX5_does_200 rfl rfl ?_
                                    refine mm_get C flX5_7 dX5_does_201 hm rfl ?_
                                    refine r_bipush C dX5_does_204 (by decide) ?_
                                    refine r_iload_n C dX5_does_206 rfl rfl ?_
                                    refine r_iast C dX5_does_207 (by omega) mput_1 (by omega) (by omega) ?_
                                    rw [mput_u1]
                                    refine r_aload_n C dX5_does_208 rfl rfl ?_
                                    refine mm_get C flX5_7 dX5_does_209 hm rfl ?_
                                    refine r_bipush C dX5_does_212 (by decide) ?_
                                    refine r_iload C dX5_does_214 rfl ?_
                                    refine r_iast C dX5_does_216 (by omega) mput_1 (by omega) (by omega) ?_
                                    rw [mput_u1]
                                    refine r_goto (tgt := 236) C dX5_does_217 (by decide) ?_
                                    refine r_iload C dX5_does_236 rfl ?_
                                    exact r_zretD C dX5_does_238 (by first | omega | exact gB_01 _) (by unfold dOk; rw [if_neg (by decide), if_neg (by decide), if_neg (by decide), if_pos rfl]) (by unfold dS; rw [if_neg (by decide), if_neg (by decide), if_neg (by decide), if_pos rfl]; rfl)
                            · (exfalso; omega)
                    · first
                      | (exfalso; first | omega | contradiction)
                      | refine r_aload_n C dX5_does_156 rfl rfl ?_
                        refine mm_get C flX5_7 dX5_does_157 hm rfl ?_
                        refine r_iload_n C dX5_does_160 rfl rfl ?_
                        refine r_cSv C cwX5_73 (liftN (c_X5_lights (by omega) (by omega))) dX5_does_161 rfl rfl rfl (Nat.le_of_ble_eq_true rfl) ⟨Nat.le_of_ble_eq_true rfl, Nat.le_of_ble_eq_true rfl⟩ ⟨Nat.le_of_ble_eq_true rfl, Nat.le_of_ble_eq_true rfl⟩ ?_
                        refine r_goto (tgt := 236) C dX5_does_164 (by decide) ?_
                        refine r_iload C dX5_does_236 rfl ?_
                        exact r_zretD C dX5_does_238 (by first | omega | exact gB_01 _) (by unfold dOk; rw [if_neg (by decide), if_neg (by decide), if_neg (by decide), if_pos rfl]) (by unfold dS; rw [if_neg (by decide), if_neg (by decide), if_neg (by decide), if_pos rfl]; rfl)
                  · (exfalso; omega)
                · (exfalso; omega)
          · (exfalso; omega)
      · (exfalso; omega)
    · (exfalso; omega)
  · subst hw
    refine r_aload_n C dX5_does_0 rfl rfl ?_
    refine mm_get C flX5_22 dX5_does_1 hm rfl ?_
    refine r_iconst C dX5_does_4 ?_
    refine r_iload_n C dX5_does_5 rfl rfl ?_
    refine r_imul C dX5_does_6 ?_
    refine r_iald C dX5_does_7 (by omega) mput_5 (by omega) (by omega) ?_
    rw [h0]
    refine r_istore_n C dX5_does_8 rfl (Nat.le_of_ble_eq_true rfl) rfl ?_
    dsimp only [List.set]
    refine r_aload_n C dX5_does_9 rfl rfl ?_
    refine mm_get C flX5_22 dX5_does_10 hm rfl ?_
    refine r_iconst C dX5_does_13 ?_
    refine r_iload_n C dX5_does_14 rfl rfl ?_
    refine r_imul C dX5_does_15 ?_
    refine r_iconst C dX5_does_16 ?_
    refine r_iadd C dX5_does_17 ?_
    refine r_iald C dX5_does_18 (by omega) mput_5 (by omega) (by omega) ?_
    rw [h1]
    refine r_istore_n C dX5_does_19 rfl (Nat.le_of_ble_eq_true rfl) rfl ?_
    dsimp only [List.set]
    refine r_aload_n C dX5_does_20 rfl rfl ?_
    refine mm_get C flX5_22 dX5_does_21 hm rfl ?_
    refine r_iconst C dX5_does_24 ?_
    refine r_iload_n C dX5_does_25 rfl rfl ?_
    refine r_imul C dX5_does_26 ?_
    refine r_iconst C dX5_does_27 ?_
    refine r_iadd C dX5_does_28 ?_
    refine r_iald C dX5_does_29 (by omega) mput_5 (by omega) (by omega) ?_
    refine r_istore C dX5_does_30 (Nat.le_of_ble_eq_true rfl) rfl ?_
    dsimp only [List.set]
    refine r_iload_n C dX5_does_32 rfl rfl ?_
    refine r_iload_n C dX5_does_33 rfl rfl ?_
    refine r_bipush C dX5_does_34 (by decide) ?_
    refine r_icmp_ne (tgt := 43) C dX5_does_36 (by decide) (by omega) (by omega) (fun h36 => ?_) (fun h36 => ?_)
    · refine r_iconst C dX5_does_43 ?_
      refine r_iadd C dX5_does_44 ?_
      refine r_bipush C dX5_does_45 (by decide) ?_
      refine r_irem C dX5_does_47 (by omega) (by omega) ?_
      refine r_istore C dX5_does_48 (Nat.le_of_ble_eq_true rfl) rfl ?_
      dsimp only [List.set]
      refine r_iload_n C dX5_does_50 rfl rfl ?_
      refine r_bipush C dX5_does_51 (by decide) ?_
      refine r_icmp_ne (tgt := 67) C dX5_does_53 (by decide) (by omega) (by omega) (fun h53 => ?_) (fun h53 => ?_)
      · refine r_iload_n C dX5_does_67 rfl rfl ?_
        refine r_bipush C dX5_does_68 (by decide) ?_
        refine r_icmp_eq (tgt := 79) C dX5_does_70 (by decide) (by omega) (by omega) (fun h70 => ?_) (fun h70 => ?_)
        · (exfalso; omega)
        · refine r_iload_n C dX5_does_73 rfl rfl ?_
          refine r_bipush C dX5_does_74 (by decide) ?_
          refine r_icmp_ne (tgt := 96) C dX5_does_76 (by decide) (by omega) (by omega) (fun h76 => ?_) (fun h76 => ?_)
          · refine r_iconst C dX5_does_96 ?_
            refine r_istore C dX5_does_97 (Nat.le_of_ble_eq_true rfl) rfl ?_
            dsimp only [List.set]
            refine r_iload C dX5_does_99 rfl ?_
            refine r_if_ne (tgt := 144) C dX5_does_101 (by decide) (by omega) (fun h101 => ?_) (fun h101 => ?_)
            · first
              | (exfalso; first | omega | contradiction)
              | refine r_iconst C dX5_does_144 ?_
                refine r_goto (tgt := 149) C dX5_does_145 (by decide) ?_
                refine r_istore C dX5_does_149 (Nat.le_of_ble_eq_true rfl) rfl ?_
                dsimp only [List.set]
                refine r_iload C dX5_does_151 rfl ?_
                refine r_if_eq (tgt := 167) C dX5_does_153 (by decide) (by omega) (fun h153 => ?_) (fun h153 => ?_)
                · first
                  | (exfalso; first | omega | contradiction)
                  | refine r_iload C dX5_does_167 rfl ?_
                    refine r_if_eq (tgt := 189) C dX5_does_169 (by decide) (by omega) (fun h169 => ?_) (fun h169 => ?_)
                    · first
                      | (exfalso; first | omega | contradiction)
                      | refine r_iload C dX5_does_189 rfl ?_
                        refine r_if_eq (tgt := 220) C dX5_does_191 (by decide) (by omega) (fun h191 => ?_) (fun h191 => ?_)
                        · first
                          | (exfalso; first | omega | contradiction)
                          | refine r_iload C dX5_does_220 rfl ?_
                            refine r_if_eq (tgt := 236) C dX5_does_222 (by decide) (by omega) (fun h222 => ?_) (fun h222 => ?_)
                            · first
                              | (exfalso; first | omega | contradiction)
                              | refine r_iload C dX5_does_236 rfl ?_
                                exact r_zretD C dX5_does_238 (by first | omega | exact gB_01 _) (by unfold dOk; rw [if_neg (by decide), if_neg (by decide), if_neg (by decide), if_neg (by decide), if_pos rfl]; first | exact (gB_t (by first | assumption | omega)).symm | exact (gB_f (by first | assumption | omega)).symm) (by unfold dS; rw [if_neg (by decide), if_neg (by decide), if_neg (by decide), if_neg (by decide), if_pos rfl]; first | rw [if_pos (show 0 < s 1 by first | assumption | omega)] | rw [if_neg (show ¬ (0 < s 1) by first | assumption | omega)])
                            · first
                              | (exfalso; first | omega | contradiction)
                              | refine r_aload_n C dX5_does_225 rfl rfl ?_
                                refine mm_get C flX5_7 dX5_does_226 hm rfl ?_
                                refine r_iload_n C dX5_does_229 rfl rfl ?_
                                refine r_iload C dX5_does_230 rfl ?_
                                refine r_cS C cwX5_107 (liftN (c_X5_keeps (by omega) (by omega) (by omega))) dX5_does_232 rfl rfl rfl (Nat.le_of_ble_eq_true rfl) ⟨Nat.le_of_ble_eq_true rfl, Nat.le_of_ble_eq_true rfl⟩ ⟨Nat.le_of_ble_eq_true rfl, Nat.le_of_ble_eq_true rfl⟩ ?_
                                refine r_pop C dX5_does_235 rfl ?_
                                refine r_iload C dX5_does_236 rfl ?_
                                exact r_zretD C dX5_does_238 (by first | omega | exact gB_01 _) (by unfold dOk; rw [if_neg (by decide), if_neg (by decide), if_neg (by decide), if_neg (by decide), if_pos rfl]; first | exact (gB_t (by first | assumption | omega)).symm | exact (gB_f (by first | assumption | omega)).symm) (by unfold dS; rw [if_neg (by decide), if_neg (by decide), if_neg (by decide), if_neg (by decide), if_pos rfl]; first | rw [if_pos (show 0 < s 1 by first | assumption | omega)] | rw [if_neg (show ¬ (0 < s 1) by first | assumption | omega)])
                        · first
                          | (exfalso; first | omega | contradiction)
                          | refine r_iload_n C dX5_does_194 rfl rfl ?_
                            refine r_bipush C dX5_does_195 (by decide) ?_
                            refine r_icmp_ne (tgt := 220) C dX5_does_197 (by decide) (by omega) (by omega) (fun h197 => ?_) (fun h197 => ?_)
                            · refine r_iload C dX5_does_220 rfl ?_
                              refine r_if_eq (tgt := 236) C dX5_does_222 (by decide) (by omega) (fun h222 => ?_) (fun h222 => ?_)
                              · first
                                | (exfalso; first | omega | contradiction)
                                | refine r_iload C dX5_does_236 rfl ?_
                                  exact r_zretD C dX5_does_238 (by first | omega | exact gB_01 _) (by unfold dOk; rw [if_neg (by decide), if_neg (by decide), if_neg (by decide), if_neg (by decide), if_pos rfl]; first | exact (gB_t (by first | assumption | omega)).symm | exact (gB_f (by first | assumption | omega)).symm) (by unfold dS; rw [if_neg (by decide), if_neg (by decide), if_neg (by decide), if_neg (by decide), if_pos rfl]; first | rw [if_pos (show 0 < s 1 by first | assumption | omega)] | rw [if_neg (show ¬ (0 < s 1) by first | assumption | omega)])
                              · first
                                | (exfalso; first | omega | contradiction)
                                | refine r_aload_n C dX5_does_225 rfl rfl ?_
                                  refine mm_get C flX5_7 dX5_does_226 hm rfl ?_
                                  refine r_iload_n C dX5_does_229 rfl rfl ?_
                                  refine r_iload C dX5_does_230 rfl ?_
                                  refine r_cS C cwX5_107 (liftN (c_X5_keeps (by omega) (by omega) (by omega))) dX5_does_232 rfl rfl rfl (Nat.le_of_ble_eq_true rfl) ⟨Nat.le_of_ble_eq_true rfl, Nat.le_of_ble_eq_true rfl⟩ ⟨Nat.le_of_ble_eq_true rfl, Nat.le_of_ble_eq_true rfl⟩ ?_
                                  refine r_pop C dX5_does_235 rfl ?_
                                  refine r_iload C dX5_does_236 rfl ?_
                                  exact r_zretD C dX5_does_238 (by first | omega | exact gB_01 _) (by unfold dOk; rw [if_neg (by decide), if_neg (by decide), if_neg (by decide), if_neg (by decide), if_pos rfl]; first | exact (gB_t (by first | assumption | omega)).symm | exact (gB_f (by first | assumption | omega)).symm) (by unfold dS; rw [if_neg (by decide), if_neg (by decide), if_neg (by decide), if_neg (by decide), if_pos rfl]; first | rw [if_pos (show 0 < s 1 by first | assumption | omega)] | rw [if_neg (show ¬ (0 < s 1) by first | assumption | omega)])
                            · (exfalso; omega)
                    · first
                      | (exfalso; first | omega | contradiction)
                      | refine r_iload_n C dX5_does_172 rfl rfl ?_
                        refine r_bipush C dX5_does_173 (by decide) ?_
                        refine r_icmp_ne (tgt := 189) C dX5_does_175 (by decide) (by omega) (by omega) (fun h175 => ?_) (fun h175 => ?_)
                        · (exfalso; omega)
                        · refine r_aload_n C dX5_does_178 rfl rfl ?_
                          refine mm_get C flX5_7 dX5_does_179 hm rfl ?_
                          refine r_iload_n C dX5_does_182 rfl rfl ?_
                          refine r_cSv C cwX5_80 (liftN (c_X5_renews (by omega) (by omega))) dX5_does_183 rfl rfl rfl (Nat.le_of_ble_eq_true rfl) ⟨Nat.le_of_ble_eq_true rfl, Nat.le_of_ble_eq_true rfl⟩ ⟨Nat.le_of_ble_eq_true rfl, Nat.le_of_ble_eq_true rfl⟩ ?_
                          refine r_goto (tgt := 236) C dX5_does_186 (by decide) ?_
                          refine r_iload C dX5_does_236 rfl ?_
                          exact r_zretD C dX5_does_238 (by first | omega | exact gB_01 _) (by unfold dOk; rw [if_neg (by decide), if_neg (by decide), if_neg (by decide), if_neg (by decide), if_pos rfl]; first | exact (gB_t (by first | assumption | omega)).symm | exact (gB_f (by first | assumption | omega)).symm) (by unfold dS; rw [if_neg (by decide), if_neg (by decide), if_neg (by decide), if_neg (by decide), if_pos rfl]; first | rw [if_pos (show 0 < s 1 by first | assumption | omega)] | rw [if_neg (show ¬ (0 < s 1) by first | assumption | omega)])
                · first
                  | (exfalso; first | omega | contradiction)
                  | refine r_aload_n C dX5_does_156 rfl rfl ?_
                    refine mm_get C flX5_7 dX5_does_157 hm rfl ?_
                    refine r_iload_n C dX5_does_160 rfl rfl ?_
                    refine r_cSv C cwX5_73 (liftN (c_X5_lights (by omega) (by omega))) dX5_does_161 rfl rfl rfl (Nat.le_of_ble_eq_true rfl) ⟨Nat.le_of_ble_eq_true rfl, Nat.le_of_ble_eq_true rfl⟩ ⟨Nat.le_of_ble_eq_true rfl, Nat.le_of_ble_eq_true rfl⟩ ?_
                    refine r_goto (tgt := 236) C dX5_does_164 (by decide) ?_
                    refine r_iload C dX5_does_236 rfl ?_
                    exact r_zretD C dX5_does_238 (by first | omega | exact gB_01 _) (by unfold dOk; rw [if_neg (by decide), if_neg (by decide), if_neg (by decide), if_neg (by decide), if_pos rfl]; first | exact (gB_t (by first | assumption | omega)).symm | exact (gB_f (by first | assumption | omega)).symm) (by unfold dS; rw [if_neg (by decide), if_neg (by decide), if_neg (by decide), if_neg (by decide), if_pos rfl]; first | rw [if_pos (show 0 < s 1 by first | assumption | omega)] | rw [if_neg (show ¬ (0 < s 1) by first | assumption | omega)])
            · first
              | (exfalso; first | omega | contradiction)
              | refine r_iload_n C dX5_does_104 rfl rfl ?_
                refine r_bipush C dX5_does_105 (by decide) ?_
                refine r_icmp_ne (tgt := 119) C dX5_does_107 (by decide) (by omega) (by omega) (fun h107 => ?_) (fun h107 => ?_)
                · (exfalso; omega)
                · refine r_aload_n C dX5_does_110 rfl rfl ?_
                  refine mm_get C flX5_7 dX5_does_111 hm rfl ?_
                  refine r_iconst C dX5_does_114 ?_
                  refine r_iald C dX5_does_115 (by omega) mput_1 (by omega) (by omega) ?_
                  refine r_if_gt (tgt := 144) C dX5_does_116 (by decide) (by omega) (fun h116 => ?_) (fun h116 => ?_)
                  · refine r_iconst C dX5_does_144 ?_
                    refine r_goto (tgt := 149) C dX5_does_145 (by decide) ?_
                    refine r_istore C dX5_does_149 (Nat.le_of_ble_eq_true rfl) rfl ?_
                    dsimp only [List.set]
                    refine r_iload C dX5_does_151 rfl ?_
                    refine r_if_eq (tgt := 167) C dX5_does_153 (by decide) (by omega) (fun h153 => ?_) (fun h153 => ?_)
                    · first
                      | (exfalso; first | omega | contradiction)
                      | refine r_iload C dX5_does_167 rfl ?_
                        refine r_if_eq (tgt := 189) C dX5_does_169 (by decide) (by omega) (fun h169 => ?_) (fun h169 => ?_)
                        · first
                          | (exfalso; first | omega | contradiction)
                          | refine r_iload C dX5_does_189 rfl ?_
                            refine r_if_eq (tgt := 220) C dX5_does_191 (by decide) (by omega) (fun h191 => ?_) (fun h191 => ?_)
                            · first
                              | (exfalso; first | omega | contradiction)
                              | refine r_iload C dX5_does_220 rfl ?_
                                refine r_if_eq (tgt := 236) C dX5_does_222 (by decide) (by omega) (fun h222 => ?_) (fun h222 => ?_)
                                · first
                                  | (exfalso; first | omega | contradiction)
                                  | refine r_iload C dX5_does_236 rfl ?_
                                    exact r_zretD C dX5_does_238 (by first | omega | exact gB_01 _) (by unfold dOk; rw [if_neg (by decide), if_neg (by decide), if_neg (by decide), if_neg (by decide), if_pos rfl]; first | exact (gB_t (by first | assumption | omega)).symm | exact (gB_f (by first | assumption | omega)).symm) (by unfold dS; rw [if_neg (by decide), if_neg (by decide), if_neg (by decide), if_neg (by decide), if_pos rfl]; first | rw [if_pos (show 0 < s 1 by first | assumption | omega)] | rw [if_neg (show ¬ (0 < s 1) by first | assumption | omega)])
                                · first
                                  | (exfalso; first | omega | contradiction)
                                  | refine r_aload_n C dX5_does_225 rfl rfl ?_
                                    refine mm_get C flX5_7 dX5_does_226 hm rfl ?_
                                    refine r_iload_n C dX5_does_229 rfl rfl ?_
                                    refine r_iload C dX5_does_230 rfl ?_
                                    refine r_cS C cwX5_107 (liftN (c_X5_keeps (by omega) (by omega) (by omega))) dX5_does_232 rfl rfl rfl (Nat.le_of_ble_eq_true rfl) ⟨Nat.le_of_ble_eq_true rfl, Nat.le_of_ble_eq_true rfl⟩ ⟨Nat.le_of_ble_eq_true rfl, Nat.le_of_ble_eq_true rfl⟩ ?_
                                    refine r_pop C dX5_does_235 rfl ?_
                                    refine r_iload C dX5_does_236 rfl ?_
                                    exact r_zretD C dX5_does_238 (by first | omega | exact gB_01 _) (by unfold dOk; rw [if_neg (by decide), if_neg (by decide), if_neg (by decide), if_neg (by decide), if_pos rfl]; first | exact (gB_t (by first | assumption | omega)).symm | exact (gB_f (by first | assumption | omega)).symm) (by unfold dS; rw [if_neg (by decide), if_neg (by decide), if_neg (by decide), if_neg (by decide), if_pos rfl]; first | rw [if_pos (show 0 < s 1 by first | assumption | omega)] | rw [if_neg (show ¬ (0 < s 1) by first | assumption | omega)])
                            · first
                              | (exfalso; first | omega | contradiction)
                              | refine r_iload_n C dX5_does_194 rfl rfl ?_
                                refine r_bipush C dX5_does_195 (by decide) ?_
                                refine r_icmp_ne (tgt := 220) C dX5_does_197 (by decide) (by omega) (by omega) (fun h197 => ?_) (fun h197 => ?_)
                                · refine r_iload C dX5_does_220 rfl ?_
                                  refine r_if_eq (tgt := 236) C dX5_does_222 (by decide) (by omega) (fun h222 => ?_) (fun h222 => ?_)
                                  · first
                                    | (exfalso; first | omega | contradiction)
                                    | refine r_iload C dX5_does_236 rfl ?_
                                      exact r_zretD C dX5_does_238 (by first | omega | exact gB_01 _) (by unfold dOk; rw [if_neg (by decide), if_neg (by decide), if_neg (by decide), if_neg (by decide), if_pos rfl]; first | exact (gB_t (by first | assumption | omega)).symm | exact (gB_f (by first | assumption | omega)).symm) (by unfold dS; rw [if_neg (by decide), if_neg (by decide), if_neg (by decide), if_neg (by decide), if_pos rfl]; first | rw [if_pos (show 0 < s 1 by first | assumption | omega)] | rw [if_neg (show ¬ (0 < s 1) by first | assumption | omega)])
                                  · first
                                    | (exfalso; first | omega | contradiction)
                                    | refine r_aload_n C dX5_does_225 rfl rfl ?_
                                      refine mm_get C flX5_7 dX5_does_226 hm rfl ?_
                                      refine r_iload_n C dX5_does_229 rfl rfl ?_
                                      refine r_iload C dX5_does_230 rfl ?_
                                      refine r_cS C cwX5_107 (liftN (c_X5_keeps (by omega) (by omega) (by omega))) dX5_does_232 rfl rfl rfl (Nat.le_of_ble_eq_true rfl) ⟨Nat.le_of_ble_eq_true rfl, Nat.le_of_ble_eq_true rfl⟩ ⟨Nat.le_of_ble_eq_true rfl, Nat.le_of_ble_eq_true rfl⟩ ?_
                                      refine r_pop C dX5_does_235 rfl ?_
                                      refine r_iload C dX5_does_236 rfl ?_
                                      exact r_zretD C dX5_does_238 (by first | omega | exact gB_01 _) (by unfold dOk; rw [if_neg (by decide), if_neg (by decide), if_neg (by decide), if_neg (by decide), if_pos rfl]; first | exact (gB_t (by first | assumption | omega)).symm | exact (gB_f (by first | assumption | omega)).symm) (by unfold dS; rw [if_neg (by decide), if_neg (by decide), if_neg (by decide), if_neg (by decide), if_pos rfl]; first | rw [if_pos (show 0 < s 1 by first | assumption | omega)] | rw [if_neg (show ¬ (0 < s 1) by first | assumption | omega)])
                                · (exfalso; omega)
                        · first
                          | (exfalso; first | omega | contradiction)
                          | refine r_iload_n C dX5_does_172 rfl rfl ?_
                            refine r_bipush C dX5_does_173 (by decide) ?_
                            refine r_icmp_ne (tgt := 189) C dX5_does_175 (by decide) (by omega) (by omega) (fun h175 => ?_) (fun h175 => ?_)
                            · (exfalso; omega)
                            · refine r_aload_n C dX5_does_178 rfl rfl ?_
                              refine mm_get C flX5_7 dX5_does_179 hm rfl ?_
                              refine r_iload_n C dX5_does_182 rfl rfl ?_
                              refine r_cSv C cwX5_80 (liftN (c_X5_renews (by omega) (by omega))) dX5_does_183 rfl rfl rfl (Nat.le_of_ble_eq_true rfl) ⟨Nat.le_of_ble_eq_true rfl, Nat.le_of_ble_eq_true rfl⟩ ⟨Nat.le_of_ble_eq_true rfl, Nat.le_of_ble_eq_true rfl⟩ ?_
                              refine r_goto (tgt := 236) C dX5_does_186 (by decide) ?_
                              refine r_iload C dX5_does_236 rfl ?_
                              exact r_zretD C dX5_does_238 (by first | omega | exact gB_01 _) (by unfold dOk; rw [if_neg (by decide), if_neg (by decide), if_neg (by decide), if_neg (by decide), if_pos rfl]; first | exact (gB_t (by first | assumption | omega)).symm | exact (gB_f (by first | assumption | omega)).symm) (by unfold dS; rw [if_neg (by decide), if_neg (by decide), if_neg (by decide), if_neg (by decide), if_pos rfl]; first | rw [if_pos (show 0 < s 1 by first | assumption | omega)] | rw [if_neg (show ¬ (0 < s 1) by first | assumption | omega)])
                    · first
                      | (exfalso; first | omega | contradiction)
                      | refine r_aload_n C dX5_does_156 rfl rfl ?_
                        refine mm_get C flX5_7 dX5_does_157 hm rfl ?_
                        refine r_iload_n C dX5_does_160 rfl rfl ?_
                        refine r_cSv C cwX5_73 (liftN (c_X5_lights (by omega) (by omega))) dX5_does_161 rfl rfl rfl (Nat.le_of_ble_eq_true rfl) ⟨Nat.le_of_ble_eq_true rfl, Nat.le_of_ble_eq_true rfl⟩ ⟨Nat.le_of_ble_eq_true rfl, Nat.le_of_ble_eq_true rfl⟩ ?_
                        refine r_goto (tgt := 236) C dX5_does_164 (by decide) ?_
                        refine r_iload C dX5_does_236 rfl ?_
                        exact r_zretD C dX5_does_238 (by first | omega | exact gB_01 _) (by unfold dOk; rw [if_neg (by decide), if_neg (by decide), if_neg (by decide), if_neg (by decide), if_pos rfl]; first | exact (gB_t (by first | assumption | omega)).symm | exact (gB_f (by first | assumption | omega)).symm) (by unfold dS; rw [if_neg (by decide), if_neg (by decide), if_neg (by decide), if_neg (by decide), if_pos rfl]; first | rw [if_pos (show 0 < s 1 by first | assumption | omega)] | rw [if_neg (show ¬ (0 < s 1) by first | assumption | omega)])
                  · refine r_iload_n C dX5_does_119 rfl rfl ?_
                    refine r_bipush C dX5_does_120 (by decide) ?_
                    refine r_icmp_eq (tgt := 144) C dX5_does_122 (by decide) (by omega) (by omega) (fun h122 => ?_) (fun h122 => ?_)
                    · (exfalso; omega)
                    · refine r_iload_n C dX5_does_125 rfl rfl ?_
                      refine r_bipush C dX5_does_126 (by decide) ?_
                      refine r_icmp_ne (tgt := 148) C dX5_does_128 (by decide) (by omega) (by omega) (fun h128 => ?_) (fun h128 => ?_)
                      · refine r_iconst C dX5_does_148 ?_
                        refine r_istore C dX5_does_149 (Nat.le_of_ble_eq_true rfl) rfl ?_
                        dsimp only [List.set]
                        refine r_iload C dX5_does_151 rfl ?_
                        refine r_if_eq (tgt := 167) C dX5_does_153 (by decide) (by omega) (fun h153 => ?_) (fun h153 => ?_)
                        · first
                          | (exfalso; first | omega | contradiction)
                          | refine r_iload C dX5_does_167 rfl ?_
                            refine r_if_eq (tgt := 189) C dX5_does_169 (by decide) (by omega) (fun h169 => ?_) (fun h169 => ?_)
                            · first
                              | (exfalso; first | omega | contradiction)
                              | refine r_iload C dX5_does_189 rfl ?_
                                refine r_if_eq (tgt := 220) C dX5_does_191 (by decide) (by omega) (fun h191 => ?_) (fun h191 => ?_)
                                · first
                                  | (exfalso; first | omega | contradiction)
                                  | refine r_iload C dX5_does_220 rfl ?_
                                    refine r_if_eq (tgt := 236) C dX5_does_222 (by decide) (by omega) (fun h222 => ?_) (fun h222 => ?_)
                                    · first
                                      | (exfalso; first | omega | contradiction)
                                      | refine r_iload C dX5_does_236 rfl ?_
                                        exact r_zretD C dX5_does_238 (by first | omega | exact gB_01 _) (by unfold dOk; rw [if_neg (by decide), if_neg (by decide), if_neg (by decide), if_neg (by decide), if_pos rfl]; first | exact (gB_t (by first | assumption | omega)).symm | exact (gB_f (by first | assumption | omega)).symm) (by unfold dS; rw [if_neg (by decide), if_neg (by decide), if_neg (by decide), if_neg (by decide), if_pos rfl]; first | rw [if_pos (show 0 < s 1 by first | assumption | omega)] | rw [if_neg (show ¬ (0 < s 1) by first | assumption | omega)])
                                    · first
                                      | (exfalso; first | omega | contradiction)
                                      | refine r_aload_n C dX5_does_225 rfl rfl ?_
                                        refine mm_get C flX5_7 dX5_does_226 hm rfl ?_
                                        refine r_iload_n C dX5_does_229 rfl rfl ?_
                                        refine r_iload C dX5_does_230 rfl ?_
                                        refine r_cS C cwX5_107 (liftN (c_X5_keeps (by omega) (by omega) (by omega))) dX5_does_232 rfl rfl rfl (Nat.le_of_ble_eq_true rfl) ⟨Nat.le_of_ble_eq_true rfl, Nat.le_of_ble_eq_true rfl⟩ ⟨Nat.le_of_ble_eq_true rfl, Nat.le_of_ble_eq_true rfl⟩ ?_
                                        refine r_pop C dX5_does_235 rfl ?_
                                        refine r_iload C dX5_does_236 rfl ?_
                                        exact r_zretD C dX5_does_238 (by first | omega | exact gB_01 _) (by unfold dOk; rw [if_neg (by decide), if_neg (by decide), if_neg (by decide), if_neg (by decide), if_pos rfl]; first | exact (gB_t (by first | assumption | omega)).symm | exact (gB_f (by first | assumption | omega)).symm) (by unfold dS; rw [if_neg (by decide), if_neg (by decide), if_neg (by decide), if_neg (by decide), if_pos rfl]; first | rw [if_pos (show 0 < s 1 by first | assumption | omega)] | rw [if_neg (show ¬ (0 < s 1) by first | assumption | omega)])
                                · first
                                  | (exfalso; first | omega | contradiction)
                                  | refine r_iload_n C dX5_does_194 rfl rfl ?_
                                    refine r_bipush C dX5_does_195 (by decide) ?_
                                    refine r_icmp_ne (tgt := 220) C dX5_does_197 (by decide) (by omega) (by omega) (fun h197 => ?_) (fun h197 => ?_)
                                    · refine r_iload C dX5_does_220 rfl ?_
                                      refine r_if_eq (tgt := 236) C dX5_does_222 (by decide) (by omega) (fun h222 => ?_) (fun h222 => ?_)
                                      · first
                                        | (exfalso; first | omega | contradiction)
                                        | refine r_iload C dX5_does_236 rfl ?_
                                          exact r_zretD C dX5_does_238 (by first | omega | exact gB_01 _) (by unfold dOk; rw [if_neg (by decide), if_neg (by decide), if_neg (by decide), if_neg (by decide), if_pos rfl]; first | exact (gB_t (by first | assumption | omega)).symm | exact (gB_f (by first | assumption | omega)).symm) (by unfold dS; rw [if_neg (by decide), if_neg (by decide), if_neg (by decide), if_neg (by decide), if_pos rfl]; first | rw [if_pos (show 0 < s 1 by first | assumption | omega)] | rw [if_neg (show ¬ (0 < s 1) by first | assumption | omega)])
                                      · first
                                        | (exfalso; first | omega | contradiction)
                                        | refine r_aload_n C dX5_does_225 rfl rfl ?_
                                          refine mm_get C flX5_7 dX5_does_226 hm rfl ?_
                                          refine r_iload_n C dX5_does_229 rfl rfl ?_
                                          refine r_iload C dX5_does_230 rfl ?_
                                          refine r_cS C cwX5_107 (liftN (c_X5_keeps (by omega) (by omega) (by omega))) dX5_does_232 rfl rfl rfl (Nat.le_of_ble_eq_true rfl) ⟨Nat.le_of_ble_eq_true rfl, Nat.le_of_ble_eq_true rfl⟩ ⟨Nat.le_of_ble_eq_true rfl, Nat.le_of_ble_eq_true rfl⟩ ?_
                                          refine r_pop C dX5_does_235 rfl ?_
                                          refine r_iload C dX5_does_236 rfl ?_
                                          exact r_zretD C dX5_does_238 (by first | omega | exact gB_01 _) (by unfold dOk; rw [if_neg (by decide), if_neg (by decide), if_neg (by decide), if_neg (by decide), if_pos rfl]; first | exact (gB_t (by first | assumption | omega)).symm | exact (gB_f (by first | assumption | omega)).symm) (by unfold dS; rw [if_neg (by decide), if_neg (by decide), if_neg (by decide), if_neg (by decide), if_pos rfl]; first | rw [if_pos (show 0 < s 1 by first | assumption | omega)] | rw [if_neg (show ¬ (0 < s 1) by first | assumption | omega)])
                                    · (exfalso; omega)
                            · first
                              | (exfalso; first | omega | contradiction)
                              | refine r_iload_n C dX5_does_172 rfl rfl ?_
                                refine r_bipush C dX5_does_173 (by decide) ?_
                                refine r_icmp_ne (tgt := 189) C dX5_does_175 (by decide) (by omega) (by omega) (fun h175 => ?_) (fun h175 => ?_)
                                · (exfalso; omega)
                                · refine r_aload_n C dX5_does_178 rfl rfl ?_
                                  refine mm_get C flX5_7 dX5_does_179 hm rfl ?_
                                  refine r_iload_n C dX5_does_182 rfl rfl ?_
                                  refine r_cSv C cwX5_80 (liftN (c_X5_renews (by omega) (by omega))) dX5_does_183 rfl rfl rfl (Nat.le_of_ble_eq_true rfl) ⟨Nat.le_of_ble_eq_true rfl, Nat.le_of_ble_eq_true rfl⟩ ⟨Nat.le_of_ble_eq_true rfl, Nat.le_of_ble_eq_true rfl⟩ ?_
                                  refine r_goto (tgt := 236) C dX5_does_186 (by decide) ?_
                                  refine r_iload C dX5_does_236 rfl ?_
                                  exact r_zretD C dX5_does_238 (by first | omega | exact gB_01 _) (by unfold dOk; rw [if_neg (by decide), if_neg (by decide), if_neg (by decide), if_neg (by decide), if_pos rfl]; first | exact (gB_t (by first | assumption | omega)).symm | exact (gB_f (by first | assumption | omega)).symm) (by unfold dS; rw [if_neg (by decide), if_neg (by decide), if_neg (by decide), if_neg (by decide), if_pos rfl]; first | rw [if_pos (show 0 < s 1 by first | assumption | omega)] | rw [if_neg (show ¬ (0 < s 1) by first | assumption | omega)])
                        · first
                          | (exfalso; first | omega | contradiction)
                          | refine r_aload_n C dX5_does_156 rfl rfl ?_
                            refine mm_get C flX5_7 dX5_does_157 hm rfl ?_
                            refine r_iload_n C dX5_does_160 rfl rfl ?_
                            refine r_cSv C cwX5_73 (liftN (c_X5_lights (by omega) (by omega))) dX5_does_161 rfl rfl rfl (Nat.le_of_ble_eq_true rfl) ⟨Nat.le_of_ble_eq_true rfl, Nat.le_of_ble_eq_true rfl⟩ ⟨Nat.le_of_ble_eq_true rfl, Nat.le_of_ble_eq_true rfl⟩ ?_
                            refine r_goto (tgt := 236) C dX5_does_164 (by decide) ?_
                            refine r_iload C dX5_does_236 rfl ?_
                            exact r_zretD C dX5_does_238 (by first | omega | exact gB_01 _) (by unfold dOk; rw [if_neg (by decide), if_neg (by decide), if_neg (by decide), if_neg (by decide), if_pos rfl]; first | exact (gB_t (by first | assumption | omega)).symm | exact (gB_f (by first | assumption | omega)).symm) (by unfold dS; rw [if_neg (by decide), if_neg (by decide), if_neg (by decide), if_neg (by decide), if_pos rfl]; first | rw [if_pos (show 0 < s 1 by first | assumption | omega)] | rw [if_neg (show ¬ (0 < s 1) by first | assumption | omega)])
                      · (exfalso; omega)
          · (exfalso; omega)
      · (exfalso; omega)
    · (exfalso; omega)
  · subst hw
    refine r_aload_n C dX5_does_0 rfl rfl ?_
    refine mm_get C flX5_22 dX5_does_1 hm rfl ?_
    refine r_iconst C dX5_does_4 ?_
    refine r_iload_n C dX5_does_5 rfl rfl ?_
    refine r_imul C dX5_does_6 ?_
    refine r_iald C dX5_does_7 (by omega) mput_5 (by omega) (by omega) ?_
    rw [h0]
    refine r_istore_n C dX5_does_8 rfl (Nat.le_of_ble_eq_true rfl) rfl ?_
    dsimp only [List.set]
    refine r_aload_n C dX5_does_9 rfl rfl ?_
    refine mm_get C flX5_22 dX5_does_10 hm rfl ?_
    refine r_iconst C dX5_does_13 ?_
    refine r_iload_n C dX5_does_14 rfl rfl ?_
    refine r_imul C dX5_does_15 ?_
    refine r_iconst C dX5_does_16 ?_
    refine r_iadd C dX5_does_17 ?_
    refine r_iald C dX5_does_18 (by omega) mput_5 (by omega) (by omega) ?_
    rw [h1]
    refine r_istore_n C dX5_does_19 rfl (Nat.le_of_ble_eq_true rfl) rfl ?_
    dsimp only [List.set]
    refine r_aload_n C dX5_does_20 rfl rfl ?_
    refine mm_get C flX5_22 dX5_does_21 hm rfl ?_
    refine r_iconst C dX5_does_24 ?_
    refine r_iload_n C dX5_does_25 rfl rfl ?_
    refine r_imul C dX5_does_26 ?_
    refine r_iconst C dX5_does_27 ?_
    refine r_iadd C dX5_does_28 ?_
    refine r_iald C dX5_does_29 (by omega) mput_5 (by omega) (by omega) ?_
    rw [h2 (by omega)]
    refine r_istore C dX5_does_30 (Nat.le_of_ble_eq_true rfl) rfl ?_
    dsimp only [List.set]
    refine r_iload_n C dX5_does_32 rfl rfl ?_
    refine r_iload_n C dX5_does_33 rfl rfl ?_
    refine r_bipush C dX5_does_34 (by decide) ?_
    refine r_icmp_ne (tgt := 43) C dX5_does_36 (by decide) (by omega) (by omega) (fun h36 => ?_) (fun h36 => ?_)
    · refine r_iconst C dX5_does_43 ?_
      refine r_iadd C dX5_does_44 ?_
      refine r_bipush C dX5_does_45 (by decide) ?_
      refine r_irem C dX5_does_47 (by omega) (by omega) ?_
      refine r_istore C dX5_does_48 (Nat.le_of_ble_eq_true rfl) rfl ?_
      dsimp only [List.set]
      refine r_iload_n C dX5_does_50 rfl rfl ?_
      refine r_bipush C dX5_does_51 (by decide) ?_
      refine r_icmp_ne (tgt := 67) C dX5_does_53 (by decide) (by omega) (by omega) (fun h53 => ?_) (fun h53 => ?_)
      · refine r_iload_n C dX5_does_67 rfl rfl ?_
        refine r_bipush C dX5_does_68 (by decide) ?_
        refine r_icmp_eq (tgt := 79) C dX5_does_70 (by decide) (by omega) (by omega) (fun h70 => ?_) (fun h70 => ?_)
        · (exfalso; omega)
        · refine r_iload_n C dX5_does_73 rfl rfl ?_
          refine r_bipush C dX5_does_74 (by decide) ?_
          refine r_icmp_ne (tgt := 96) C dX5_does_76 (by decide) (by omega) (by omega) (fun h76 => ?_) (fun h76 => ?_)
          · refine r_iconst C dX5_does_96 ?_
            refine r_istore C dX5_does_97 (Nat.le_of_ble_eq_true rfl) rfl ?_
            dsimp only [List.set]
            refine r_iload C dX5_does_99 rfl ?_
            refine r_if_ne (tgt := 144) C dX5_does_101 (by decide) (by omega) (fun h101 => ?_) (fun h101 => ?_)
            · first
              | (exfalso; first | omega | contradiction)
              | refine r_iconst C dX5_does_144 ?_
                refine r_goto (tgt := 149) C dX5_does_145 (by decide) ?_
                refine r_istore C dX5_does_149 (Nat.le_of_ble_eq_true rfl) rfl ?_
                dsimp only [List.set]
                refine r_iload C dX5_does_151 rfl ?_
                refine r_if_eq (tgt := 167) C dX5_does_153 (by decide) (by omega) (fun h153 => ?_) (fun h153 => ?_)
                · first
                  | (exfalso; first | omega | contradiction)
                  | refine r_iload C dX5_does_167 rfl ?_
                    refine r_if_eq (tgt := 189) C dX5_does_169 (by decide) (by omega) (fun h169 => ?_) (fun h169 => ?_)
                    · first
                      | (exfalso; first | omega | contradiction)
                      | refine r_iload C dX5_does_189 rfl ?_
                        refine r_if_eq (tgt := 220) C dX5_does_191 (by decide) (by omega) (fun h191 => ?_) (fun h191 => ?_)
                        · first
                          | (exfalso; first | omega | contradiction)
                          | refine r_iload C dX5_does_220 rfl ?_
                            refine r_if_eq (tgt := 236) C dX5_does_222 (by decide) (by omega) (fun h222 => ?_) (fun h222 => ?_)
                            · first
                              | (exfalso; first | omega | contradiction)
                              | refine r_iload C dX5_does_236 rfl ?_
                                exact r_zretD C dX5_does_238 (by first | omega | exact gB_01 _) (by unfold dOk; rw [if_neg (by decide), if_neg (by decide), if_neg (by decide), if_neg (by decide), if_neg (by decide)]; first | exact (gB_t (by first | assumption | omega)).symm | exact (gB_f (by first | assumption | omega)).symm) (by unfold dS; rw [if_neg (by decide), if_neg (by decide), if_neg (by decide), if_neg (by decide), if_neg (by decide)]; first | rw [if_pos (show mayK s r w by first | assumption | omega)] | rw [if_neg (show ¬ (mayK s r w) by first | assumption | omega)])
                            · first
                              | (exfalso; first | omega | contradiction)
                              | refine r_aload_n C dX5_does_225 rfl rfl ?_
                                refine mm_get C flX5_7 dX5_does_226 hm rfl ?_
                                refine r_iload_n C dX5_does_229 rfl rfl ?_
                                refine r_iload C dX5_does_230 rfl ?_
                                refine r_cS C cwX5_107 (liftN (c_X5_keeps (by omega) (by omega) (by omega))) dX5_does_232 rfl rfl rfl (Nat.le_of_ble_eq_true rfl) ⟨Nat.le_of_ble_eq_true rfl, Nat.le_of_ble_eq_true rfl⟩ ⟨Nat.le_of_ble_eq_true rfl, Nat.le_of_ble_eq_true rfl⟩ ?_
                                refine r_pop C dX5_does_235 rfl ?_
                                refine r_iload C dX5_does_236 rfl ?_
                                exact r_zretD C dX5_does_238 (by first | omega | exact gB_01 _) (by unfold dOk; rw [if_neg (by decide), if_neg (by decide), if_neg (by decide), if_neg (by decide), if_neg (by decide)]; first | exact (gB_t (by first | assumption | omega)).symm | exact (gB_f (by first | assumption | omega)).symm) (by unfold dS; rw [if_neg (by decide), if_neg (by decide), if_neg (by decide), if_neg (by decide), if_neg (by decide)]; first | rw [if_pos (show mayK s r w by first | assumption | omega)] | rw [if_neg (show ¬ (mayK s r w) by first | assumption | omega)])
                        · first
                          | (exfalso; first | omega | contradiction)
                          | refine r_iload_n C dX5_does_194 rfl rfl ?_
                            refine r_bipush C dX5_does_195 (by decide) ?_
                            refine r_icmp_ne (tgt := 220) C dX5_does_197 (by decide) (by omega) (by omega) (fun h197 => ?_) (fun h197 => ?_)
                            · refine r_iload C dX5_does_220 rfl ?_
                              refine r_if_eq (tgt := 236) C dX5_does_222 (by decide) (by omega) (fun h222 => ?_) (fun h222 => ?_)
                              · first
                                | (exfalso; first | omega | contradiction)
                                | refine r_iload C dX5_does_236 rfl ?_
                                  exact r_zretD C dX5_does_238 (by first | omega | exact gB_01 _) (by unfold dOk; rw [if_neg (by decide), if_neg (by decide), if_neg (by decide), if_neg (by decide), if_neg (by decide)]; first | exact (gB_t (by first | assumption | omega)).symm | exact (gB_f (by first | assumption | omega)).symm) (by unfold dS; rw [if_neg (by decide), if_neg (by decide), if_neg (by decide), if_neg (by decide), if_neg (by decide)]; first | rw [if_pos (show mayK s r w by first | assumption | omega)] | rw [if_neg (show ¬ (mayK s r w) by first | assumption | omega)])
                              · first
                                | (exfalso; first | omega | contradiction)
                                | refine r_aload_n C dX5_does_225 rfl rfl ?_
                                  refine mm_get C flX5_7 dX5_does_226 hm rfl ?_
                                  refine r_iload_n C dX5_does_229 rfl rfl ?_
                                  refine r_iload C dX5_does_230 rfl ?_
                                  refine r_cS C cwX5_107 (liftN (c_X5_keeps (by omega) (by omega) (by omega))) dX5_does_232 rfl rfl rfl (Nat.le_of_ble_eq_true rfl) ⟨Nat.le_of_ble_eq_true rfl, Nat.le_of_ble_eq_true rfl⟩ ⟨Nat.le_of_ble_eq_true rfl, Nat.le_of_ble_eq_true rfl⟩ ?_
                                  refine r_pop C dX5_does_235 rfl ?_
                                  refine r_iload C dX5_does_236 rfl ?_
                                  exact r_zretD C dX5_does_238 (by first | omega | exact gB_01 _) (by unfold dOk; rw [if_neg (by decide), if_neg (by decide), if_neg (by decide), if_neg (by decide), if_neg (by decide)]; first | exact (gB_t (by first | assumption | omega)).symm | exact (gB_f (by first | assumption | omega)).symm) (by unfold dS; rw [if_neg (by decide), if_neg (by decide), if_neg (by decide), if_neg (by decide), if_neg (by decide)]; first | rw [if_pos (show mayK s r w by first | assumption | omega)] | rw [if_neg (show ¬ (mayK s r w) by first | assumption | omega)])
                            · (exfalso; omega)
                    · first
                      | (exfalso; first | omega | contradiction)
                      | refine r_iload_n C dX5_does_172 rfl rfl ?_
                        refine r_bipush C dX5_does_173 (by decide) ?_
                        refine r_icmp_ne (tgt := 189) C dX5_does_175 (by decide) (by omega) (by omega) (fun h175 => ?_) (fun h175 => ?_)
                        · refine r_iload C dX5_does_189 rfl ?_
                          refine r_if_eq (tgt := 220) C dX5_does_191 (by decide) (by omega) (fun h191 => ?_) (fun h191 => ?_)
                          · first
                            | (exfalso; first | omega | contradiction)
                            | refine r_iload C dX5_does_220 rfl ?_
                              refine r_if_eq (tgt := 236) C dX5_does_222 (by decide) (by omega) (fun h222 => ?_) (fun h222 => ?_)
                              · first
                                | (exfalso; first | omega | contradiction)
                                | refine r_iload C dX5_does_236 rfl ?_
                                  exact r_zretD C dX5_does_238 (by first | omega | exact gB_01 _) (by unfold dOk; rw [if_neg (by decide), if_neg (by decide), if_neg (by decide), if_neg (by decide), if_neg (by decide)]; first | exact (gB_t (by first | assumption | omega)).symm | exact (gB_f (by first | assumption | omega)).symm) (by unfold dS; rw [if_neg (by decide), if_neg (by decide), if_neg (by decide), if_neg (by decide), if_neg (by decide)]; first | rw [if_pos (show mayK s r w by first | assumption | omega)] | rw [if_neg (show ¬ (mayK s r w) by first | assumption | omega)])
                              · first
                                | (exfalso; first | omega | contradiction)
                                | refine r_aload_n C dX5_does_225 rfl rfl ?_
                                  refine mm_get C flX5_7 dX5_does_226 hm rfl ?_
                                  refine r_iload_n C dX5_does_229 rfl rfl ?_
                                  refine r_iload C dX5_does_230 rfl ?_
                                  refine r_cS C cwX5_107 (liftN (c_X5_keeps (by omega) (by omega) (by omega))) dX5_does_232 rfl rfl rfl (Nat.le_of_ble_eq_true rfl) ⟨Nat.le_of_ble_eq_true rfl, Nat.le_of_ble_eq_true rfl⟩ ⟨Nat.le_of_ble_eq_true rfl, Nat.le_of_ble_eq_true rfl⟩ ?_
                                  refine r_pop C dX5_does_235 rfl ?_
                                  refine r_iload C dX5_does_236 rfl ?_
                                  exact r_zretD C dX5_does_238 (by first | omega | exact gB_01 _) (by unfold dOk; rw [if_neg (by decide), if_neg (by decide), if_neg (by decide), if_neg (by decide), if_neg (by decide)]; first | exact (gB_t (by first | assumption | omega)).symm | exact (gB_f (by first | assumption | omega)).symm) (by unfold dS; rw [if_neg (by decide), if_neg (by decide), if_neg (by decide), if_neg (by decide), if_neg (by decide)]; first | rw [if_pos (show mayK s r w by first | assumption | omega)] | rw [if_neg (show ¬ (mayK s r w) by first | assumption | omega)])
                          · first
                            | (exfalso; first | omega | contradiction)
                            | refine r_iload_n C dX5_does_194 rfl rfl ?_
                              refine r_bipush C dX5_does_195 (by decide) ?_
                              refine r_icmp_ne (tgt := 220) C dX5_does_197 (by decide) (by omega) (by omega) (fun h197 => ?_) (fun h197 => ?_)
                              · refine r_iload C dX5_does_220 rfl ?_
                                refine r_if_eq (tgt := 236) C dX5_does_222 (by decide) (by omega) (fun h222 => ?_) (fun h222 => ?_)
                                · first
                                  | (exfalso; first | omega | contradiction)
                                  | refine r_iload C dX5_does_236 rfl ?_
                                    exact r_zretD C dX5_does_238 (by first | omega | exact gB_01 _) (by unfold dOk; rw [if_neg (by decide), if_neg (by decide), if_neg (by decide), if_neg (by decide), if_neg (by decide)]; first | exact (gB_t (by first | assumption | omega)).symm | exact (gB_f (by first | assumption | omega)).symm) (by unfold dS; rw [if_neg (by decide), if_neg (by decide), if_neg (by decide), if_neg (by decide), if_neg (by decide)]; first | rw [if_pos (show mayK s r w by first | assumption | omega)] | rw [if_neg (show ¬ (mayK s r w) by first | assumption | omega)])
                                · first
                                  | (exfalso; first | omega | contradiction)
                                  | refine r_aload_n C dX5_does_225 rfl rfl ?_
                                    refine mm_get C flX5_7 dX5_does_226 hm rfl ?_
                                    refine r_iload_n C dX5_does_229 rfl rfl ?_
                                    refine r_iload C dX5_does_230 rfl ?_
                                    refine r_cS C cwX5_107 (liftN (c_X5_keeps (by omega) (by omega) (by omega))) dX5_does_232 rfl rfl rfl (Nat.le_of_ble_eq_true rfl) ⟨Nat.le_of_ble_eq_true rfl, Nat.le_of_ble_eq_true rfl⟩ ⟨Nat.le_of_ble_eq_true rfl, Nat.le_of_ble_eq_true rfl⟩ ?_
                                    refine r_pop C dX5_does_235 rfl ?_
                                    refine r_iload C dX5_does_236 rfl ?_
                                    exact r_zretD C dX5_does_238 (by first | omega | exact gB_01 _) (by unfold dOk; rw [if_neg (by decide), if_neg (by decide), if_neg (by decide), if_neg (by decide), if_neg (by decide)]; first | exact (gB_t (by first | assumption | omega)).symm | exact (gB_f (by first | assumption | omega)).symm) (by unfold dS; rw [if_neg (by decide), if_neg (by decide), if_neg (by decide), if_neg (by decide), if_neg (by decide)]; first | rw [if_pos (show mayK s r w by first | assumption | omega)] | rw [if_neg (show ¬ (mayK s r w) by first | assumption | omega)])
                              · (exfalso; omega)
                        · (exfalso; omega)
                · first
                  | (exfalso; first | omega | contradiction)
                  | refine r_aload_n C dX5_does_156 rfl rfl ?_
                    refine mm_get C flX5_7 dX5_does_157 hm rfl ?_
                    refine r_iload_n C dX5_does_160 rfl rfl ?_
                    refine r_cSv C cwX5_73 (liftN (c_X5_lights (by omega) (by omega))) dX5_does_161 rfl rfl rfl (Nat.le_of_ble_eq_true rfl) ⟨Nat.le_of_ble_eq_true rfl, Nat.le_of_ble_eq_true rfl⟩ ⟨Nat.le_of_ble_eq_true rfl, Nat.le_of_ble_eq_true rfl⟩ ?_
                    refine r_goto (tgt := 236) C dX5_does_164 (by decide) ?_
                    refine r_iload C dX5_does_236 rfl ?_
                    exact r_zretD C dX5_does_238 (by first | omega | exact gB_01 _) (by unfold dOk; rw [if_neg (by decide), if_neg (by decide), if_neg (by decide), if_neg (by decide), if_neg (by decide)]; first | exact (gB_t (by first | assumption | omega)).symm | exact (gB_f (by first | assumption | omega)).symm) (by unfold dS; rw [if_neg (by decide), if_neg (by decide), if_neg (by decide), if_neg (by decide), if_neg (by decide)]; first | rw [if_pos (show mayK s r w by first | assumption | omega)] | rw [if_neg (show ¬ (mayK s r w) by first | assumption | omega)])
            · first
              | (exfalso; first | omega | contradiction)
              | refine r_iload_n C dX5_does_104 rfl rfl ?_
                refine r_bipush C dX5_does_105 (by decide) ?_
                refine r_icmp_ne (tgt := 119) C dX5_does_107 (by decide) (by omega) (by omega) (fun h107 => ?_) (fun h107 => ?_)
                · refine r_iload_n C dX5_does_119 rfl rfl ?_
                  refine r_bipush C dX5_does_120 (by decide) ?_
                  refine r_icmp_eq (tgt := 144) C dX5_does_122 (by decide) (by omega) (by omega) (fun h122 => ?_) (fun h122 => ?_)
                  · (exfalso; omega)
                  · refine r_iload_n C dX5_does_125 rfl rfl ?_
                    refine r_bipush C dX5_does_126 (by decide) ?_
                    refine r_icmp_ne (tgt := 148) C dX5_does_128 (by decide) (by omega) (by omega) (fun h128 => ?_) (fun h128 => ?_)
                    · (exfalso; omega)
                    · refine r_aload_n C dX5_does_131 rfl rfl ?_
                      refine mm_get C flX5_7 dX5_does_132 hm rfl ?_
                      refine r_iload_n C dX5_does_135 rfl rfl ?_
                      refine r_iload C dX5_does_136 rfl ?_
                      refine r_cS C cwX5_104 (c_X5_mayKeep (by omega) mput_1 hs (by omega) (by omega)) dX5_does_138 rfl rfl rfl (Nat.le_of_ble_eq_true rfl) ⟨Nat.le_of_ble_eq_true rfl, Nat.le_of_ble_eq_true rfl⟩ ⟨Nat.le_of_ble_eq_true rfl, Nat.le_of_ble_eq_true rfl⟩ ?_
                      refine r_ifb_eq (tgt := 148) C dX5_does_141 (by decide) (fun h141 => ?_) (fun h141 => ?_)
                      · refine r_iconst C dX5_does_148 ?_
                        refine r_istore C dX5_does_149 (Nat.le_of_ble_eq_true rfl) rfl ?_
                        dsimp only [List.set]
                        refine r_iload C dX5_does_151 rfl ?_
                        refine r_if_eq (tgt := 167) C dX5_does_153 (by decide) (by omega) (fun h153 => ?_) (fun h153 => ?_)
                        · first
                          | (exfalso; first | omega | contradiction)
                          | refine r_iload C dX5_does_167 rfl ?_
                            refine r_if_eq (tgt := 189) C dX5_does_169 (by decide) (by omega) (fun h169 => ?_) (fun h169 => ?_)
                            · first
                              | (exfalso; first | omega | contradiction)
                              | refine r_iload C dX5_does_189 rfl ?_
                                refine r_if_eq (tgt := 220) C dX5_does_191 (by decide) (by omega) (fun h191 => ?_) (fun h191 => ?_)
                                · first
                                  | (exfalso; first | omega | contradiction)
                                  | refine r_iload C dX5_does_220 rfl ?_
                                    refine r_if_eq (tgt := 236) C dX5_does_222 (by decide) (by omega) (fun h222 => ?_) (fun h222 => ?_)
                                    · first
                                      | (exfalso; first | omega | contradiction)
                                      | refine r_iload C dX5_does_236 rfl ?_
                                        exact r_zretD C dX5_does_238 (by first | omega | exact gB_01 _) (by unfold dOk; rw [if_neg (by decide), if_neg (by decide), if_neg (by decide), if_neg (by decide), if_neg (by decide)]; first | exact (gB_t (by first | assumption | omega)).symm | exact (gB_f (by first | assumption | omega)).symm) (by unfold dS; rw [if_neg (by decide), if_neg (by decide), if_neg (by decide), if_neg (by decide), if_neg (by decide)]; first | rw [if_pos (show mayK s r w by first | assumption | omega)] | rw [if_neg (show ¬ (mayK s r w) by first | assumption | omega)])
                                    · first
                                      | (exfalso; first | omega | contradiction)
                                      | refine r_aload_n C dX5_does_225 rfl rfl ?_
                                        refine mm_get C flX5_7 dX5_does_226 hm rfl ?_
                                        refine r_iload_n C dX5_does_229 rfl rfl ?_
                                        refine r_iload C dX5_does_230 rfl ?_
                                        refine r_cS C cwX5_107 (liftN (c_X5_keeps (by omega) (by omega) (by omega))) dX5_does_232 rfl rfl rfl (Nat.le_of_ble_eq_true rfl) ⟨Nat.le_of_ble_eq_true rfl, Nat.le_of_ble_eq_true rfl⟩ ⟨Nat.le_of_ble_eq_true rfl, Nat.le_of_ble_eq_true rfl⟩ ?_
                                        refine r_pop C dX5_does_235 rfl ?_
                                        refine r_iload C dX5_does_236 rfl ?_
                                        exact r_zretD C dX5_does_238 (by first | omega | exact gB_01 _) (by unfold dOk; rw [if_neg (by decide), if_neg (by decide), if_neg (by decide), if_neg (by decide), if_neg (by decide)]; first | exact (gB_t (by first | assumption | omega)).symm | exact (gB_f (by first | assumption | omega)).symm) (by unfold dS; rw [if_neg (by decide), if_neg (by decide), if_neg (by decide), if_neg (by decide), if_neg (by decide)]; first | rw [if_pos (show mayK s r w by first | assumption | omega)] | rw [if_neg (show ¬ (mayK s r w) by first | assumption | omega)])
                                · first
                                  | (exfalso; first | omega | contradiction)
                                  | refine r_iload_n C dX5_does_194 rfl rfl ?_
                                    refine r_bipush C dX5_does_195 (by decide) ?_
                                    refine r_icmp_ne (tgt := 220) C dX5_does_197 (by decide) (by omega) (by omega) (fun h197 => ?_) (fun h197 => ?_)
                                    · refine r_iload C dX5_does_220 rfl ?_
                                      refine r_if_eq (tgt := 236) C dX5_does_222 (by decide) (by omega) (fun h222 => ?_) (fun h222 => ?_)
                                      · first
                                        | (exfalso; first | omega | contradiction)
                                        | refine r_iload C dX5_does_236 rfl ?_
                                          exact r_zretD C dX5_does_238 (by first | omega | exact gB_01 _) (by unfold dOk; rw [if_neg (by decide), if_neg (by decide), if_neg (by decide), if_neg (by decide), if_neg (by decide)]; first | exact (gB_t (by first | assumption | omega)).symm | exact (gB_f (by first | assumption | omega)).symm) (by unfold dS; rw [if_neg (by decide), if_neg (by decide), if_neg (by decide), if_neg (by decide), if_neg (by decide)]; first | rw [if_pos (show mayK s r w by first | assumption | omega)] | rw [if_neg (show ¬ (mayK s r w) by first | assumption | omega)])
                                      · first
                                        | (exfalso; first | omega | contradiction)
                                        | refine r_aload_n C dX5_does_225 rfl rfl ?_
                                          refine mm_get C flX5_7 dX5_does_226 hm rfl ?_
                                          refine r_iload_n C dX5_does_229 rfl rfl ?_
                                          refine r_iload C dX5_does_230 rfl ?_
                                          refine r_cS C cwX5_107 (liftN (c_X5_keeps (by omega) (by omega) (by omega))) dX5_does_232 rfl rfl rfl (Nat.le_of_ble_eq_true rfl) ⟨Nat.le_of_ble_eq_true rfl, Nat.le_of_ble_eq_true rfl⟩ ⟨Nat.le_of_ble_eq_true rfl, Nat.le_of_ble_eq_true rfl⟩ ?_
                                          refine r_pop C dX5_does_235 rfl ?_
                                          refine r_iload C dX5_does_236 rfl ?_
                                          exact r_zretD C dX5_does_238 (by first | omega | exact gB_01 _) (by unfold dOk; rw [if_neg (by decide), if_neg (by decide), if_neg (by decide), if_neg (by decide), if_neg (by decide)]; first | exact (gB_t (by first | assumption | omega)).symm | exact (gB_f (by first | assumption | omega)).symm) (by unfold dS; rw [if_neg (by decide), if_neg (by decide), if_neg (by decide), if_neg (by decide), if_neg (by decide)]; first | rw [if_pos (show mayK s r w by first | assumption | omega)] | rw [if_neg (show ¬ (mayK s r w) by first | assumption | omega)])
                                    · (exfalso; omega)
                            · first
                              | (exfalso; first | omega | contradiction)
                              | refine r_iload_n C dX5_does_172 rfl rfl ?_
                                refine r_bipush C dX5_does_173 (by decide) ?_
                                refine r_icmp_ne (tgt := 189) C dX5_does_175 (by decide) (by omega) (by omega) (fun h175 => ?_) (fun h175 => ?_)
                                · refine r_iload C dX5_does_189 rfl ?_
                                  refine r_if_eq (tgt := 220) C dX5_does_191 (by decide) (by omega) (fun h191 => ?_) (fun h191 => ?_)
                                  · first
                                    | (exfalso; first | omega | contradiction)
                                    | refine r_iload C dX5_does_220 rfl ?_
                                      refine r_if_eq (tgt := 236) C dX5_does_222 (by decide) (by omega) (fun h222 => ?_) (fun h222 => ?_)
                                      · first
                                        | (exfalso; first | omega | contradiction)
                                        | refine r_iload C dX5_does_236 rfl ?_
                                          exact r_zretD C dX5_does_238 (by first | omega | exact gB_01 _) (by unfold dOk; rw [if_neg (by decide), if_neg (by decide), if_neg (by decide), if_neg (by decide), if_neg (by decide)]; first | exact (gB_t (by first | assumption | omega)).symm | exact (gB_f (by first | assumption | omega)).symm) (by unfold dS; rw [if_neg (by decide), if_neg (by decide), if_neg (by decide), if_neg (by decide), if_neg (by decide)]; first | rw [if_pos (show mayK s r w by first | assumption | omega)] | rw [if_neg (show ¬ (mayK s r w) by first | assumption | omega)])
                                      · first
                                        | (exfalso; first | omega | contradiction)
                                        | refine r_aload_n C dX5_does_225 rfl rfl ?_
                                          refine mm_get C flX5_7 dX5_does_226 hm rfl ?_
                                          refine r_iload_n C dX5_does_229 rfl rfl ?_
                                          refine r_iload C dX5_does_230 rfl ?_
                                          refine r_cS C cwX5_107 (liftN (c_X5_keeps (by omega) (by omega) (by omega))) dX5_does_232 rfl rfl rfl (Nat.le_of_ble_eq_true rfl) ⟨Nat.le_of_ble_eq_true rfl, Nat.le_of_ble_eq_true rfl⟩ ⟨Nat.le_of_ble_eq_true rfl, Nat.le_of_ble_eq_true rfl⟩ ?_
                                          refine r_pop C dX5_does_235 rfl ?_
                                          refine r_iload C dX5_does_236 rfl ?_
                                          exact r_zretD C dX5_does_238 (by first | omega | exact gB_01 _) (by unfold dOk; rw [if_neg (by decide), if_neg (by decide), if_neg (by decide), if_neg (by decide), if_neg (by decide)]; first | exact (gB_t (by first | assumption | omega)).symm | exact (gB_f (by first | assumption | omega)).symm) (by unfold dS; rw [if_neg (by decide), if_neg (by decide), if_neg (by decide), if_neg (by decide), if_neg (by decide)]; first | rw [if_pos (show mayK s r w by first | assumption | omega)] | rw [if_neg (show ¬ (mayK s r w) by first | assumption | omega)])
                                  · first
                                    | (exfalso; first | omega | contradiction)
                                    | refine r_iload_n C dX5_does_194 rfl rfl ?_
                                      refine r_bipush C dX5_does_195 (by decide) ?_
                                      refine r_icmp_ne (tgt := 220) C dX5_does_197 (by decide) (by omega) (by omega) (fun h197 => ?_) (fun h197 => ?_)
                                      · refine r_iload C dX5_does_220 rfl ?_
                                        refine r_if_eq (tgt := 236) C dX5_does_222 (by decide) (by omega) (fun h222 => ?_) (fun h222 => ?_)
                                        · first
                                          | (exfalso; first | omega | contradiction)
                                          | refine r_iload C dX5_does_236 rfl ?_
                                            exact r_zretD C dX5_does_238 (by first | omega | exact gB_01 _) (by unfold dOk; rw [if_neg (by decide), if_neg (by decide), if_neg (by decide), if_neg (by decide), if_neg (by decide)]; first | exact (gB_t (by first | assumption | omega)).symm | exact (gB_f (by first | assumption | omega)).symm) (by unfold dS; rw [if_neg (by decide), if_neg (by decide), if_neg (by decide), if_neg (by decide), if_neg (by decide)]; first | rw [if_pos (show mayK s r w by first | assumption | omega)] | rw [if_neg (show ¬ (mayK s r w) by first | assumption | omega)])
                                        · first
                                          | (exfalso; first | omega | contradiction)
                                          | refine r_aload_n C dX5_does_225 rfl rfl ?_
                                            refine mm_get C flX5_7 dX5_does_226 hm rfl ?_
                                            refine r_iload_n C dX5_does_229 rfl rfl ?_
                                            refine r_iload C dX5_does_230 rfl ?_
                                            refine r_cS C cwX5_107 (liftN (c_X5_keeps (by omega) (by omega) (by omega))) dX5_does_232 rfl rfl rfl (Nat.le_of_ble_eq_true rfl) ⟨Nat.le_of_ble_eq_true rfl, Nat.le_of_ble_eq_true rfl⟩ ⟨Nat.le_of_ble_eq_true rfl, Nat.le_of_ble_eq_true rfl⟩ ?_
                                            refine r_pop C dX5_does_235 rfl ?_
                                            refine r_iload C dX5_does_236 rfl ?_
                                            exact r_zretD C dX5_does_238 (by first | omega | exact gB_01 _) (by unfold dOk; rw [if_neg (by decide), if_neg (by decide), if_neg (by decide), if_neg (by decide), if_neg (by decide)]; first | exact (gB_t (by first | assumption | omega)).symm | exact (gB_f (by first | assumption | omega)).symm) (by unfold dS; rw [if_neg (by decide), if_neg (by decide), if_neg (by decide), if_neg (by decide), if_neg (by decide)]; first | rw [if_pos (show mayK s r w by first | assumption | omega)] | rw [if_neg (show ¬ (mayK s r w) by first | assumption | omega)])
                                      · (exfalso; omega)
                                · (exfalso; omega)
                        · first
                          | (exfalso; first | omega | contradiction)
                          | refine r_aload_n C dX5_does_156 rfl rfl ?_
                            refine mm_get C flX5_7 dX5_does_157 hm rfl ?_
                            refine r_iload_n C dX5_does_160 rfl rfl ?_
                            refine r_cSv C cwX5_73 (liftN (c_X5_lights (by omega) (by omega))) dX5_does_161 rfl rfl rfl (Nat.le_of_ble_eq_true rfl) ⟨Nat.le_of_ble_eq_true rfl, Nat.le_of_ble_eq_true rfl⟩ ⟨Nat.le_of_ble_eq_true rfl, Nat.le_of_ble_eq_true rfl⟩ ?_
                            refine r_goto (tgt := 236) C dX5_does_164 (by decide) ?_
                            refine r_iload C dX5_does_236 rfl ?_
                            exact r_zretD C dX5_does_238 (by first | omega | exact gB_01 _) (by unfold dOk; rw [if_neg (by decide), if_neg (by decide), if_neg (by decide), if_neg (by decide), if_neg (by decide)]; first | exact (gB_t (by first | assumption | omega)).symm | exact (gB_f (by first | assumption | omega)).symm) (by unfold dS; rw [if_neg (by decide), if_neg (by decide), if_neg (by decide), if_neg (by decide), if_neg (by decide)]; first | rw [if_pos (show mayK s r w by first | assumption | omega)] | rw [if_neg (show ¬ (mayK s r w) by first | assumption | omega)])
                      · have hkk := h141.2
                        refine r_iconst C dX5_does_144 ?_
                        refine r_goto (tgt := 149) C dX5_does_145 (by decide) ?_
                        refine r_istore C dX5_does_149 (Nat.le_of_ble_eq_true rfl) rfl ?_
                        dsimp only [List.set]
                        refine r_iload C dX5_does_151 rfl ?_
                        refine r_if_eq (tgt := 167) C dX5_does_153 (by decide) (by omega) (fun h153 => ?_) (fun h153 => ?_)
                        · first
                          | (exfalso; first | omega | contradiction)
                          | refine r_iload C dX5_does_167 rfl ?_
                            refine r_if_eq (tgt := 189) C dX5_does_169 (by decide) (by omega) (fun h169 => ?_) (fun h169 => ?_)
                            · first
                              | (exfalso; first | omega | contradiction)
                              | refine r_iload C dX5_does_189 rfl ?_
                                refine r_if_eq (tgt := 220) C dX5_does_191 (by decide) (by omega) (fun h191 => ?_) (fun h191 => ?_)
                                · first
                                  | (exfalso; first | omega | contradiction)
                                  | refine r_iload C dX5_does_220 rfl ?_
                                    refine r_if_eq (tgt := 236) C dX5_does_222 (by decide) (by omega) (fun h222 => ?_) (fun h222 => ?_)
                                    · first
                                      | (exfalso; first | omega | contradiction)
                                      | refine r_iload C dX5_does_236 rfl ?_
                                        exact r_zretD C dX5_does_238 (by first | omega | exact gB_01 _) (by unfold dOk; rw [if_neg (by decide), if_neg (by decide), if_neg (by decide), if_neg (by decide), if_neg (by decide)]; first | exact (gB_t (by first | assumption | omega)).symm | exact (gB_f (by first | assumption | omega)).symm) (by unfold dS; rw [if_neg (by decide), if_neg (by decide), if_neg (by decide), if_neg (by decide), if_neg (by decide)]; first | rw [if_pos (show mayK s r w by first | assumption | omega)] | rw [if_neg (show ¬ (mayK s r w) by first | assumption | omega)])
                                    · first
                                      | (exfalso; first | omega | contradiction)
                                      | refine r_aload_n C dX5_does_225 rfl rfl ?_
                                        refine mm_get C flX5_7 dX5_does_226 hm rfl ?_
                                        refine r_iload_n C dX5_does_229 rfl rfl ?_
                                        refine r_iload C dX5_does_230 rfl ?_
                                        refine r_cS C cwX5_107 (liftN (c_X5_keeps (by omega) (by omega) (by omega))) dX5_does_232 rfl rfl rfl (Nat.le_of_ble_eq_true rfl) ⟨Nat.le_of_ble_eq_true rfl, Nat.le_of_ble_eq_true rfl⟩ ⟨Nat.le_of_ble_eq_true rfl, Nat.le_of_ble_eq_true rfl⟩ ?_
                                        refine r_pop C dX5_does_235 rfl ?_
                                        refine r_iload C dX5_does_236 rfl ?_
                                        exact r_zretD C dX5_does_238 (by first | omega | exact gB_01 _) (by unfold dOk; rw [if_neg (by decide), if_neg (by decide), if_neg (by decide), if_neg (by decide), if_neg (by decide)]; first | exact (gB_t (by first | assumption | omega)).symm | exact (gB_f (by first | assumption | omega)).symm) (by unfold dS; rw [if_neg (by decide), if_neg (by decide), if_neg (by decide), if_neg (by decide), if_neg (by decide)]; first | rw [if_pos (show mayK s r w by first | assumption | omega)] | rw [if_neg (show ¬ (mayK s r w) by first | assumption | omega)])
                                · first
                                  | (exfalso; first | omega | contradiction)
                                  | refine r_iload_n C dX5_does_194 rfl rfl ?_
                                    refine r_bipush C dX5_does_195 (by decide) ?_
                                    refine r_icmp_ne (tgt := 220) C dX5_does_197 (by decide) (by omega) (by omega) (fun h197 => ?_) (fun h197 => ?_)
                                    · refine r_iload C dX5_does_220 rfl ?_
                                      refine r_if_eq (tgt := 236) C dX5_does_222 (by decide) (by omega) (fun h222 => ?_) (fun h222 => ?_)
                                      · first
                                        | (exfalso; first | omega | contradiction)
                                        | refine r_iload C dX5_does_236 rfl ?_
                                          exact r_zretD C dX5_does_238 (by first | omega | exact gB_01 _) (by unfold dOk; rw [if_neg (by decide), if_neg (by decide), if_neg (by decide), if_neg (by decide), if_neg (by decide)]; first | exact (gB_t (by first | assumption | omega)).symm | exact (gB_f (by first | assumption | omega)).symm) (by unfold dS; rw [if_neg (by decide), if_neg (by decide), if_neg (by decide), if_neg (by decide), if_neg (by decide)]; first | rw [if_pos (show mayK s r w by first | assumption | omega)] | rw [if_neg (show ¬ (mayK s r w) by first | assumption | omega)])
                                      · first
                                        | (exfalso; first | omega | contradiction)
                                        | refine r_aload_n C dX5_does_225 rfl rfl ?_
                                          refine mm_get C flX5_7 dX5_does_226 hm rfl ?_
                                          refine r_iload_n C dX5_does_229 rfl rfl ?_
                                          refine r_iload C dX5_does_230 rfl ?_
                                          refine r_cS C cwX5_107 (liftN (c_X5_keeps (by omega) (by omega) (by omega))) dX5_does_232 rfl rfl rfl (Nat.le_of_ble_eq_true rfl) ⟨Nat.le_of_ble_eq_true rfl, Nat.le_of_ble_eq_true rfl⟩ ⟨Nat.le_of_ble_eq_true rfl, Nat.le_of_ble_eq_true rfl⟩ ?_
                                          refine r_pop C dX5_does_235 rfl ?_
                                          refine r_iload C dX5_does_236 rfl ?_
                                          exact r_zretD C dX5_does_238 (by first | omega | exact gB_01 _) (by unfold dOk; rw [if_neg (by decide), if_neg (by decide), if_neg (by decide), if_neg (by decide), if_neg (by decide)]; first | exact (gB_t (by first | assumption | omega)).symm | exact (gB_f (by first | assumption | omega)).symm) (by unfold dS; rw [if_neg (by decide), if_neg (by decide), if_neg (by decide), if_neg (by decide), if_neg (by decide)]; first | rw [if_pos (show mayK s r w by first | assumption | omega)] | rw [if_neg (show ¬ (mayK s r w) by first | assumption | omega)])
                                    · (exfalso; omega)
                            · first
                              | (exfalso; first | omega | contradiction)
                              | refine r_iload_n C dX5_does_172 rfl rfl ?_
                                refine r_bipush C dX5_does_173 (by decide) ?_
                                refine r_icmp_ne (tgt := 189) C dX5_does_175 (by decide) (by omega) (by omega) (fun h175 => ?_) (fun h175 => ?_)
                                · refine r_iload C dX5_does_189 rfl ?_
                                  refine r_if_eq (tgt := 220) C dX5_does_191 (by decide) (by omega) (fun h191 => ?_) (fun h191 => ?_)
                                  · first
                                    | (exfalso; first | omega | contradiction)
                                    | refine r_iload C dX5_does_220 rfl ?_
                                      refine r_if_eq (tgt := 236) C dX5_does_222 (by decide) (by omega) (fun h222 => ?_) (fun h222 => ?_)
                                      · first
                                        | (exfalso; first | omega | contradiction)
                                        | refine r_iload C dX5_does_236 rfl ?_
                                          exact r_zretD C dX5_does_238 (by first | omega | exact gB_01 _) (by unfold dOk; rw [if_neg (by decide), if_neg (by decide), if_neg (by decide), if_neg (by decide), if_neg (by decide)]; first | exact (gB_t (by first | assumption | omega)).symm | exact (gB_f (by first | assumption | omega)).symm) (by unfold dS; rw [if_neg (by decide), if_neg (by decide), if_neg (by decide), if_neg (by decide), if_neg (by decide)]; first | rw [if_pos (show mayK s r w by first | assumption | omega)] | rw [if_neg (show ¬ (mayK s r w) by first | assumption | omega)])
                                      · first
                                        | (exfalso; first | omega | contradiction)
                                        | refine r_aload_n C dX5_does_225 rfl rfl ?_
                                          refine mm_get C flX5_7 dX5_does_226 hm rfl ?_
                                          refine r_iload_n C dX5_does_229 rfl rfl ?_
                                          refine r_iload C dX5_does_230 rfl ?_
                                          refine r_cS C cwX5_107 (liftN (c_X5_keeps (by omega) (by omega) (by omega))) dX5_does_232 rfl rfl rfl (Nat.le_of_ble_eq_true rfl) ⟨Nat.le_of_ble_eq_true rfl, Nat.le_of_ble_eq_true rfl⟩ ⟨Nat.le_of_ble_eq_true rfl, Nat.le_of_ble_eq_true rfl⟩ ?_
                                          refine r_pop C dX5_does_235 rfl ?_
                                          refine r_iload C dX5_does_236 rfl ?_
                                          exact r_zretD C dX5_does_238 (by first | omega | exact gB_01 _) (by unfold dOk; rw [if_neg (by decide), if_neg (by decide), if_neg (by decide), if_neg (by decide), if_neg (by decide)]; first | exact (gB_t (by first | assumption | omega)).symm | exact (gB_f (by first | assumption | omega)).symm) (by unfold dS; rw [if_neg (by decide), if_neg (by decide), if_neg (by decide), if_neg (by decide), if_neg (by decide)]; first | rw [if_pos (show mayK s r w by first | assumption | omega)] | rw [if_neg (show ¬ (mayK s r w) by first | assumption | omega)])
                                  · first
                                    | (exfalso; first | omega | contradiction)
                                    | refine r_iload_n C dX5_does_194 rfl rfl ?_
                                      refine r_bipush C dX5_does_195 (by decide) ?_
                                      refine r_icmp_ne (tgt := 220) C dX5_does_197 (by decide) (by omega) (by omega) (fun h197 => ?_) (fun h197 => ?_)
                                      · refine r_iload C dX5_does_220 rfl ?_
                                        refine r_if_eq (tgt := 236) C dX5_does_222 (by decide) (by omega) (fun h222 => ?_) (fun h222 => ?_)
                                        · first
                                          | (exfalso; first | omega | contradiction)
                                          | refine r_iload C dX5_does_236 rfl ?_
                                            exact r_zretD C dX5_does_238 (by first | omega | exact gB_01 _) (by unfold dOk; rw [if_neg (by decide), if_neg (by decide), if_neg (by decide), if_neg (by decide), if_neg (by decide)]; first | exact (gB_t (by first | assumption | omega)).symm | exact (gB_f (by first | assumption | omega)).symm) (by unfold dS; rw [if_neg (by decide), if_neg (by decide), if_neg (by decide), if_neg (by decide), if_neg (by decide)]; first | rw [if_pos (show mayK s r w by first | assumption | omega)] | rw [if_neg (show ¬ (mayK s r w) by first | assumption | omega)])
                                        · first
                                          | (exfalso; first | omega | contradiction)
                                          | refine r_aload_n C dX5_does_225 rfl rfl ?_
                                            refine mm_get C flX5_7 dX5_does_226 hm rfl ?_
                                            refine r_iload_n C dX5_does_229 rfl rfl ?_
                                            refine r_iload C dX5_does_230 rfl ?_
                                            refine r_cS C cwX5_107 (liftN (c_X5_keeps (by omega) (by omega) (by omega))) dX5_does_232 rfl rfl rfl (Nat.le_of_ble_eq_true rfl) ⟨Nat.le_of_ble_eq_true rfl, Nat.le_of_ble_eq_true rfl⟩ ⟨Nat.le_of_ble_eq_true rfl, Nat.le_of_ble_eq_true rfl⟩ ?_
                                            refine r_pop C dX5_does_235 rfl ?_
                                            refine r_iload C dX5_does_236 rfl ?_
                                            exact r_zretD C dX5_does_238 (by first | omega | exact gB_01 _) (by unfold dOk; rw [if_neg (by decide), if_neg (by decide), if_neg (by decide), if_neg (by decide), if_neg (by decide)]; first | exact (gB_t (by first | assumption | omega)).symm | exact (gB_f (by first | assumption | omega)).symm) (by unfold dS; rw [if_neg (by decide), if_neg (by decide), if_neg (by decide), if_neg (by decide), if_neg (by decide)]; first | rw [if_pos (show mayK s r w by first | assumption | omega)] | rw [if_neg (show ¬ (mayK s r w) by first | assumption | omega)])
                                      · (exfalso; omega)
                                · (exfalso; omega)
                        · first
                          | (exfalso; first | omega | contradiction)
                          | refine r_aload_n C dX5_does_156 rfl rfl ?_
                            refine mm_get C flX5_7 dX5_does_157 hm rfl ?_
                            refine r_iload_n C dX5_does_160 rfl rfl ?_
                            refine r_cSv C cwX5_73 (liftN (c_X5_lights (by omega) (by omega))) dX5_does_161 rfl rfl rfl (Nat.le_of_ble_eq_true rfl) ⟨Nat.le_of_ble_eq_true rfl, Nat.le_of_ble_eq_true rfl⟩ ⟨Nat.le_of_ble_eq_true rfl, Nat.le_of_ble_eq_true rfl⟩ ?_
                            refine r_goto (tgt := 236) C dX5_does_164 (by decide) ?_
                            refine r_iload C dX5_does_236 rfl ?_
                            exact r_zretD C dX5_does_238 (by first | omega | exact gB_01 _) (by unfold dOk; rw [if_neg (by decide), if_neg (by decide), if_neg (by decide), if_neg (by decide), if_neg (by decide)]; first | exact (gB_t (by first | assumption | omega)).symm | exact (gB_f (by first | assumption | omega)).symm) (by unfold dS; rw [if_neg (by decide), if_neg (by decide), if_neg (by decide), if_neg (by decide), if_neg (by decide)]; first | rw [if_pos (show mayK s r w by first | assumption | omega)] | rw [if_neg (show ¬ (mayK s r w) by first | assumption | omega)])
                · (exfalso; omega)
          · (exfalso; omega)
      · (exfalso; omega)
    · (exfalso; omega)

