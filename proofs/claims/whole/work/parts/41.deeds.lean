/-! the deeds told, one by one, are the deeds of the text -/
section DEEDS
variable {len : Int} {x : Int → Int}
theorem pE_cases {p : Int} (h : pOk len x p) : (cAt len x (p + 1) = 98 ∧ pE len x p = p + 3) ∨ (cAt len x (p + 1) = 43 ∧ nTwo len x (p + 2) 1 ∧ pE len x p = p + 4) ∨ (cAt len x (p + 1) = 43 ∧ ¬ nTwo len x (p + 2) 1 ∧ pE len x p = p + 3) ∨ (cAt len x (p + 1) ≠ 98 ∧ cAt len x (p + 1) ≠ 43 ∧ pE len x p = p + 2) := by
  unfold pE nEnd
  by_cases c : cAt len x (p + 1) = 98
  · left; rw [if_pos c, if_neg (fun c => absurd c.1 (by decide))]; omega
  · rw [if_neg c]
    by_cases c2 : cAt len x (p + 1) = 43
    · rw [if_pos c2]
      by_cases c3 : nTwo len x (p + 2) 1
      · right; left; rw [if_pos c3]; exact ⟨c2, c3, by omega⟩
      · right; right; left; rw [if_neg c3]; exact ⟨c2, c3, by omega⟩
    · right; right; right; rw [if_neg c2]; exact ⟨c, c2, rfl⟩
/-- no comma in a deed -/
theorem pE_no44 {p : Int} (h : pOk len x p) : ∀ j, p ≤ j → j < pE len x p → cAt len x j ≠ 44 := by
  intro j h1 h2
  have hd := h.1
  have hs := (not_congr sgn_6).mp h.2.1
  have hn98 := h.2.2.1
  have hn43 := h.2.2.2
  unfold isDg at hd
  have hj : j = p ∨ j = p + 1 ∨ (j = p + 2 ∧ (cAt len x (p + 1) = 98 ∨ cAt len x (p + 1) = 43)) ∨ (j = p + 3 ∧ isDg (cAt len x (p + 3)) 0 9) := by
    rcases pE_cases h with ⟨a, b⟩ | ⟨a, b, c⟩ | ⟨a, b, c⟩ | ⟨a, b, c⟩
    · omega
    · have := b.2.2
      rw [show p + 2 + 1 = p + 3 by omega] at this
      by_cases e : j = p + 3
      · exact Or.inr (Or.inr (Or.inr ⟨e, this⟩))
      · omega
    · omega
    · omega
  rcases hj with e | e | ⟨e, f⟩ | ⟨e, f⟩
  · rw [e]; omega
  · rw [e]; omega
  · rw [e]
    rcases f with f | f
    · have := hn98 f; unfold nOk isDg at this; omega
    · have := hn43 f; unfold nOk isDg at this; omega
  · rw [e]; unfold isDg at f; omega
theorem dgAt_v {p : Int} {lo hi : Int} (h : isDg (cAt len x p) lo hi) (h2 : 0 ≤ lo ∧ hi ≤ 9) : dgAt len x p = cAt len x p - 48 := by
  unfold dgAt; unfold isDg at h ⊢; rw [if_pos (by omega)]
theorem dgAt_no {p : Int} (h : cAt len x p = 44 ∨ cAt len x p = 0) : dgAt len x p = -1 := by
  unfold dgAt isDg; rw [if_neg (by omega)]
/-- a right deed, with a comma or nothing behind it -/
theorem deed_v {p : Int} (h : pOk len x p) (he : cAt len x (pE len x p) = 44 ∨ cAt len x (pE len x p) = 0) :
    dgAt len x p = cAt len x p - 48 ∧ vD (dgAt len x p) (cAt len x (p + 1)) (nuAt len x (p + 2)) ∧ (cAt len x (p + 1) = 98 → nVal len x (p + 2) 0 = nuAt len x (p + 2)) ∧ (cAt len x (p + 1) = 43 → nVal len x (p + 2) 1 = nuAt len x (p + 2)) := by
  have e0 := dgAt_v h.1 (by omega)
  have hd := h.1
  unfold isDg at hd
  have r2 := dgAt_rng len x (p + 2)
  have r3 := dgAt_rng len x (p + 2 + 1)
  have hnu : 0 ≤ nuAt len x (p + 2) ∧ nuAt len x (p + 2) < 100 := by
    unfold nuAt
    split <;> omega
  have e98 : cAt len x (p + 1) = 98 → nVal len x (p + 2) 0 = nuAt len x (p + 2) ∧ 1 ≤ nuAt len x (p + 2) ∧ nuAt len x (p + 2) ≤ 6 := fun c => by
    have hn := h.2.2.1 c
    have e2 := dgAt_v hn (by omega)
    have e3 : dgAt len x (p + 2 + 1) = -1 := dgAt_no (by
      rcases pE_cases h with ⟨a, b⟩ | ⟨a, b, d⟩ | ⟨a, b, d⟩ | ⟨a, b, d⟩
      · rw [b, show p + 3 = p + 2 + 1 by omega] at he; exact he
      · omega
      · omega
      · omega)
    unfold nOk isDg at hn
    unfold nVal nuAt
    rw [if_neg (fun c => absurd c.1 (by decide)), if_pos e3, e2]
    omega
  refine ⟨e0, ⟨by omega, fun c => (e98 c).2, hnu⟩, fun c => (e98 c).1, fun c => ?_⟩
  have hn := h.2.2.2 c
  have e2 := dgAt_v hn (by omega)
  have hn2 := hn
  unfold nOk isDg at hn2
  unfold nVal nuAt
  rcases pE_cases h with ⟨a, b⟩ | ⟨a, b, d⟩ | ⟨a, b, d⟩ | ⟨a, b, d⟩
  · omega
  · have e3 := dgAt_v b.2.2 (by omega)
    have h3 := b.2.2
    unfold isDg at h3
    rw [if_pos b, if_neg (by omega), e2, e3]
    omega
  · have e3 : dgAt len x (p + 2 + 1) = -1 := dgAt_no (by rw [d, show p + 3 = p + 2 + 1 by omega] at he; exact he)
    rw [if_neg b, if_pos e3, e2]
    omega
  · omega
theorem plN_skip {d : Int} {s : Int → Int} : ∀ (k : Nat) (p : Int), 0 ≤ p → p + k ≤ len → (∀ j, p ≤ j → j < p + k → ¬ stP len x j) → plN len x (len - p).toNat p d s = plN len x (len - (p + k)).toNat (p + k) d s
  | 0, p, _, _, _ => by rw [show p + ((0 : Nat) : Int) = p by omega]
  | k + 1, p, h0, hk, h => by
    have ih := plN_skip (d := d) (s := s) k (p + 1) (by omega) (by omega) (fun j a b => h j (by omega) (by omega))
    rw [show (len - p).toNat = (len - (p + 1)).toNat + 1 by omega, plN, if_neg (h p (by omega) (by omega)), ih, show p + 1 + (k : Int) = p + ((k + 1 : Nat) : Int) by omega]
theorem no_st {p : Int} (h : pOk len x p) (h0 : 0 ≤ p) : ∀ j, p + 1 ≤ j → j < pE len x p + 1 → ¬ stP len x j := fun j a b c => c.elim (fun c => by omega) (fun c => pE_no44 h (j - 1) (by omega) (by omega) c)
theorem TD_vT {K : Int} {q : Int → Int} : ∀ (n : Nat) (p k : Int), 0 ≤ p → TD len x K q n p k → ∀ j, p ≤ j → j < len → stP len x j → j ≠ p → vD (dgAt len x j) (cAt len x (j + 1)) (nuAt len x (j + 2))
  | 0, p, k, _, h, _, _, _, _, _ => h.elim
  | n + 1, p, k, h0, h, j, h1, h2, h3, h4 => by
    obtain ⟨ho, -, hr⟩ := h
    have hpe := pE_rng h0 ho
    have hj : pE len x p + 1 ≤ j := Classical.byContradiction fun c => no_st ho h0 j (by omega) (by omega) h3
    rcases hr with ⟨hc, ht⟩ | ⟨-, -, e⟩
    · by_cases e : j = pE len x p + 1
      · subst e
        cases n with
        | zero => exact ht.elim
        | succ n =>
          obtain ⟨ho2, -, hr2⟩ := ht
          refine (deed_v ho2 ?_).2.1
          rcases hr2 with ⟨hc2, -⟩ | ⟨-, -, e2⟩
          · left; have := hc2.1; have := hc2.2; omega
          · right; rw [e2]; exact if_neg (by omega)
      · exact TD_vT n (pE len x p + 1) (k + 1) (by omega) ht j hj h2 h3 e
    · omega
theorem TD_end {K p k : Int} {q : Int → Int} {n : Nat} (h : TD len x K q (n + 1) p k) : cAt len x (pE len x p) = 44 ∨ cAt len x (pE len x p) = 0 := by
  obtain ⟨ho2, -, hr2⟩ := h
  rcases hr2 with ⟨hc2, -⟩ | ⟨-, -, e2⟩
  · left; have := hc2.1; have := hc2.2; omega
  · right; rw [e2]; exact if_neg (by omega)
end DEEDS
