/-! the text read part by part is the text read character by character -/
section PARSE
variable {len : Int} {x : Int → Int}
def sS (len : Int) (x : Int → Int) (p t : Int) : Int := stN len x (len - p).toNat p t
def sE (len : Int) (x : Int → Int) (p t : Int) : Int := errN len x (len - p).toNat p t
theorem st6 (len : Int) (x : Int → Int) : ∀ (n : Nat) (p : Int), stN len x n p 6 = 6
  | 0, _ => rfl
  | n + 1, p => by
    show stN len x n (p + 1) (stB 6 (cAt len x p)) = 6
    rw [show stB 6 (cAt len x p) = 6 from rfl]
    exact st6 len x n (p + 1)
theorem sS_s {p t t' : Int} (h : p < len) (e : stB t (cAt len x p) = t') : sS len x p t = sS len x (p + 1) t' := by
  unfold sS
  rw [show (len - p).toNat = (len - (p + 1)).toNat + 1 by omega, stN, e]
theorem sE_s {p t t' : Int} (h : p < len) (e : stB t (cAt len x p) = t') (h6 : t' ≠ 6) : sE len x p t = sE len x (p + 1) t' := by
  unfold sE
  rw [show (len - p).toNat = (len - (p + 1)).toNat + 1 by omega, errN, e, if_neg h6]
theorem sE_6 {p t : Int} (h : p < len) (e : stB t (cAt len x p) = 6) : sE len x p t = p ∧ sS len x p t = 6 := by
  refine ⟨?_, ?_⟩
  · unfold sE
    rw [show (len - p).toNat = (len - (p + 1)).toNat + 1 by omega, errN, if_pos e]
  · rw [sS_s h e]; exact st6 _ _ _ _
theorem sS_e {t : Int} : sS len x len t = t ∧ sE len x len t = len := by
  unfold sS sE
  rw [show (len - len).toNat = 0 by omega]
  exact ⟨rfl, rfl⟩
theorem sgn_v {c : Int} : (c = 42 ∨ c = 60 ∨ c = 62 ∨ c = 110 → sgn c = 5) ∧ (c = 98 → sgn c = 2) ∧ (c = 43 → sgn c = 3) := by
  unfold sgn
  (repeat' split) <;> omega
theorem stB_0 {c : Int} : (isDg c 0 5 → stB 0 c = 1) ∧ (¬ isDg c 0 5 → stB 0 c = 6) := ⟨fun h => by unfold stB; rw [if_pos rfl, if_pos h], fun h => by unfold stB; rw [if_pos rfl, if_neg h]⟩
theorem stB_1 {c : Int} : stB 1 c = sgn c := by unfold stB; rw [if_neg (by decide), if_pos rfl]
theorem stB_2 {c : Int} : (isDg c 1 6 → stB 2 c = 5) ∧ (¬ isDg c 1 6 → stB 2 c = 6) := ⟨fun h => by unfold stB; rw [if_neg (by decide), if_neg (by decide), if_pos rfl, if_pos h], fun h => by unfold stB; rw [if_neg (by decide), if_neg (by decide), if_pos rfl, if_neg h]⟩
theorem stB_3 {c : Int} : (c = 48 → stB 3 c = 5) ∧ (isDg c 1 9 → stB 3 c = 4) ∧ (¬ isDg c 0 9 → stB 3 c = 6) := by
  unfold stB isDg
  rw [if_neg (by decide), if_neg (by decide), if_neg (by decide), if_pos rfl]
  refine ⟨fun h => if_pos h, fun h => ?_, fun h => ?_⟩
  · rw [if_neg (by omega), if_pos h]
  · rw [if_neg (by omega), if_neg (by omega)]
theorem stB_4 {c : Int} : (isDg c 0 9 → stB 4 c = 5) ∧ (c = 44 → stB 4 c = 0) ∧ (¬ isDg c 0 9 → c ≠ 44 → stB 4 c = 6) := by
  unfold stB isDg
  rw [if_neg (by decide), if_neg (by decide), if_neg (by decide), if_neg (by decide), if_pos rfl]
  refine ⟨fun h => if_pos h, fun h => ?_, fun h h2 => ?_⟩
  · rw [if_neg (by omega), if_pos h]
  · rw [if_neg h, if_neg h2]
theorem stB_5 {c : Int} : (c = 44 → stB 5 c = 0) ∧ (c ≠ 44 → stB 5 c = 6) := by
  unfold stB
  rw [if_neg (by decide), if_neg (by decide), if_neg (by decide), if_neg (by decide), if_neg (by decide), if_pos rfl]
  exact ⟨fun h => if_pos h, fun h => if_neg h⟩
theorem part_ok {p : Int} (h0 : 0 ≤ p) (h : pOk len x p) : ∃ t, (t = 4 ∨ t = 5) ∧ sS len x p 0 = sS len x (pE len x p) t ∧ sE len x p 0 = sE len x (pE len x p) t ∧ (t = 4 → ¬ isDg (cAt len x (pE len x p)) 0 9) := by
  obtain ⟨h1, h2, h3, h4⟩ := h
  have i0 := cAt_in (len := len) (x := x) (p := p) (by unfold isDg at h1; omega)
  have i1 := cAt_in (len := len) (x := x) (p := p + 1) (fun c => h2 (sgn_6.mpr (by omega)))
  have a0 := sS_s i0.2 (stB_0.1 h1)
  have b0 := sE_s i0.2 (stB_0.1 h1) (by decide)
  have a1 := sS_s i1.2 (stB_1 (c := cAt len x (p + 1)))
  have b1 := sE_s i1.2 (stB_1 (c := cAt len x (p + 1))) h2
  rw [show p + 1 + 1 = p + 2 by omega] at a1 b1
  rw [a0, b0, a1, b1]
  have g6 := sgn_6 (c := cAt len x (p + 1))
  by_cases c : cAt len x (p + 1) = 98
  · have h5 := h3 c
    have i2 := cAt_in (len := len) (x := x) (p := p + 2) (by unfold nOk isDg at h5; omega)
    have e : pE len x p = p + 3 := by unfold pE nEnd; rw [if_pos c, if_neg (fun c => absurd c.1 (by decide))]; omega
    refine ⟨5, Or.inr rfl, ?_, ?_, fun h => absurd h (by decide)⟩
    · rw [sgn_v.2.1 c, sS_s i2.2 (stB_2.1 h5), e, show p + 2 + 1 = p + 3 by omega]
    · rw [sgn_v.2.1 c, sE_s i2.2 (stB_2.1 h5) (by decide), e, show p + 2 + 1 = p + 3 by omega]
  · by_cases c2 : cAt len x (p + 1) = 43
    · have h5 := h4 c2
      have i2 := cAt_in (len := len) (x := x) (p := p + 2) (by unfold nOk isDg at h5; omega)
      have e : pE len x p = nEnd len x (p + 2) 1 := by unfold pE; rw [if_neg c, if_pos c2]
      by_cases z : cAt len x (p + 2) = 48
      · have e2 : pE len x p = p + 3 := by rw [e]; unfold nEnd; rw [if_neg (fun c => absurd c.2.1 (by omega))]; omega
        refine ⟨5, Or.inr rfl, ?_, ?_, fun h => absurd h (by decide)⟩
        · rw [sgn_v.2.2 c2, sS_s i2.2 (stB_3.1 z), e2, show p + 2 + 1 = p + 3 by omega]
        · rw [sgn_v.2.2 c2, sE_s i2.2 (stB_3.1 z) (by decide), e2, show p + 2 + 1 = p + 3 by omega]
      · have d1 : isDg (cAt len x (p + 2)) 1 9 := by unfold nOk isDg at h5; unfold isDg; omega
        by_cases y : isDg (cAt len x (p + 3)) 0 9
        · have i3 := cAt_in (len := len) (x := x) (p := p + 3) (by unfold isDg at y; omega)
          have e2 : pE len x p = p + 4 := by rw [e]; unfold nEnd; rw [if_pos ⟨rfl, by unfold isDg at d1; omega, by rw [show p + 2 + 1 = p + 3 by omega]; exact y⟩]; omega
          refine ⟨5, Or.inr rfl, ?_, ?_, fun h => absurd h (by decide)⟩
          · rw [sgn_v.2.2 c2, sS_s i2.2 (stB_3.2.1 d1), show p + 2 + 1 = p + 3 by omega, sS_s i3.2 (stB_4.1 y), e2, show p + 3 + 1 = p + 4 by omega]
          · rw [sgn_v.2.2 c2, sE_s i2.2 (stB_3.2.1 d1) (by decide), show p + 2 + 1 = p + 3 by omega, sE_s i3.2 (stB_4.1 y) (by decide), e2, show p + 3 + 1 = p + 4 by omega]
        · have e2 : pE len x p = p + 3 := by rw [e]; unfold nEnd; rw [if_neg (fun c => y (by have := c.2.2; rw [show p + 2 + 1 = p + 3 by omega] at this; exact this))]; omega
          refine ⟨4, Or.inl rfl, ?_, ?_, fun _ => by rw [e2]; exact y⟩
          · rw [sgn_v.2.2 c2, sS_s i2.2 (stB_3.2.1 d1), e2, show p + 2 + 1 = p + 3 by omega]
          · rw [sgn_v.2.2 c2, sE_s i2.2 (stB_3.2.1 d1) (by decide), e2, show p + 2 + 1 = p + 3 by omega]
    · have e : pE len x p = p + 2 := by unfold pE; rw [if_neg c, if_neg c2]
      have hs : sgn (cAt len x (p + 1)) = 5 := sgn_v.1 (by omega)
      rw [hs, e]
      exact ⟨5, Or.inr rfl, rfl, rfl, fun h => absurd h (by decide)⟩
theorem part_no {p : Int} (h0 : 0 ≤ p ∧ p ≤ len) (h : ¬ pOk len x p) : (sS len x p 0 ≠ 4 ∧ sS len x p 0 ≠ 5) ∧ (0 ≤ pF len x p ∧ pF len x p ≤ len) ∧ sE len x p 0 = pF len x p := by
  by_cases h1 : isDg (cAt len x p) 0 5
  · have i0 := cAt_in (len := len) (x := x) (p := p) (by unfold isDg at h1; omega)
    rw [sS_s i0.2 (stB_0.1 h1), sE_s i0.2 (stB_0.1 h1) (by decide)]
    by_cases h2 : sgn (cAt len x (p + 1)) = 6
    · have hf : pF len x p = p + 1 := by unfold pF; rw [if_neg (fun c => c h1), if_pos h2]
      rw [hf]
      by_cases c : p + 1 < len
      · have := sE_6 (t := 1) c (stB_1.trans h2)
        rw [this.1, this.2]
        exact ⟨⟨by decide, by decide⟩, by omega, rfl⟩
      · have e : p + 1 = len := by omega
        rw [e, sS_e.1, sS_e.2]
        exact ⟨⟨by decide, by decide⟩, by omega, rfl⟩
    · have i1 := cAt_in (len := len) (x := x) (p := p + 1) (fun c => h2 (sgn_6.mpr (by omega)))
      have hf : pF len x p = p + 2 := by unfold pF; rw [if_neg (fun c => c h1), if_neg h2]
      rw [hf, sS_s i1.2 stB_1, sE_s i1.2 stB_1 h2, show p + 1 + 1 = p + 2 by omega]
      have g6 := sgn_6 (c := cAt len x (p + 1))
      have hc : (cAt len x (p + 1) = 98 ∧ ¬ nOk len x (p + 2) 1 6) ∨ (cAt len x (p + 1) = 43 ∧ ¬ nOk len x (p + 2) 0 9) := Classical.byContradiction fun q => h ⟨h1, h2, fun c => Classical.byContradiction fun r => q (Or.inl ⟨c, r⟩), fun c => Classical.byContradiction fun r => q (Or.inr ⟨c, r⟩)⟩
      rcases hc with ⟨c, d⟩ | ⟨c, d⟩
      · rw [sgn_v.2.1 c]
        by_cases c3 : p + 2 < len
        · have := sE_6 (t := 2) c3 (stB_2.2 d)
          rw [this.1, this.2]
          exact ⟨⟨by decide, by decide⟩, by omega, rfl⟩
        · have e : p + 2 = len := by omega
          rw [e, sS_e.1, sS_e.2]
          exact ⟨⟨by decide, by decide⟩, by omega, rfl⟩
      · rw [sgn_v.2.2 c]
        by_cases c3 : p + 2 < len
        · have := sE_6 (t := 3) c3 (stB_3.2.2 d)
          rw [this.1, this.2]
          exact ⟨⟨by decide, by decide⟩, by omega, rfl⟩
        · have e : p + 2 = len := by omega
          rw [e, sS_e.1, sS_e.2]
          exact ⟨⟨by decide, by decide⟩, by omega, rfl⟩
  · have hf : pF len x p = p := if_pos h1
    rw [hf]
    by_cases c : p < len
    · have := sE_6 (t := 0) c (stB_0.2 h1)
      rw [this.1, this.2]
      exact ⟨⟨by decide, by decide⟩, by omega, rfl⟩
    · have e : p = len := by omega
      rw [e, sS_e.1, sS_e.2]
      exact ⟨⟨by decide, by decide⟩, by omega, rfl⟩
/-- what the reading of the whole text says -/
theorem pR_spec (hl : len ≤ 60) : ∀ (n : Nat) (v q : Int → Int), 0 ≤ v 7 ∧ v 7 ≤ len → 61 ≤ v 7 + n →
    ((pR len x n 1 v q).1 = 1 ∧ (sS len x (v 7) 0 = 4 ∨ sS len x (v 7) 0 = 5) ∧ sE len x (v 7) 0 = len) ∨
    ((pR len x n 1 v q).1 = 0 ∧ (sS len x (v 7) 0 ≠ 4 ∧ sS len x (v 7) 0 ≠ 5) ∧ (pR len x n 1 v q).2.1 7 = sE len x (v 7) 0 ∧ (pR len x n 1 v q).2.1 8 = gB (sE len x (v 7) 0 < len) ∧ sE len x (v 7) 0 ≤ len)
  | 0, v, q, h, hn => absurd hn (by omega)
  | n + 1, v, q, h, hn => by
    by_cases ho : pOk len x (v 7)
    · have he := pE_rng h.1 ho
      obtain ⟨t, ht, e1, e2, e3⟩ := part_ok h.1 ho
      rw [pR_s (by decide) ho, e1, e2]
      by_cases hc : cmm len x (pE len x (v 7))
      · rw [gB_t hc]
        have i := cAt_in (len := len) (x := x) (p := pE len x (v 7)) (by have := hc.1; omega)
        have c44 : cAt len x (pE len x (v 7)) = 44 := by have := hc.1; have := hc.2; omega
        have ih := pR_spec hl n (up (up (up v 7 (pE len x (v 7))) 10 (v 10 + 1)) 7 (pE len x (v 7) + 1)) (pQ len x (v 7) (v 10) q) (by rw [up_s]; omega) (by rw [up_s]; omega)
        rw [up_s] at ih
        have s0 : stB t (cAt len x (pE len x (v 7))) = 0 := ht.elim (fun h => by rw [h]; exact stB_4.2.1 c44) (fun h => by rw [h]; exact stB_5.1 c44)
        rw [sS_s i.2 s0, sE_s i.2 s0 (by decide)]
        exact ih
      · rw [gB_f hc]
        obtain ⟨j, rfl⟩ : ∃ j, n = j + 1 := ⟨n - 1, by omega⟩
        rw [pR_0 rfl]
        have e7 : up (up (up v 7 (pE len x (v 7))) 10 (v 10 + 1)) 7 (pE len x (v 7) + 0) 7 = pE len x (v 7) := by rw [up_s]; omega
        rw [e7]
        by_cases cl : pE len x (v 7) = len
        · left
          rw [cl, sS_e.1, sS_e.2]
          exact ⟨gB_t rfl, ht, rfl⟩
        · right
          have c44 : cAt len x (pE len x (v 7)) ≠ 44 := fun c => hc ⟨by omega, by omega⟩
          have s6 : stB t (cAt len x (pE len x (v 7))) = 6 := ht.elim (fun h => by rw [h]; exact stB_4.2.2 (e3 h) c44) (fun h => by rw [h]; exact stB_5.2 c44)
          have := sE_6 (by omega) s6
          rw [this.1, this.2]
          refine ⟨gB_f cl, ⟨by decide, by decide⟩, ?_, ?_, by omega⟩
          · dsimp only; rw [up_n (show (7 : Int) ≠ 8 by decide), e7]
          · dsimp only; rw [up_s]
    · right
      obtain ⟨g1, g2, g3⟩ := part_no h ho
      rw [pR_f (by decide) ho, g3]
      refine ⟨rfl, g1, ?_, ?_, g2.2⟩
      · show pV len x (v 7) v 7 = _
        unfold pV; rw [if_neg ho, up_n (by decide), up_s]
      · show pV len x (v 7) v 8 = _
        unfold pV; rw [if_neg ho, up_s]
end PARSE
