/-! what a beat does to the numbers -/
/-- the first p rooms changed by g -/
def mapR (g : Int → (Int → Int) → (Int → Int)) (s : Int → Int) (p : Int) : Int → Int := fun j => if 9 ≤ j ∧ j < 9 + 15 * p then g ((j - 9) / 15) (rm s ((j - 9) / 15)) ((j - 9) % 15) else s j
theorem mapR_0 (g : Int → (Int → Int) → (Int → Int)) (s : Int → Int) : mapR g s 0 = s := by
  funext j; unfold mapR; rw [if_neg (by omega)]
theorem mapR_lo {g : Int → (Int → Int) → (Int → Int)} {s : Int → Int} {p j : Int} (h : j < 9) : mapR g s p j = s j := if_neg (by omega)
theorem rm_mapR_ge {g : Int → (Int → Int) → (Int → Int)} {s : Int → Int} {p r : Int} (h : p ≤ r) : rm (mapR g s p) r = rm s r := by
  funext j; unfold rm; split
  · unfold mapR; rw [if_neg (by omega)]
  · rfl
theorem rm_mapR_lt {g : Int → (Int → Int) → (Int → Int)} {s : Int → Int} {p r : Int} (hr : 0 ≤ r ∧ r < p) (hc : can (g r (rm s r))) : rm (mapR g s p) r = g r (rm s r) := by
  funext j
  by_cases hj : 0 ≤ j ∧ j < 15
  · rw [rm_at _ _ hj]; unfold mapR; rw [if_pos (by omega), show (9 + 15 * r + j - 9) / 15 = r by omega, show (9 + 15 * r + j - 9) % 15 = j by omega]
  · rw [hc j (by omega)]; exact if_neg hj
theorem srm_mapR {g : Int → (Int → Int) → (Int → Int)} {s : Int → Int} {p : Int} (hp : 0 ≤ p) : srm (mapR g s p) p (g p (rm s p)) = mapR g s (p + 1) := by
  funext j
  unfold srm
  split
  · unfold mapR; rw [if_pos (by omega), show (j - 9) / 15 = p by omega, show (j - 9) % 15 = j - (9 + 15 * p) by omega]
  · unfold mapR
    by_cases h : 9 ≤ j ∧ j < 9 + 15 * p
    · rw [if_pos h, if_pos (by omega)]
    · rw [if_neg h, if_neg (by omega)]
/-- candles of the rooms d, d + 1 .. (p of them) put out -/
def offTo (s : Int → Int) (d p : Int) : Int → Int := fun j => if (9 ≤ j ∧ j < 99) ∧ (j - 9) % 15 = 1 ∧ ((j - 9) / 15 - d) % 6 < p then 0 else s j
theorem offTo_0 (s : Int → Int) (d : Int) : offTo s d 0 = s := by
  funext j; unfold offTo; rw [if_neg (by omega)]
theorem offTo_lo {s : Int → Int} {d p j : Int} (h : j < 9) : offTo s d p j = s j := if_neg (by omega)
theorem offTo_s {s : Int → Int} {d p : Int} (hp : 0 ≤ p ∧ p < 6) : up (offTo s d p) (9 + 15 * ((d + p) % 6) + 1) 0 = offTo s d (p + 1) := by
  funext j
  by_cases h : j = 9 + 15 * ((d + p) % 6) + 1
  · rw [h, up_s]; unfold offTo; rw [if_pos (by omega)]
  · rw [up_n h]
    unfold offTo
    by_cases h2 : (9 ≤ j ∧ j < 99) ∧ (j - 9) % 15 = 1 ∧ ((j - 9) / 15 - d) % 6 < p
    · rw [if_pos h2, if_pos (by omega)]
    · rw [if_neg h2, if_neg (by omega)]
theorem rm_offTo {s : Int → Int} {d p r : Int} (hr : 0 ≤ r ∧ r < 6) : rm (offTo s d p) r = if (r - d) % 6 < p then up (rm s r) 1 0 else rm s r := by
  funext j
  by_cases hj : 0 ≤ j ∧ j < 15
  · rw [rm_at _ _ hj]
    unfold offTo
    by_cases h : (r - d) % 6 < p
    · rw [if_pos h]
      by_cases e : j = 1
      · subst e; rw [up_s, if_pos (by omega)]
      · rw [up_n e, if_neg (by omega), rm_at _ _ hj]
    · rw [if_neg h, if_neg (by omega), rm_at _ _ hj]
  · rw [show rm (offTo s d p) r j = 0 from if_neg hj]
    split
    · rw [up_n (by omega)]; exact (if_neg hj).symm
    · exact (if_neg hj).symm
def burnAll (s : Int → Int) : Int → Int := mapR (fun _ ρ => burnR ρ) s 6
def blow (s : Int → Int) : Int → Int := up (up (offTo (up s 6 (s 6 + cbF s (s 7) (blown s))) (s 7) (blown s)) 7 (-1)) 8 0
def ageAll (s : Int → Int) : Int → Int := mapR (fun _ ρ => ageR ρ (s 0)) s 6
def goneS (s : Int → Int) : Int := sumF (fun r => rm s r 6 - ageQ (rm s r) (s 0)) 6 0
def mid (s : Int → Int) : Int → Int := blow (burnAll s)
def goneB (s : Int → Int) : Int := goneS (mid s)
def beat (s : Int → Int) : Int → Int := up (up (ageAll (mid s)) 3 (s 3 + goneB s)) 2 (s 2 + 1)
theorem can_burn {ρ : Int → Int} (h : can ρ) : can (burnR ρ) := by
  unfold burnR
  split
  · exact h
  · split
    · exact can_up (can_up (can_up (can_up h (by omega) _) (by omega) _) (by omega) _) (by omega) _
    · exact can_up (can_up (can_up h (by omega) _) (by omega) _) (by omega) _
theorem okR_burn {ρ : Int → Int} (h : okR ρ) : okR (burnR ρ) := by
  unfold burnR
  split
  · exact h
  · obtain ⟨h0, h1, h2, h3, h5, h6, h7, h8, h9⟩ := h
    have hr := lessR_rng (ρ 2)
    split
    · refine ⟨?_, ?_, ?_, ?_, ?_, ?_, fun i a b => ?_, fun i a b => ?_, ?_⟩
      · first | (simp only [up_ap, Int.reduceEq, reduceIte]; omega) | (simp [up_ap]; done) | (simp [up_ap]; omega)
      · first | (simp only [up_ap, Int.reduceEq, reduceIte]; omega) | (simp [up_ap]; done) | (simp [up_ap]; omega)
      · first | (simp only [up_ap, Int.reduceEq, reduceIte]; omega) | (simp [up_ap]; done) | (simp [up_ap]; omega)
      · first | (simp only [up_ap, Int.reduceEq, reduceIte]; omega) | (simp [up_ap]; done) | (simp [up_ap]; omega)
      · first | (simp only [up_ap, Int.reduceEq, reduceIte]; omega) | (simp [up_ap]; done) | (simp [up_ap]; omega)
      · first | (simp only [up_ap, Int.reduceEq, reduceIte]; omega) | (simp [up_ap]; done) | (simp [up_ap]; omega)
      · rw [up_n (by omega), up_n (by omega), up_n (by omega), up_n (by omega)]; exact h7 i a b
      · rw [up_n (by omega), up_n (by omega), up_n (by omega), up_n (by omega)]; exact h8 i a b
      · first | (simp only [up_ap, Int.reduceEq, reduceIte]; omega) | (simp [up_ap]; done) | (simp [up_ap]; omega)
    · refine ⟨?_, ?_, ?_, ?_, ?_, ?_, fun i a b => ?_, fun i a b => ?_, ?_⟩
      · first | (simp only [up_ap, Int.reduceEq, reduceIte]; omega) | (simp [up_ap]; done) | (simp [up_ap]; omega)
      · first | (simp only [up_ap, Int.reduceEq, reduceIte]; omega) | (simp [up_ap]; done) | (simp [up_ap]; omega)
      · first | (simp only [up_ap, Int.reduceEq, reduceIte]; omega) | (simp [up_ap]; done) | (simp [up_ap]; omega)
      · first | (simp only [up_ap, Int.reduceEq, reduceIte]; omega) | (simp [up_ap]; done) | (simp [up_ap]; omega)
      · first | (simp only [up_ap, Int.reduceEq, reduceIte]; omega) | (simp [up_ap]; done) | (simp [up_ap]; omega)
      · first | (simp only [up_ap, Int.reduceEq, reduceIte]; omega) | (simp [up_ap]; done) | (simp [up_ap]; omega)
      · rw [up_n (by omega), up_n (by omega), up_n (by omega)]; exact h7 i a b
      · rw [up_n (by omega), up_n (by omega), up_n (by omega)]; exact h8 i a b
      · first | (simp only [up_ap, Int.reduceEq, reduceIte]; omega) | (simp [up_ap]; done) | (simp [up_ap]; omega)
theorem okR_off {ρ : Int → Int} (h : okR ρ) : okR (up ρ 1 0) := by
  obtain ⟨h0, h1, h2, h3, h5, h6, h7, h8, h9⟩ := h
  refine ⟨?_, ?_, ?_, ?_, ?_, ?_, fun i a b => ?_, fun i a b => ?_, ?_⟩
  · first | (simp only [up_ap, Int.reduceEq, reduceIte]; omega) | (simp [up_ap]; done) | (simp [up_ap]; omega)
  · first | (simp only [up_ap, Int.reduceEq, reduceIte]; omega) | (simp [up_ap]; done) | (simp [up_ap]; omega)
  · first | (simp only [up_ap, Int.reduceEq, reduceIte]; omega) | (simp [up_ap]; done) | (simp [up_ap]; omega)
  · first | (simp only [up_ap, Int.reduceEq, reduceIte]; omega) | (simp [up_ap]; done) | (simp [up_ap]; omega)
  · first | (simp only [up_ap, Int.reduceEq, reduceIte]; omega) | (simp [up_ap]; done) | (simp [up_ap]; omega)
  · first | (simp only [up_ap, Int.reduceEq, reduceIte]; omega) | (simp [up_ap]; done) | (simp [up_ap]; omega)
  · rw [up_n (by omega)]; exact h7 i a b
  · rw [up_n (by omega)]; exact h8 i a b
  · first | (simp only [up_ap, Int.reduceEq, reduceIte]; omega) | (simp [up_ap]; done) | (simp [up_ap]; omega)
/-- a room whose things' rows alone are changed -/
theorem okR_row {ρ ρ' : Int → Int} (h : okR ρ) (hlo : ∀ j, 0 ≤ j → j < 7 → ρ' j = ρ j) (h7 : ∀ i, 0 ≤ i → i < 4 → 0 ≤ ρ' (7 + i) ∧ ρ' (7 + i) < 100) (h8 : ∀ i, 0 ≤ i → i < 4 → 0 ≤ ρ' (11 + i) ∧ ρ' (11 + i) < 50) : okR ρ' := by
  obtain ⟨g0, g1, g2, g3, g5, g6, g7, g8, g9⟩ := h
  refine ⟨?_, ?_, ?_, ?_, ?_, ?_, h7, h8, ?_⟩
  · rw [hlo 0 (by omega) (by omega)]; exact g0
  · rw [hlo 1 (by omega) (by omega)]; exact g1
  · rw [hlo 2 (by omega) (by omega)]; exact g2
  · rw [hlo 3 (by omega) (by omega)]; exact g3
  · rw [hlo 5 (by omega) (by omega)]; exact g5
  · rw [hlo 6 (by omega) (by omega)]; exact g6
  · rw [hlo 0 (by omega) (by omega), hlo 1 (by omega) (by omega)]; exact g9
theorem okR_many {ρ : Int → Int} (h : okR ρ) {m : Int} (hm : 0 ≤ m ∧ m ≤ 4) : okR (up ρ 6 m) := by
  obtain ⟨h0, h1, h2, h3, h5, h6, h7, h8, h9⟩ := h
  refine ⟨?_, ?_, ?_, ?_, ?_, ?_, fun i a b => ?_, fun i a b => ?_, ?_⟩
  · first | (simp only [up_ap, Int.reduceEq, reduceIte]; omega) | (simp [up_ap]; done) | (simp [up_ap]; omega)
  · first | (simp only [up_ap, Int.reduceEq, reduceIte]; omega) | (simp [up_ap]; done) | (simp [up_ap]; omega)
  · first | (simp only [up_ap, Int.reduceEq, reduceIte]; omega) | (simp [up_ap]; done) | (simp [up_ap]; omega)
  · first | (simp only [up_ap, Int.reduceEq, reduceIte]; omega) | (simp [up_ap]; done) | (simp [up_ap]; omega)
  · first | (simp only [up_ap, Int.reduceEq, reduceIte]; omega) | (simp [up_ap]; done) | (simp [up_ap]; omega)
  · rw [up_s]; exact hm
  · rw [up_n (by omega)]; exact h7 i a b
  · rw [up_n (by omega)]; exact h8 i a b
  · first | (simp only [up_ap, Int.reduceEq, reduceIte]; omega) | (simp [up_ap]; done) | (simp [up_ap]; omega)
theorem ageL_ok {set : Int} (hset : 1 ≤ set ∧ set ≤ 50) : ∀ (n : Nat) (p q : Int) (r : Int → Int), 0 ≤ q → q ≤ p → p + n ≤ 4 → okR r → can r →
    okR (ageL set n p q r).1 ∧ can (ageL set n p q r).1 ∧ (q ≤ (ageL set n p q r).2 ∧ (ageL set n p q r).2 ≤ q + n) ∧ ∀ j, j < 7 → (ageL set n p q r).1 j = r j
  | 0, p, q, r, _, _, _, h1, h2 => ⟨h1, h2, by simp [ageL], fun _ _ => rfl⟩
  | n + 1, p, q, r, hq, hp, hn, h1, h2 => by
    unfold ageL
    generalize hv : (if r 1 = 0 then r (11 + p) + 1 else 0) = v
    have hv0 : 0 ≤ v := by
      have := h1.dark p (by omega) (by omega)
      rw [← hv]; split <;> omega
    split
    · rename_i hlt
      have hk : okR (up (up r (7 + q) (r (7 + p))) (11 + q) v) := okR_row h1 (fun j a b => by rw [up_n (by omega), up_n (by omega)])
        (fun i a b => by
          rw [up_n (by omega)]
          by_cases e : i = q
          · rw [e, up_s]; exact h1.keys p (by omega) (by omega)
          · rw [up_n (by omega)]; exact h1.keys i a b)
        (fun i a b => by
          by_cases e : i = q
          · rw [e, up_s]; omega
          · rw [up_n (by omega), up_n (by omega)]; exact h1.dark i a b)
      obtain ⟨g1, g2, g3, g4⟩ := ageL_ok hset n (p + 1) (q + 1) _ (by omega) (by omega) (by omega) hk (can_up (can_up h2 (by omega) _) (by omega) _)
      refine ⟨g1, g2, by omega, fun j hj => ?_⟩
      rw [g4 j hj, up_n (by omega), up_n (by omega)]
    · obtain ⟨g1, g2, g3, g4⟩ := ageL_ok hset n (p + 1) q r (by omega) (by omega) (by omega) h1 h2
      exact ⟨g1, g2, by omega, g4⟩
theorem ageQ_rng {ρ : Int → Int} {set : Int} (hset : 1 ≤ set ∧ set ≤ 50) (h : okR ρ) (hc : can ρ) : 0 ≤ ageQ ρ set ∧ ageQ ρ set ≤ ρ 6 := by
  have := (ageL_ok hset (ρ 6).toNat 0 0 ρ (by omega) (by omega) (by have := h.many; omega) h hc).2.2.1
  have := h.many
  unfold ageQ
  omega
theorem okR_age {ρ : Int → Int} {set : Int} (hset : 1 ≤ set ∧ set ≤ 50) (h : okR ρ) (hc : can ρ) : okR (ageR ρ set) ∧ can (ageR ρ set) := by
  obtain ⟨g1, g2, -, -⟩ := ageL_ok hset (ρ 6).toNat 0 0 ρ (by omega) (by omega) (by have := h.many; omega) h hc
  have h2 := ageQ_rng hset h hc
  have := h.many
  exact ⟨okR_many g1 (by omega), can_up g2 (by omega) _⟩
theorem okS_map {g : Int → (Int → Int) → (Int → Int)} {s : Int → Int} (hs : okS s) (hg : ∀ r, 0 ≤ r → r < 6 → okR (g r (rm s r)) ∧ can (g r (rm s r))) : okS (mapR g s 6) := by
  refine ⟨?_, ?_, ?_, fun r h1 h2 => ?_⟩
  · rw [mapR_lo (by omega)]; exact hs.set
  · rw [mapR_lo (by omega)]; exact hs.box
  · rw [mapR_lo (by omega), mapR_lo (by omega)]; exact hs.dra
  · rw [rm_mapR_lt ⟨h1, h2⟩ (hg r h1 h2).2]; exact (hg r h1 h2).1
theorem okS_burnAll {s : Int → Int} (hs : okS s) : okS (burnAll s) := okS_map hs fun r h1 h2 => ⟨okR_burn (hs.rm ⟨h1, h2⟩), can_burn (can_rm s r)⟩
theorem okS_lo {s : Int → Int} (hs : okS s) {j z : Int} (hj : 2 ≤ j ∧ j < 7) : okS (up s j z) := by
  refine ⟨?_, ?_, ?_, fun r h1 h2 => ?_⟩
  · rw [up_n (by omega)]; exact hs.set
  · rw [up_n (by omega)]; exact hs.box
  · rw [up_n (by omega), up_n (by omega)]; exact hs.dra
  · rw [rm_up_lo (by omega)]; exact hs.rm ⟨h1, h2⟩
theorem okS_off {s : Int → Int} (hs : okS s) (d p : Int) : okS (offTo s d p) := by
  refine ⟨?_, ?_, ?_, fun r h1 h2 => ?_⟩
  · rw [offTo_lo (by omega)]; exact hs.set
  · rw [offTo_lo (by omega)]; exact hs.box
  · rw [offTo_lo (by omega), offTo_lo (by omega)]; exact hs.dra
  · rw [rm_offTo ⟨h1, h2⟩]
    split
    · exact okR_off (hs.rm ⟨h1, h2⟩)
    · exact hs.rm ⟨h1, h2⟩
theorem okS_blow {s : Int → Int} (hs : okS s) : okS (blow s) := by
  have h := okS_off (okS_lo hs (j := 6) (z := s 6 + cbF s (s 7) (blown s)) (by omega)) (s 7) (blown s)
  unfold blow
  refine ⟨?_, ?_, ?_, fun r h1 h2 => ?_⟩
  · rw [up_n (by omega), up_n (by omega)]; exact h.set
  · rw [up_n (by omega), up_n (by omega)]; exact h.box
  · exact Or.inl ⟨by rw [up_n (by omega), up_s], by rw [up_s]⟩
  · rw [rm_up_lo (by omega), rm_up_lo (by omega)]; exact h.rm ⟨h1, h2⟩
theorem okS_mid {s : Int → Int} (hs : okS s) : okS (mid s) := okS_blow (okS_burnAll hs)
theorem okS_ageAll {s : Int → Int} (hs : okS s) : okS (ageAll s) := okS_map hs fun r h1 h2 => okR_age hs.set (hs.rm ⟨h1, h2⟩) (can_rm s r)
theorem mid_lo {s : Int → Int} {j : Int} (h : j < 6) : mid s j = s j := by
  unfold mid blow burnAll
  rw [up_n (by omega), up_n (by omega), offTo_lo (by omega), up_n (by omega), mapR_lo (by omega)]
theorem okS_beat {s : Int → Int} (hs : okS s) : okS (beat s) := okS_lo (okS_lo (okS_ageAll (okS_mid hs)) (by omega)) (by omega)
theorem goneB_rng {s : Int → Int} (hs : okS s) : 0 ≤ goneB s ∧ goneB s ≤ 24 := by
  have hm := okS_mid hs
  have := sumF_rng (f := fun r => rm (mid s) r 6 - ageQ (rm (mid s) r) (mid s 0)) (m := 4) 6 0 (fun i h1 h2 => by
    have h := ageQ_rng hm.set (hm.rm (r := i) (by omega)) (can_rm (mid s) i)
    have := (hm.rm (r := i) (by omega)).many
    show 0 ≤ rm (mid s) i 6 - ageQ (rm (mid s) i) (mid s 0) ∧ rm (mid s) i 6 - ageQ (rm (mid s) i) (mid s 0) ≤ 4
    omega)
  unfold goneB goneS; omega
/-- n beats; how many things are forgotten in them, from g on -/
def bts : Nat → (Int → Int) → Int → (Int → Int) × Int
  | 0, s, g => (s, g)
  | n + 1, s, g => bts n (beat s) (g + goneB s)
theorem okS_bts : ∀ (n : Nat) (s : Int → Int) (g : Int), okS s → okS (bts n s g).1
  | 0, s, g, h => h
  | n + 1, s, g, h => okS_bts n (beat s) _ (okS_beat h)
