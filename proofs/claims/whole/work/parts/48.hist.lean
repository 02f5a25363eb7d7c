/-! the past of the reference holds what is saved -/
def hist (p : Int → Int) (n k : Int) (u : Int → Int → Int) : Prop := ∀ i : Int, 0 ≤ i → i < n → ∀ j : Int, 0 ≤ j → j < 99 → p (99 * i + j) = u ((i + k) % 6) j
theorem hist_push {p s : Int → Int} {n k : Int} {u : Int → Int → Int} (h : hist p n k u) (hn : 0 ≤ n ∧ n ≤ 6) : hist (pkP n p s) (pshN n) (pshK n k) (pshU n k u s) := by
  intro i h0 h1 j hj0 hj1
  unfold pkP pshU
  by_cases h6 : n = 6
  · subst h6
    have e1 : pshN 6 = 6 := by decide
    have e2 : pshK 6 k = k + 1 := by unfold pshK; rw [if_neg (by omega)]
    rw [e1] at h1
    rw [if_pos rfl, e1, e2]
    unfold cpy shf
    by_cases hi : i = 5
    · subst hi
      rw [if_pos (by omega), show (5 + (k + 1)) % 6 = (6 - 1 + (k + 1)) % 6 by omega, up_s]
      congr 1; omega
    · rw [if_neg (by omega), if_pos (by omega), up_n (by omega), show 99 * i + j + 99 = 99 * (i + 1) + j by omega, show i + (k + 1) = i + 1 + k by omega]
      exact h (i + 1) (by omega) (by omega) j hj0 hj1
  · have e1 : pshN n = n + 1 := by unfold pshN; rw [if_pos (by omega)]
    have e2 : pshK n k = k := by unfold pshK; rw [if_pos (by omega)]
    rw [e1] at h1
    rw [if_neg h6, e1, e2]
    unfold cpy
    by_cases hi : i = n
    · subst hi
      rw [if_pos (by omega), show i + 1 - 1 + k = i + k by omega, up_s]
      congr 1; omega
    · rw [if_neg (by omega), up_n (by omega)]
      exact h i (by omega) (by omega) j hj0 hj1
theorem hist_pop {p s : Int → Int} {n k : Int} {u : Int → Int → Int} (h : hist p n k u) (hn : 1 ≤ n) {j : Int} (hj0 : 0 ≤ j) (hj1 : j < 99) : cpy p s (99 * (n - 1)) 0 j = u ((n - 1 + k) % 6) j := by
  unfold cpy
  rw [if_pos (by omega), show j - 0 + 99 * (n - 1) = 99 * (n - 1) + j by omega]
  exact h (n - 1) (by omega) (by omega) j hj0 hj1
theorem hist_le {p : Int → Int} {n n' k : Int} {u : Int → Int → Int} (h : hist p n k u) (hn : n' ≤ n) : hist p n' k u := fun i h0 h1 => h i h0 (by omega)
theorem okX_push {s s' : Int → Int} {n k : Int} {u : Int → Int → Int} {len : Int} {tx : Int → Int} (h : okX s n u len tx) (hs : okS s') : okX s' (pshN n) (pshU n k u s) len tx := by
  refine ⟨hs, pshN_rng h.2.1, fun i h0 h1 => ?_, h.2.2.2⟩
  unfold pshU up
  split
  · exact h.1
  · exact h.2.2.1 i h0 h1
theorem okX_len0 {s : Int → Int} {n : Int} {u : Int → Int → Int} {len : Int} {tx : Int → Int} (h : okX s n u len tx) : okX s n u 0 tx := ⟨h.1, h.2.1, h.2.2.1, ⟨by omega, by omega⟩, h.2.2.2.2⟩
theorem okX_app {s : Int → Int} {n : Int} {u : Int → Int → Int} {len z : Int} {tx : Int → Int} (h : okX s n u len tx) (hl : len < 60) (hz : 33 ≤ z ∧ z ≤ 126) : okX s n u (len + 1) (up tx len z) := by
  have h0 := h.2.2.2.1
  refine ⟨h.1, h.2.1, h.2.2.1, ⟨by omega, by omega⟩, fun i h1 h2 => ?_⟩
  unfold up
  split
  · omega
  · exact h.2.2.2.2 i h1 h2
theorem okS_0 : okS store0 := by
  refine ⟨by decide, by decide, Or.inl (by decide), fun r h0 h1 => ?_⟩
  have e : rm store0 r = roomZ := by
    unfold store0
    rw [rm_up_lo (by omega), rm_up_lo (by omega), rm_up_lo (by omega), rm_rooms0 ⟨h0, h1⟩]
  rw [e]
  have hz : ∀ j : Int, 6 ≤ j → roomZ j = 0 := fun j h => by unfold roomZ; rw [if_neg (by omega), if_neg (by omega)]
  exact ⟨by decide, by decide, by decide, by decide, by decide, by decide, fun i h0 h1 => by rw [hz _ (by omega)]; omega, fun i h0 h1 => by rw [hz _ (by omega)]; omega, by decide⟩
theorem okX_0 : okX store0 0 (fun _ => store0) 0 (fun _ => 0) := ⟨okS_0, by omega, fun _ _ _ => okS_0, ⟨by omega, by omega⟩, fun _ _ _ => (by decide : (0 : Int) ≤ 0 ∧ (0 : Int) ≤ 126)⟩
theorem hist_0 {p : Int → Int} {k : Int} {u : Int → Int → Int} : hist p 0 k u := fun i h0 h1 => absurd h1 (by omega)
