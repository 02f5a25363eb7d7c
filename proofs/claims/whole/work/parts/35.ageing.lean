/-! how long a room stays lit, when the next thing is forgotten: beat by beat -/
theorem burnR_hi (ρ : Int → Int) {j : Int} (h : 3 ≤ j ∧ j ≠ 4) : burnR ρ j = ρ j := by
  unfold burnR
  split
  · rfl
  · split
    · rw [up_n (by omega), up_n (by omega), up_n (by omega), up_n (by omega)]
    · rw [up_n (by omega), up_n (by omega), up_n (by omega)]
theorem rm_burnAll (s : Int → Int) {r : Int} (hr : 0 ≤ r ∧ r < 6) : rm (burnAll s) r = burnR (rm s r) := rm_mapR_lt hr (can_burn (can_rm s r))
theorem blN_cong {s t : Int → Int} (h7 : s 7 = t 7) (h : ∀ r, 0 ≤ r → r < 6 → rm s r 3 = rm t r 3 ∧ rm s r 5 = rm t r 5) : ∀ (n : Nat) (p : Int), blN s n p = blN t n p
  | 0, p => rfl
  | n + 1, p => by
    have h1 := h ((t 7 + p) % 6) (by omega) (by omega)
    unfold blN
    rw [h7, h1.1, h1.2, blN_cong h7 h n (p + 1)]
theorem blown_burn (s : Int → Int) : blown (burnAll s) = blown s := by
  unfold blown
  rw [show burnAll s 8 = s 8 from mapR_lo (by omega)]
  exact blN_cong (s := burnAll s) (t := s) (mapR_lo (by omega)) (fun r h1 h2 => by rw [rm_burnAll s ⟨h1, h2⟩, burnR_hi _ (by omega), burnR_hi _ (by omega)]; exact ⟨rfl, rfl⟩) _ _
theorem rm_mid (s : Int → Int) {r : Int} (hr : 0 ≤ r ∧ r < 6) : rm (mid s) r = if (r - s 7) % 6 < blown s then up (burnR (rm s r)) 1 0 else burnR (rm s r) := by
  unfold mid blow
  rw [rm_up_lo (by omega), rm_up_lo (by omega), rm_offTo hr, rm_up_lo (by omega), blown_burn, rm_burnAll s hr, show burnAll s 7 = s 7 from mapR_lo (by omega)]
theorem rm_beat {s : Int → Int} (hs : okS s) {r : Int} (hr : 0 ≤ r ∧ r < 6) : rm (beat s) r = ageR (rm (mid s) r) (s 0) := by
  have hm := okS_mid hs
  unfold beat ageAll
  rw [rm_up_lo (by omega), rm_up_lo (by omega), rm_mapR_lt hr (okR_age hm.set (hm.rm hr) (can_rm _ r)).2, mid_lo (by omega)]
theorem beat_7 (s : Int → Int) : beat s 7 = -1 ∧ beat s 8 = 0 := by
  unfold beat ageAll mid blow
  rw [up_n (by omega), up_n (by omega), mapR_lo (by omega), up_n (by omega), up_s, up_n (by omega), up_n (by omega), mapR_lo (by omega), up_s]
  exact ⟨rfl, rfl⟩
theorem blown_beat (s : Int → Int) : blown (beat s) = 0 := by
  unfold blown; rw [(beat_7 s).2]; rfl
theorem ageR_lo {ρ : Int → Int} {set : Int} (hset : 1 ≤ set ∧ set ≤ 50) (h : okR ρ) (hc : can ρ) {j : Int} (hj : j < 6) : ageR ρ set j = ρ j := by
  have := (ageL_ok hset (ρ 6).toNat 0 0 ρ (by omega) (by omega) (by have := h.many; omega) h hc).2.2.2 j (by omega)
  unfold ageR
  rw [up_n (by omega), this]
theorem bnR_age {ρ : Int → Int} {set : Int} (hset : 1 ≤ set ∧ set ≤ 50) (h : okR ρ) (hc : can ρ) : bnR (ageR ρ set) = bnR ρ := by
  unfold bnR
  rw [ageR_lo hset h hc (by omega), ageR_lo hset h hc (by omega), ageR_lo hset h hc (by omega)]
theorem blit_bn {s : Int → Int} {r : Int} (h : ¬ (r - s 7) % 6 < blown s) : blit s r = bnR (rm s r) := by
  unfold blit bnR
  rw [if_neg h]
theorem blit_in {s : Int → Int} {r : Int} (h : (r - s 7) % 6 < blown s) (h1 : rm s r 1 = 1) : blit s r = 1 := by
  unfold blit; rw [if_neg (by omega), if_pos h]
theorem blit_0 {s : Int → Int} (hs : okS s) {r : Int} (hr : 0 ≤ r ∧ r < 6) (h : ¬ rm s r 1 = 1) : blit s r = 0 := by
  have := (hs.rm hr).bur
  unfold blit; rw [if_pos (by omega)]
theorem blit_next {s : Int → Int} (hs : okS s) {r : Int} (hr : 0 ≤ r ∧ r < 6) : blit (beat s) r = bnR (rm (mid s) r) := by
  have hm := okS_mid hs
  rw [blit_bn (by rw [blown_beat]; omega), rm_beat hs hr, bnR_age hs.set (hm.rm hr) (can_rm _ r)]
theorem blit_beat {s : Int → Int} (hs : okS s) {r : Int} (hr : 0 ≤ r ∧ r < 6) (h1 : rm s r 1 = 1) : blit s r = 1 + blit (beat s) r := by
  rw [blit_next hs hr, rm_mid s hr]
  by_cases h : (r - s 7) % 6 < blown s
  · rw [blit_in h h1, if_pos h]
    unfold bnR
    rw [if_pos (by rw [up_s])]
    rfl
  · rw [blit_bn h, if_neg h]
    exact bn_burn (hs.rm hr) h1
theorem untr_pos {l t : Int} (h : 0 < l) : 1 ≤ untr 60 l t := by
  have := untr_rng 59 (l - lessR t) (min 9 (t + 1))
  rw [show untr 60 l t = if l ≤ 0 then 0 else 1 + untr 59 (l - lessR t) (min 9 (t + 1)) from rfl, if_neg (by omega)]
  omega
theorem bn_pos {ρ : Int → Int} (h : okR ρ) (h1 : ρ 1 = 1) : 1 ≤ bnR ρ := by
  unfold bnR; rw [if_neg (by omega)]; exact untr_pos (h.lit h1)
/-- after a beat a room burns if it burns for more than one -/
theorem lit_mid {s : Int → Int} (hs : okS s) {r : Int} (hr : 0 ≤ r ∧ r < 6) : (1 < blit s r ∧ rm (mid s) r 1 = 1 ∧ blit (beat s) r = blit s r - 1) ∨ (blit s r ≤ 1 ∧ rm (mid s) r 1 = 0 ∧ blit (beat s) r = 0) := by
  have hm := (okS_mid hs).rm hr
  have hb := hm.bur
  by_cases h1 : rm s r 1 = 1
  · have e := blit_beat hs hr h1
    have e2 := blit_next hs hr
    by_cases h2 : rm (mid s) r 1 = 1
    · left
      have := bn_pos hm h2
      exact ⟨by omega, h2, by omega⟩
    · right
      have := bn_0 hm h2
      exact ⟨by omega, by omega, by omega⟩
  · right
    have h0 : rm (mid s) r 1 = 0 := by
      have hx := (hs.rm hr).bur
      have h3 : burnR (rm s r) 1 = 0 := by unfold burnR; rw [if_pos (by omega)]; omega
      rw [rm_mid s hr]
      split
      · rw [up_s]
      · exact h3
    have e := blit_0 hs hr h1
    refine ⟨by omega, h0, ?_⟩
    rw [blit_next hs hr]
    exact bn_0 hm (by omega)
theorem mid_hi (s : Int → Int) {r : Int} (hr : 0 ≤ r ∧ r < 6) {j : Int} (h : 3 ≤ j ∧ j ≠ 4) : rm (mid s) r j = rm s r j := by
  rw [rm_mid s hr]
  split
  · rw [up_n (by omega), burnR_hi _ h]
  · exact burnR_hi _ h
/-- what a thing's darkness is after a beat -/
def nd (ρ : Int → Int) (i : Int) : Int := if ρ 1 = 0 then ρ (11 + i) + 1 else 0
theorem ageL_le (set : Int) : ∀ (n : Nat) (p q : Int) (r : Int → Int), (ageL set n p q r).2 ≤ q + n
  | 0, p, q, r => by simp [ageL]
  | n + 1, p, q, r => by
    by_cases c : (if r 1 = 0 then r (11 + p) + 1 else 0) < set
    · rw [ageL, if_pos c]
      have := ageL_le set n (p + 1) (q + 1) (up (up r (7 + q) (r (7 + p))) (11 + q) (if r 1 = 0 then r (11 + p) + 1 else 0))
      omega
    · rw [ageL, if_neg c]
      have := ageL_le set n (p + 1) q r
      omega
theorem ageL_all (set : Int) : ∀ (n : Nat) (p : Int) (r : Int → Int), 0 ≤ p → p + n ≤ 4 → (∀ i, p ≤ i → i < p + n → nd r i < set) →
    (ageL set n p p r).2 = p + n ∧ ∀ i, 0 ≤ i → i < 4 → (ageL set n p p r).1 (11 + i) = if p ≤ i ∧ i < p + n then nd r i else r (11 + i)
  | 0, p, r, _, _, _ => ⟨by simp [ageL], fun i _ _ => by rw [if_neg (by omega)]; rfl⟩
  | n + 1, p, r, hp, hn, h => by
    have h0 := h p (by omega) (by omega)
    have hr1 : ∀ v : Int, up (up r (7 + p) (r (7 + p))) (11 + p) v 1 = r 1 := fun v => by rw [up_n (by omega), up_n (by omega)]
    have hrd : ∀ (v : Int) (i : Int), p + 1 ≤ i → i < 4 → up (up r (7 + p) (r (7 + p))) (11 + p) v (11 + i) = r (11 + i) := fun v i h1 h2 => by rw [up_n (by omega), up_n (by omega)]
    have e : ageL set (n + 1) p p r = ageL set n (p + 1) (p + 1) (up (up r (7 + p) (r (7 + p))) (11 + p) (nd r p)) := by
      unfold nd at h0 ⊢
      rw [ageL, if_pos h0]
    have hnd : ∀ i, p + 1 ≤ i → i < 4 → nd (up (up r (7 + p) (r (7 + p))) (11 + p) (nd r p)) i = nd r i := fun i h1 h2 => by
      show (if up (up r (7 + p) (r (7 + p))) (11 + p) (nd r p) 1 = 0 then up (up r (7 + p) (r (7 + p))) (11 + p) (nd r p) (11 + i) + 1 else 0) = nd r i
      rw [hr1, hrd _ i h1 h2]; rfl
    have ih := ageL_all set n (p + 1) (up (up r (7 + p) (r (7 + p))) (11 + p) (nd r p)) (by omega) (by omega) (fun i h1 h2 => by rw [hnd i h1 (by omega)]; exact h i (by omega) (by omega))
    rw [e]
    refine ⟨by have := ih.1; omega, fun i h1 h2 => ?_⟩
    rw [ih.2 i h1 h2]
    by_cases c : p + 1 ≤ i ∧ i < p + 1 + n
    · rw [if_pos c, if_pos (by omega), hnd i c.1 h2]
    · rw [if_neg c]
      by_cases c2 : i = p
      · rw [c2, up_s, if_pos (by omega)]
      · rw [up_n (by omega), up_n (by omega), if_neg (by omega)]
theorem ageL_lt (set : Int) : ∀ (n : Nat) (p q : Int) (r : Int → Int) (i : Int), 0 ≤ q → q ≤ p → p + n ≤ 4 → p ≤ i → i < p + n → set ≤ nd r i → (ageL set n p q r).2 < q + n
  | 0, p, q, r, i, _, _, _, h1, h2, _ => absurd h1 (by omega)
  | n + 1, p, q, r, i, hq, hp, hn, h1, h2, h3 => by
    by_cases c : (if r 1 = 0 then r (11 + p) + 1 else 0) < set
    · rw [ageL, if_pos c]
      have hi : i ≠ p := fun e => by subst e; unfold nd at h3; omega
      have ih := ageL_lt set n (p + 1) (q + 1) (up (up r (7 + q) (r (7 + p))) (11 + q) (if r 1 = 0 then r (11 + p) + 1 else 0)) i (by omega) (by omega) (by omega) (by omega) (by omega) (by
        unfold nd at h3 ⊢
        rw [up_n (by omega), up_n (by omega), up_n (by omega), up_n (by omega)]
        exact h3)
      omega
    · rw [ageL, if_neg c]
      have := ageL_le set n (p + 1) q r
      omega
theorem maxD_a (ρ : Int → Int) : ∀ (n : Nat) (p a : Int), a ≤ maxD ρ n p a
  | 0, p, a => Int.le_refl a
  | n + 1, p, a => by have := maxD_a ρ n (p + 1) (max a (ρ (11 + p))); unfold maxD; omega
theorem maxD_i (ρ : Int → Int) : ∀ (n : Nat) (p a i : Int), p ≤ i → i < p + n → ρ (11 + i) ≤ maxD ρ n p a
  | 0, p, a, i, h1, h2 => absurd h1 (by omega)
  | n + 1, p, a, i, h1, h2 => by
    unfold maxD
    by_cases e : i = p
    · have := maxD_a ρ n (p + 1) (max a (ρ (11 + p))); rw [e]; omega
    · exact maxD_i ρ n (p + 1) _ i (by omega) (by omega)
theorem maxD_le (ρ : Int → Int) {b : Int} : ∀ (n : Nat) (p a : Int), a ≤ b → (∀ i, p ≤ i → i < p + n → ρ (11 + i) ≤ b) → maxD ρ n p a ≤ b
  | 0, p, a, h, _ => h
  | n + 1, p, a, h, hi => by
    have := hi p (by omega) (by omega)
    exact maxD_le ρ n (p + 1) _ (by omega) (fun i h1 h2 => hi i (by omega) (by omega))
theorem maxD_mem (ρ : Int → Int) : ∀ (n : Nat) (p a : Int), maxD ρ n p a = a ∨ ∃ i, p ≤ i ∧ i < p + n ∧ maxD ρ n p a = ρ (11 + i)
  | 0, p, a => Or.inl rfl
  | n + 1, p, a => by
    unfold maxD
    rcases maxD_mem ρ n (p + 1) (max a (ρ (11 + p))) with h | ⟨i, h1, h2, h3⟩
    · by_cases c : a ≤ ρ (11 + p)
      · right; exact ⟨p, by omega, by omega, by omega⟩
      · left; omega
    · right; exact ⟨i, by omega, by omega, h3⟩
def ffS (s : Int → Int) (r : Int) : Int := ffR (rm s r) (blit s r) (s 0)
def gnR (s : Int → Int) (r : Int) : Int := rm (mid s) r 6 - ageQ (rm (mid s) r) (mid s 0)
theorem beat_0 (s : Int → Int) : beat s 0 = s 0 := by
  unfold beat ageAll
  rw [up_n (by omega), up_n (by omega), mapR_lo (by omega), mid_lo (by omega)]
theorem ff_room {s : Int → Int} (hs : okS s) {r : Int} (hr : 0 ≤ r ∧ r < 6) (h0 : 0 < rm s r 6) :
    (gnR s r = 0 ∧ 2 ≤ ffS s r ∧ ffS (beat s) r = ffS s r - 1 ∧ rm (beat s) r 6 = rm s r 6) ∨ (0 < gnR s r ∧ ffS s r = 1) := by
  have hset := hs.set
  have hm4 := (hs.rm hr).many
  have hdk := (hs.rm hr).dark
  have h6 := mid_hi s hr (j := 6) (by omega)
  have hd : ∀ i, 0 ≤ i → i < 4 → rm (mid s) r (11 + i) = rm s r (11 + i) := fun i h1 h2 => mid_hi s hr (by omega)
  have e0 : mid s 0 = s 0 := mid_lo (by omega)
  have hb6 : rm (beat s) r 6 = ageQ (rm (mid s) r) (s 0) := by rw [rm_beat hs hr]; unfold ageR; rw [up_s]
  have hall : (∀ i, 0 ≤ i → i < 0 + (((rm s r 6).toNat : Nat) : Int) → nd (rm (mid s) r) i < s 0) → gnR s r = 0 ∧ rm (beat s) r 6 = rm s r 6 ∧ ∀ i, 0 ≤ i → i < rm s r 6 → rm (beat s) r (11 + i) = nd (rm (mid s) r) i := fun h => by
    have := ageL_all (s 0) (rm s r 6).toNat 0 (rm (mid s) r) (by omega) (by omega) h
    have hq : ageQ (rm (mid s) r) (s 0) = rm s r 6 := by unfold ageQ; rw [h6, this.1]; omega
    refine ⟨by unfold gnR; rw [e0, hq, h6]; omega, by rw [hb6, hq], fun i h1 h2 => ?_⟩
    rw [rm_beat hs hr]
    unfold ageR
    rw [up_n (by omega), h6, this.2 i h1 (by omega), if_pos (by omega)]
  unfold ffS ffR
  rw [beat_0]
  generalize hM : maxD (rm s r) (rm s r 6).toNat 0 0 = M
  have hM0 : 0 ≤ M := by rw [← hM]; exact maxD_a _ _ _ _
  have hMi : ∀ i, 0 ≤ i → i < rm s r 6 → rm s r (11 + i) ≤ M := fun i h1 h2 => by rw [← hM]; exact maxD_i _ _ _ _ _ h1 (by omega)
  rcases lit_mid hs hr with ⟨g1, g2, g3⟩ | ⟨g1, g2, g3⟩
  · left
    have hn : ∀ i, nd (rm (mid s) r) i = 0 := fun i => by unfold nd; rw [if_neg (by omega)]
    obtain ⟨q1, q2, q3⟩ := hall (fun i _ _ => by rw [hn]; omega)
    rw [if_pos g1, g3, q2]
    have hM2 : maxD (rm (beat s) r) (rm s r 6).toNat 0 0 = 0 := by
      have a1 := maxD_a (rm (beat s) r) (rm s r 6).toNat 0 0
      have a2 := maxD_le (rm (beat s) r) (b := 0) (rm s r 6).toNat 0 0 (by omega) (fun i h1 h2 => by rw [q3 i h1 (by omega), hn]; omega)
      omega
    rw [hM2]
    refine ⟨q1, by omega, ?_, rfl⟩
    split <;> omega
  · have hn : ∀ i, 0 ≤ i → i < 4 → nd (rm (mid s) r) i = rm s r (11 + i) + 1 := fun i h1 h2 => by unfold nd; rw [if_pos g2, hd i h1 h2]
    rw [if_neg (show ¬ 1 < blit s r by omega), g3, if_neg (show ¬ (1 : Int) < 0 by omega)]
    have hmem : ∃ i, 0 ≤ i ∧ i < rm s r 6 ∧ M ≤ rm s r (11 + i) := by
      rcases maxD_mem (rm s r) (rm s r 6).toNat 0 0 with h | ⟨i, h1, h2, h3⟩
      · exact ⟨0, by omega, h0, by have := hdk 0 (by omega) (by omega); omega⟩
      · exact ⟨i, h1, by omega, by omega⟩
    obtain ⟨i0, i1, i2, i3⟩ := hmem
    by_cases c : s 0 - M ≤ 1
    · right
      have := ageL_lt (s 0) (rm s r 6).toNat 0 0 (rm (mid s) r) i0 (by omega) (by omega) (by omega) i1 (by omega) (by rw [hn i0 i1 (by omega)]; omega)
      refine ⟨?_, by omega⟩
      unfold gnR ageQ
      rw [h6, e0]
      omega
    · left
      obtain ⟨q1, q2, q3⟩ := hall (fun i h1 h2 => by have := hMi i h1 (by omega); rw [hn i h1 (by omega)]; omega)
      rw [q2]
      have hM2 : maxD (rm (beat s) r) (rm s r 6).toNat 0 0 = M + 1 := by
        have a1 := maxD_i (rm (beat s) r) (rm s r 6).toNat 0 0 i0 i1 (by omega)
        rw [q3 i0 i1 i2, hn i0 i1 (by omega)] at a1
        have a2 := maxD_le (rm (beat s) r) (b := M + 1) (rm s r 6).toNat 0 0 (by omega) (fun i h1 h2 => by have := hMi i h1 (by omega); rw [q3 i h1 (by omega), hn i h1 (by omega)]; omega)
        omega
      rw [hM2]
      exact ⟨q1, by omega, by omega, rfl⟩
theorem gn_none {s : Int → Int} (hs : okS s) {r : Int} (hr : 0 ≤ r ∧ r < 6) (h0 : rm s r 6 = 0) : gnR s r = 0 ∧ rm (beat s) r 6 = 0 := by
  have h6 := mid_hi s hr (j := 6) (by omega)
  have hq : ∀ z, ageQ (rm (mid s) r) z = 0 := fun z => by unfold ageQ; rw [h6, h0]; rfl
  refine ⟨by unfold gnR; rw [hq, h6, h0]; rfl, ?_⟩
  rw [rm_beat hs hr]; unfold ageR; rw [up_s, hq]
theorem gn_pos {s : Int → Int} (hs : okS s) {r : Int} (hr : 0 ≤ r ∧ r < 6) : 0 ≤ gnR s r := by
  have hm := (hs.rm hr).many
  by_cases h : 0 < rm s r 6
  · rcases ff_room hs hr h with h | h <;> omega
  · have := gn_none hs hr (by omega); omega
theorem sumF_z {f : Int → Int} : ∀ (n : Nat) (p : Int), (∀ j, p ≤ j → j < p + n → 0 ≤ f j) → sumF f n p = 0 → ∀ j, p ≤ j → j < p + n → f j = 0
  | n, p, h, e, j, h1, h2 => by have a := sumF_le n p j h h1 h2; have b := h j h1 h2; omega
theorem sumF_p {f : Int → Int} : ∀ (n : Nat) (p : Int), (∀ j, p ≤ j → j < p + n → f j = 0) → sumF f n p = 0
  | 0, p, h => rfl
  | n + 1, p, h => by simp only [sumF]; rw [h p (by omega) (by omega), sumF_p n (p + 1) (fun j a b => h j (by omega) (by omega))]; rfl
theorem ntN_s (s : Int → Int) (n : Nat) (p x : Int) : ntN s (n + 1) p x = ntN s n (p + 1) (if 0 < rm s p 6 then (if x = -1 then ffS s p else min x (ffS s p)) else x) := rfl
theorem nt_sim {s : Int → Int} (hs : okS s) : ∀ (n : Nat) (p x x' : Int), 0 ≤ p → p + n ≤ 6 → (∀ j, p ≤ j → j < p + n → gnR s j = 0) → (x = -1 ∧ x' = -1) ∨ (2 ≤ x ∧ x' = x - 1) →
    (ntN s n p x = -1 ∧ ntN (beat s) n p x' = -1) ∨ (2 ≤ ntN s n p x ∧ ntN (beat s) n p x' = ntN s n p x - 1)
  | 0, p, x, x', _, _, _, h => h
  | n + 1, p, x, x', hp, hn, hg, h => by
    have g := hg p (by omega) (by omega)
    rw [ntN_s, ntN_s]
    refine nt_sim hs n (p + 1) _ _ (by omega) (by omega) (fun j a b => hg j (by omega) (by omega)) ?_
    have hm := (hs.rm (r := p) (by omega)).many
    by_cases c : 0 < rm s p 6
    · rcases ff_room hs (r := p) (by omega) c with ⟨a1, a2, a3, a4⟩ | ⟨a1, a2⟩
      · rw [if_pos c, if_pos (show 0 < rm (beat s) p 6 by omega), a3]
        rcases h with ⟨b1, b2⟩ | ⟨b1, b2⟩
        · rw [if_pos b1, if_pos b2]; omega
        · rw [if_neg (show ¬ x = -1 by omega), if_neg (show ¬ x' = -1 by omega)]; omega
      · omega
    · have := gn_none hs (r := p) (by omega) (by omega)
      rw [if_neg c, if_neg (show ¬ 0 < rm (beat s) p 6 by omega)]
      exact h
theorem nt_one {s : Int → Int} (hs : okS s) : ∀ (n : Nat) (p x : Int), 0 ≤ p → p + n ≤ 6 → x = -1 ∨ 1 ≤ x → x = 1 ∨ (∃ j, p ≤ j ∧ j < p + n ∧ 0 < gnR s j) → ntN s n p x = 1
  | 0, p, x, _, _, _, h => by
    rcases h with h | ⟨j, a, b, _⟩
    · exact h
    · omega
  | n + 1, p, x, hp, hn, hx, h => by
    rw [ntN_s]
    have hm := (hs.rm (r := p) (by omega)).many
    have hf : 0 < rm s p 6 → 1 ≤ ffS s p := fun c => by rcases ff_room hs (r := p) (by omega) c with a | a <;> omega
    have hf2 : 0 < gnR s p → 0 < rm s p 6 ∧ ffS s p = 1 := fun c => by
      by_cases c2 : 0 < rm s p 6
      · rcases ff_room hs (r := p) (by omega) c2 with a | a
        · omega
        · exact ⟨c2, a.2⟩
      · have := gn_none hs (r := p) (by omega) (by omega); omega
    refine nt_one hs n (p + 1) _ (by omega) (by omega) ?_ ?_
    · clear h
      split
      · rename_i c; have := hf c; split <;> omega
      · exact hx
    · by_cases c : 0 < gnR s p
      · left
        obtain ⟨c1, c2⟩ := hf2 c
        rw [if_pos c1, c2]
        clear h
        split <;> omega
      · rcases h with h | ⟨j, a, b, d⟩
        · left
          split
          · rename_i c; have := hf c; rw [if_neg (by omega)]; omega
          · exact h
        · right
          have : j ≠ p := fun e => c (e ▸ d)
          exact ⟨j, by omega, by omega, d⟩
theorem nt_ne {s : Int → Int} (hs : okS s) : ∀ (n : Nat) (p x : Int), 0 ≤ p → p + n ≤ 6 → x = -1 ∨ 1 ≤ x → x ≠ -1 ∨ (∃ j, p ≤ j ∧ j < p + n ∧ 0 < rm s j 6) → 1 ≤ ntN s n p x
  | 0, p, x, _, _, hx, h => by
    show 1 ≤ x
    rcases h with h | ⟨j, a, b, _⟩ <;> omega
  | n + 1, p, x, hp, hn, hx, h => by
    rw [ntN_s]
    have hf : 0 < rm s p 6 → 1 ≤ ffS s p := fun c => by rcases ff_room hs (r := p) (by omega) c with a | a <;> omega
    refine nt_ne hs n (p + 1) _ (by omega) (by omega) ?_ ?_
    · clear h
      split
      · rename_i c; have := hf c; split <;> omega
      · exact hx
    · by_cases c : 0 < rm s p 6
      · left
        have := hf c
        rw [if_pos c]; clear h; split <;> omega
      · rcases h with h | ⟨j, a, b, d⟩
        · left; rw [if_neg c]; exact h
        · right
          have : j ≠ p := fun e => c (e ▸ d)
          exact ⟨j, by omega, by omega, d⟩
theorem nt_none {s : Int → Int} : ∀ (n : Nat) (p : Int), (∀ j, p ≤ j → j < p + n → rm s j 6 = 0) → ntN s n p (-1) = -1
  | 0, p, _ => rfl
  | n + 1, p, h => by
    have h0 := h p (by omega) (by omega)
    rw [ntN_s, if_neg (by omega)]
    exact nt_none n (p + 1) (fun j a b => h j (by omega) (by omega))
theorem nextF_0 {s : Int → Int} (hs : okS s) (h : thg s = 0) : nextF s = -1 :=
  nt_none 6 0 (sumF_z (f := fun r => rm s r 6) 6 0 (fun j a b => by have := (hs.rm (r := j) (by omega)).many; show 0 ≤ rm s j 6; omega) h)
theorem nextF_pos {s : Int → Int} (hs : okS s) (h : thg s ≠ 0) : 1 ≤ nextF s := by
  refine nt_ne hs 6 0 (-1) (by omega) (by omega) (Or.inl rfl) (Or.inr (Classical.byContradiction fun q => h ?_))
  refine sumF_p (f := fun r => rm s r 6) 6 0 fun j a b => ?_
  have := (hs.rm (r := j) (by omega)).many
  have : ¬ 0 < rm s j 6 := fun c => q ⟨j, a, b, c⟩
  show rm s j 6 = 0
  omega
theorem goneB_z {s : Int → Int} (hs : okS s) (h : goneB s = 0) : ∀ j, 0 ≤ j → j < 0 + ((6 : Nat) : Int) → gnR s j = 0 :=
  sumF_z (f := fun r => rm (mid s) r 6 - ageQ (rm (mid s) r) (mid s 0)) 6 0 (fun j a b => gn_pos hs (r := j) (by omega)) h
/-- nothing is forgotten in a beat: a beat less is left -/
theorem nextF_beat {s : Int → Int} (hs : okS s) (h : goneB s = 0) (h1 : 1 ≤ nextF s) : 2 ≤ nextF s ∧ nextF (beat s) = nextF s - 1 := by
  have := nt_sim hs 6 0 (-1) (-1) (by omega) (by omega) (goneB_z hs h) (Or.inl ⟨rfl, rfl⟩)
  unfold nextF at h1 ⊢
  omega
theorem nextF_1 {s : Int → Int} (hs : okS s) (h : goneB s ≠ 0) : nextF s = 1 := by
  refine nt_one hs 6 0 (-1) (by omega) (by omega) (Or.inl rfl) (Or.inr (Classical.byContradiction fun q => h ?_))
  refine sumF_p (f := fun r => rm (mid s) r 6 - ageQ (rm (mid s) r) (mid s 0)) 6 0 fun j a b => ?_
  have h1 := gn_pos hs (r := j) (by omega)
  have : ¬ 0 < gnR s j := fun c => q ⟨j, a, b, c⟩
  show gnR s j = 0
  omega
theorem beat_3 (s : Int → Int) : beat s 3 = s 3 + goneB s := by unfold beat; rw [up_n (by omega), up_s]
