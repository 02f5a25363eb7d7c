/-! what the law's property needs of a room: its keys, its things' beats, its candle (pure) -/
/-- the keys of a room are apart -/
def dkR (ρ : Int → Int) : Prop := ∀ i j : Int, 0 ≤ i → i < ρ 6 → 0 ≤ j → j < ρ 6 → ρ (7 + i) = ρ (7 + j) → i = j
/-- a thing with this key is in the room -/
def inR (ρ : Int → Int) (key : Int) : Prop := ∃ i : Int, (0 ≤ i ∧ i < ρ 6) ∧ ρ (7 + i) = key
theorem plcR_none (ρ : Int → Int) (key : Int) : ∀ (n : Nat) (p : Int), 0 ≤ p → plcR ρ key n p = -1 → ∀ i : Int, p ≤ i → i < p + n → ρ (7 + i) ≠ key
  | 0, p, _, _, i, h1, h2 => by omega
  | n + 1, p, hp, h, i, h1, h2 => by
    unfold plcR at h
    split at h
    · omega
    · rename_i hne
      by_cases e : i = p
      · rw [e]; exact hne
      · exact plcR_none ρ key n (p + 1) (by omega) h i (by omega) (by omega)
theorem plcR_some (ρ : Int → Int) (key : Int) : ∀ (n : Nat) (p : Int), plcR ρ key n p ≠ -1 → ρ (7 + plcR ρ key n p) = key
  | 0, p, h => absurd rfl h
  | n + 1, p, h => by
    unfold plcR at h ⊢
    by_cases e : ρ (7 + p) = key
    · rw [if_pos e]; exact e
    · rw [if_neg e] at h ⊢
      exact plcR_some ρ key n (p + 1) h
theorem plc_some {ρ : Int → Int} {key : Int} (h : plc ρ key ≠ -1) : ρ (7 + plc ρ key) = key := plcR_some ρ key _ _ h
theorem inR_plc {ρ : Int → Int} {key : Int} : inR ρ key ↔ plc ρ key ≠ -1 := by
  constructor
  · rintro ⟨i, hi, e⟩ h
    exact plcR_none ρ key (ρ 6).toNat 0 (by omega) h i hi.1 (by omega) e
  · intro h
    have h1 := plcR_rng ρ key (ρ 6).toNat 0
    have h2 := plc_some h
    unfold plc at h h2
    exact ⟨_, by omega, h2⟩
theorem plc_first {ρ : Int → Int} (h : 0 < ρ 6) : plc ρ (ρ (7 + 0)) = 0 := by
  unfold plc
  obtain ⟨n, hn⟩ : ∃ n, (ρ 6).toNat = n + 1 := ⟨(ρ 6).toNat - 1, by omega⟩
  rw [hn]
  unfold plcR
  rw [if_pos rfl]
/-- the things that stay: their keys -/
theorem ageL_key {set : Int} : ∀ (n : Nat) (p q : Int) (r : Int → Int), 0 ≤ q → q ≤ p → p + n ≤ 4 →
    (∀ i j : Int, (0 ≤ i ∧ i < q) ∨ (p ≤ i ∧ i < p + n) → (0 ≤ j ∧ j < q) ∨ (p ≤ j ∧ j < p + n) → r (7 + i) = r (7 + j) → i = j) →
    (∀ i j : Int, 0 ≤ i → i < (ageL set n p q r).2 → 0 ≤ j → j < (ageL set n p q r).2 → (ageL set n p q r).1 (7 + i) = (ageL set n p q r).1 (7 + j) → i = j) ∧
    ∀ i : Int, 0 ≤ i → i < (ageL set n p q r).2 → ∃ j : Int, ((0 ≤ j ∧ j < q) ∨ (p ≤ j ∧ j < p + n)) ∧ (ageL set n p q r).1 (7 + i) = r (7 + j)
  | 0, p, q, r, hq, hp, hn, h => by
    unfold ageL
    exact ⟨fun i j h1 h2 h3 h4 e => h i j (Or.inl ⟨h1, h2⟩) (Or.inl ⟨h3, h4⟩) e, fun i h1 h2 => ⟨i, Or.inl ⟨h1, h2⟩, rfl⟩⟩
  | n + 1, p, q, r, hq, hp, hn, h => by
    unfold ageL
    generalize hv : (if r 1 = 0 then r (11 + p) + 1 else 0) = v
    split
    · have hval : ∀ i : Int, 0 ≤ i → i < 4 → up (up r (7 + q) (r (7 + p))) (11 + q) v (7 + i) = r (7 + (if i = q then p else i)) := fun i h1 h2 => by
        rw [up_n (by omega)]
        by_cases e : i = q
        · rw [e, up_s, if_pos rfl]
        · rw [up_n (by omega), if_neg e]
      have hin : ∀ i : Int, (0 ≤ i ∧ i < q + 1) ∨ (p + 1 ≤ i ∧ i < p + 1 + (n : Int)) → (0 ≤ i ∧ i < 4) ∧ ((0 ≤ (if i = q then p else i) ∧ (if i = q then p else i) < q) ∨ (p ≤ (if i = q then p else i) ∧ (if i = q then p else i) < p + ((n + 1 : Nat) : Int))) := fun i hi => by
        refine ⟨by omega, ?_⟩
        by_cases e : i = q
        · rw [if_pos e]; exact Or.inr (by omega)
        · rw [if_neg e]
          rcases hi with hi | hi
          · exact Or.inl (by omega)
          · exact Or.inr (by omega)
      obtain ⟨g1, g2⟩ := ageL_key (set := set) n (p + 1) (q + 1) (up (up r (7 + q) (r (7 + p))) (11 + q) v) (by omega) (by omega) (by omega) (fun i j hi hj e => by
        obtain ⟨a1, a2⟩ := hin i hi
        obtain ⟨b1, b2⟩ := hin j hj
        rw [hval i a1.1 a1.2, hval j b1.1 b1.2] at e
        have e2 := h _ _ a2 b2 e
        by_cases e3 : i = q
        · by_cases e4 : j = q
          · omega
          · rw [if_pos e3, if_neg e4] at e2; omega
        · by_cases e4 : j = q
          · rw [if_neg e3, if_pos e4] at e2; omega
          · rw [if_neg e3, if_neg e4] at e2; exact e2)
      refine ⟨g1, fun i h1 h2 => ?_⟩
      obtain ⟨j, hj, e⟩ := g2 i h1 h2
      obtain ⟨b1, b2⟩ := hin j hj
      exact ⟨_, b2, e.trans (hval j b1.1 b1.2)⟩
    · obtain ⟨g1, g2⟩ := ageL_key (set := set) n (p + 1) q r (by omega) (by omega) (by omega) (fun i j hi hj e => h i j (by omega) (by omega) e)
      refine ⟨g1, fun i h1 h2 => ?_⟩
      obtain ⟨j, hj, e⟩ := g2 i h1 h2
      exact ⟨j, by omega, e⟩
/-- the things that stay: their beats in the dark -/
theorem ageL_dark {set : Int} : ∀ (n : Nat) (p q : Int) (r : Int → Int), 0 ≤ q → q ≤ p → p + n ≤ 4 → (∀ i : Int, p ≤ i → i < p + n → 0 ≤ r (11 + i)) →
    (∀ i : Int, 0 ≤ i → i < q → r (11 + i) < set ∧ (r (11 + i) = 0 ↔ r 1 ≠ 0)) →
    ∀ i : Int, 0 ≤ i → i < (ageL set n p q r).2 → (ageL set n p q r).1 (11 + i) < set ∧ ((ageL set n p q r).1 (11 + i) = 0 ↔ r 1 ≠ 0)
  | 0, p, q, r, hq, hp, hn, h0, h => by
    unfold ageL
    exact h
  | n + 1, p, q, r, hq, hp, hn, h0, h => by
    unfold ageL
    generalize hv : (if r 1 = 0 then r (11 + p) + 1 else 0) = v
    have hv0 : v = 0 ↔ r 1 ≠ 0 := by
      have := h0 p (by omega) (by omega)
      by_cases e : r 1 = 0
      · rw [if_pos e] at hv
        exact ⟨fun h => by omega, fun h => absurd e h⟩
      · rw [if_neg e] at hv
        exact ⟨fun _ => e, fun _ => hv.symm⟩
    split
    · rename_i hlt
      have e1 : up (up r (7 + q) (r (7 + p))) (11 + q) v 1 = r 1 := by rw [up_n (by omega), up_n (by omega)]
      have g := ageL_dark (set := set) n (p + 1) (q + 1) (up (up r (7 + q) (r (7 + p))) (11 + q) v) (by omega) (by omega) (by omega)
        (fun i h1 h2 => by rw [up_n (by omega), up_n (by omega)]; exact h0 i (by omega) (by omega))
        (fun i h1 h2 => by
          rw [e1]
          by_cases e : i = q
          · rw [e, up_s]; exact ⟨hlt, hv0⟩
          · rw [up_n (by omega), up_n (by omega)]; exact h i h1 (by omega))
      rw [e1] at g
      exact g
    · exact ageL_dark (set := set) n (p + 1) q r (by omega) (by omega) (by omega) (fun i h1 h2 => h0 i (by omega) (by omega)) h
section AGE
variable {ρ : Int → Int} {set : Int}
theorem age_lo (hset : 1 ≤ set ∧ set ≤ 50) (h : okR ρ) (hc : can ρ) {j : Int} (hj : j < 6) : ageR ρ set j = ρ j := by
  obtain ⟨-, -, -, g4⟩ := ageL_ok hset (ρ 6).toNat 0 0 ρ (by omega) (by omega) (by have := h.many; omega) h hc
  unfold ageR
  rw [up_n (by omega), g4 j (by omega)]
theorem age_6 : ageR ρ set 6 = ageQ ρ set := up_s _ _ _
theorem age_dk (h : okR ρ) (hd : dkR ρ) : dkR (ageR ρ set) ∧ ∀ key, inR (ageR ρ set) key → inR ρ key := by
  have hm := h.many
  obtain ⟨g1, g2⟩ := ageL_key (set := set) (ρ 6).toNat 0 0 ρ (by omega) (by omega) (by omega) (fun i j hi hj e => hd i j (by omega) (by omega) (by omega) (by omega) e)
  refine ⟨fun i j h1 h2 h3 h4 e => ?_, fun key => ?_⟩
  · rw [age_6] at h2 h4
    unfold ageR at e
    rw [up_n (by omega), up_n (by omega)] at e
    exact g1 i j h1 h2 h3 h4 e
  · rintro ⟨i, hi, e⟩
    rw [age_6] at hi
    unfold ageR at e
    rw [up_n (by omega)] at e
    obtain ⟨j, hj, e2⟩ := g2 i hi.1 hi.2
    exact ⟨j, by omega, e2.symm.trans e⟩
theorem age_dark (h : okR ρ) {i : Int} (h1 : 0 ≤ i) (h2 : i < ageR ρ set 6) : ageR ρ set (11 + i) < set ∧ (ageR ρ set (11 + i) = 0 ↔ ρ 1 ≠ 0) := by
  have hm := h.many
  rw [age_6] at h2
  have g := ageL_dark (set := set) (ρ 6).toNat 0 0 ρ (by omega) (by omega) (by omega) (fun i h1 h2 => (h.dark i (by omega) (by omega)).1) (fun i h1 h2 => by omega) i h1 h2
  have e : ageR ρ set (11 + i) = (ageL set (ρ 6).toNat 0 0 ρ).1 (11 + i) := by unfold ageR; rw [up_n (by omega)]
  rw [e]
  exact g
end AGE
theorem burn_hi {ρ : Int → Int} {j : Int} (h : j ≠ 0 ∧ j ≠ 1 ∧ j ≠ 2 ∧ j ≠ 4) : burnR ρ j = ρ j := by
  obtain ⟨h0, h1, h2, h4⟩ := h
  unfold burnR
  split
  · rfl
  · split
    · rw [up_n h2, up_n h1, up_n h0, up_n h4]
    · rw [up_n h1, up_n h0, up_n h4]
theorem burn_off {ρ : Int → Int} (h : ρ 1 = 0) : burnR ρ = ρ := if_pos h
theorem burn_on {ρ : Int → Int} (h : ρ 1 ≠ 0) : burnR ρ 0 = max 0 (ρ 0 - lessR (ρ 2)) ∧ ((0 < ρ 0 - lessR (ρ 2) ∧ burnR ρ 1 = 1 ∧ burnR ρ 2 = min 9 (ρ 2 + 1)) ∨ (ρ 0 - lessR (ρ 2) ≤ 0 ∧ burnR ρ 1 = 0)) := by
  unfold burnR
  rw [if_neg h]
  split
  · rename_i hp
    refine ⟨?_, Or.inl ⟨by omega, ?_, ?_⟩⟩
    · rw [up_n (by omega), up_n (by omega), up_s]
    · rw [up_n (by omega), up_s]
    · rw [up_s]
  · rename_i hp
    refine ⟨?_, Or.inr ⟨by omega, ?_⟩⟩
    · rw [up_n (by omega), up_s]
    · rw [up_s]
theorem burn_len {ρ : Int → Int} (h : okR ρ) : burnR ρ 0 ≤ ρ 0 := by
  have hl := h.len
  have hr := lessR_rng (ρ 2)
  by_cases e : ρ 1 = 0
  · rw [burn_off e]; omega
  · rw [(burn_on e).1]; omega
theorem burn_bur {ρ : Int → Int} (h : okR ρ) : burnR ρ 1 ≤ ρ 1 := by
  have hb := h.bur
  by_cases e : ρ 1 = 0
  · rw [burn_off e]; omega
  · rcases (burn_on e).2 with h | h <;> omega
/-- a candle burns no longer than it is long -/
theorem untr_le : ∀ (n : Nat) (l t : Int), 0 ≤ l → untr n l t ≤ l
  | 0, l, t, h => by unfold untr; exact h
  | n + 1, l, t, h => by
    unfold untr
    split
    · exact h
    · have hr := lessR_rng t
      by_cases e : 0 ≤ l - lessR t
      · have := untr_le n (l - lessR t) (min 9 (t + 1)) e
        omega
      · have h0 : untr n (l - lessR t) (min 9 (t + 1)) = 0 := by
          cases n with
          | zero => rfl
          | succ n => unfold untr; rw [if_pos (by omega)]
        omega
theorem untr_pos {n : Nat} {l t : Int} (h : 0 < l) : 1 ≤ untr (n + 1) l t := by
  have := untr_rng n (l - lessR t) (min 9 (t + 1))
  unfold untr
  rw [if_neg (by omega)]
  omega
/-! sums -/
theorem sumF_le {f g : Int → Int} : ∀ (n : Nat) (p : Int), (∀ i, p ≤ i → i < p + n → f i ≤ g i) → sumF f n p ≤ sumF g n p
  | 0, p, _ => by unfold sumF; omega
  | n + 1, p, h => by
    have h1 := h p (by omega) (by omega)
    have h2 := sumF_le n (p + 1) (fun i a b => h i (by omega) (by omega))
    unfold sumF; omega
theorem sumF_sub {f g d : Int → Int} : ∀ (n : Nat) (p : Int), (∀ i, p ≤ i → i < p + n → f i = g i - d i) → sumF f n p = sumF g n p - sumF d n p
  | 0, p, _ => by unfold sumF; omega
  | n + 1, p, h => by
    have h1 := h p (by omega) (by omega)
    have h2 := sumF_sub n (p + 1) (fun i a b => h i (by omega) (by omega))
    unfold sumF; omega
theorem sumF_0 {f : Int → Int} : ∀ (n : Nat) (p : Int), (∀ i, p ≤ i → i < p + n → 0 ≤ f i) → sumF f n p ≤ 0 → ∀ i, p ≤ i → i < p + n → f i = 0
  | 0, p, _, _, i, h1, h2 => by omega
  | n + 1, p, h, h0, i, h1, h2 => by
    have g1 := h p (by omega) (by omega)
    have g2 := sumF_le (f := fun _ => 0) (g := f) n (p + 1) (fun i a b => h i (by omega) (by omega))
    have g3 : ∀ (n : Nat) (p : Int), sumF (fun _ => 0) n p = 0 := fun n => by
      induction n with
      | zero => intro p; rfl
      | succ n ih => intro p; unfold sumF; rw [ih]; rfl
    rw [g3] at g2
    unfold sumF at h0
    by_cases e : i = p
    · rw [e]; omega
    · exact sumF_0 n (p + 1) (fun i a b => h i (by omega) (by omega)) (by omega) i (by omega) (by omega)
theorem sumF_one {f g : Int → Int} {r d : Int} (hne : ∀ i, i ≠ r → f i = g i) (hr : f r = g r + d) : ∀ (n : Nat) (p : Int), p ≤ r → r < p + n → sumF f n p = sumF g n p + d
  | 0, p, h1, h2 => by omega
  | n + 1, p, h1, h2 => by
    unfold sumF
    by_cases e : p = r
    · subst e
      have h3 := sumF_cong (f := f) (g := g) n (p + 1) (fun i a b => hne i (by omega))
      omega
    · have h3 := sumF_one hne hr n (p + 1) (by omega) (by omega)
      have h4 := hne p e
      omega
