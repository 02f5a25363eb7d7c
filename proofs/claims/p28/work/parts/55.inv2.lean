/-! what the law's property needs of a store: what holds of every store that comes up (pure) -/
/-- no two things anywhere have the same key -/
def ku (s : Int → Int) : Prop := (∀ r, 0 ≤ r → r < 6 → dkR (rm s r)) ∧ ∀ r q key, 0 ≤ r → r < 6 → 0 ≤ q → q < 6 → inR (rm s r) key → inR (rm s q) key → r = q
/-- a store behind t calls -/
def ok2 (t : Int) (s : Int → Int) : Prop := okS s ∧ (∀ r, 0 ≤ r → r < 6 → rm s r 0 ≤ 20) ∧ ku s ∧ 0 ≤ s 5 ∧ s 5 ≤ s 4 ∧ s 4 ≤ t
theorem ku_sub {s s' : Int → Int} (h : ku s) (hd : ∀ r, 0 ≤ r → r < 6 → dkR (rm s r) → dkR (rm s' r)) (hi : ∀ r key, 0 ≤ r → r < 6 → inR (rm s' r) key → inR (rm s r) key) : ku s' :=
  ⟨fun r h1 h2 => hd r h1 h2 (h.1 r h1 h2), fun r q key h1 h2 h3 h4 a b => h.2 r q key h1 h2 h3 h4 (hi r key h1 h2 a) (hi q key h3 h4 b)⟩
/-- a room's things are the same -/
def thS (ρ ρ' : Int → Int) : Prop := ρ' 6 = ρ 6 ∧ ∀ i, 0 ≤ i → i < 4 → ρ' (7 + i) = ρ (7 + i)
theorem thS_dk {ρ ρ' : Int → Int} (hm : ρ 6 ≤ 4) (h : thS ρ ρ') (hd : dkR ρ) : dkR ρ' := fun i j h1 h2 h3 h4 e => by
  rw [h.1] at h2 h4
  rw [h.2 i h1 (by omega), h.2 j h3 (by omega)] at e
  exact hd i j h1 h2 h3 h4 e
theorem thS_in {ρ ρ' : Int → Int} (hm : ρ 6 ≤ 4) (h : thS ρ ρ') {key : Int} (hi : inR ρ' key) : inR ρ key := by
  obtain ⟨i, h1, e⟩ := hi
  rw [h.1] at h1
  rw [h.2 i h1.1 (by omega)] at e
  exact ⟨i, h1, e⟩
theorem ku_same {s s' : Int → Int} (hs : okS s) (h : ku s) (ht : ∀ r, 0 ≤ r → r < 6 → thS (rm s r) (rm s' r)) : ku s' :=
  ku_sub h (fun r h1 h2 => thS_dk (hs.rm ⟨h1, h2⟩).many.2 (ht r h1 h2)) (fun r key h1 h2 => thS_in (hs.rm ⟨h1, h2⟩).many.2 (ht r h1 h2))
theorem ok2_same {t : Int} {s s' : Int → Int} (h : ok2 t s) (hs : okS s') (hl : ∀ r, 0 ≤ r → r < 6 → rm s' r 0 ≤ 20) (ht : ∀ r, 0 ≤ r → r < 6 → thS (rm s r) (rm s' r)) (h5 : s' 5 = s 5) (h4 : s' 4 = s 4) : ok2 t s' :=
  ⟨hs, hl, ku_same h.1 h.2.2.1 ht, by rw [h5]; exact h.2.2.2.1, by rw [h5, h4]; exact h.2.2.2.2.1, by rw [h4]; exact h.2.2.2.2.2⟩
theorem ok2_le {t t' : Int} {s : Int → Int} (h : ok2 t s) (ht : t ≤ t') : ok2 t' s := ⟨h.1, h.2.1, h.2.2.1, h.2.2.2.1, h.2.2.2.2.1, by have := h.2.2.2.2.2; omega⟩
theorem rm_upc {s : Int → Int} {r j z q : Int} (hj : 0 ≤ j ∧ j < 15) : rm (up s (9 + 15 * r + j) z) q = if q = r then up (rm s q) j z else rm s q := by
  by_cases e : q = r
  · rw [if_pos e, e, rm_up hj]
  · rw [if_neg e, rm_up_ne hj e]
theorem thS_rf (ρ : Int → Int) : thS ρ ρ := ⟨rfl, fun _ _ _ => rfl⟩
theorem thS_up {ρ : Int → Int} {j z : Int} (hj : j < 6) : thS ρ (up ρ j z) := ⟨up_n (by omega), fun i h1 h2 => up_n (by omega)⟩
theorem ok2_upc {t : Int} {s : Int → Int} (h : ok2 t s) {r j z : Int} (hr : 0 ≤ r) (hj : 1 ≤ j ∧ j < 6) (hs : okS (up s (9 + 15 * r + j) z)) : ok2 t (up s (9 + 15 * r + j) z) := by
  refine ok2_same h hs (fun q h1 h2 => ?_) (fun q h1 h2 => ?_) (up_n (by omega)) (up_n (by omega))
  · rw [rm_upc (by omega)]
    split
    · rw [up_n (by omega)]; exact h.2.1 q h1 h2
    · exact h.2.1 q h1 h2
  · rw [rm_upc (by omega)]
    split
    · exact thS_up (by omega)
    · exact thS_rf _
theorem ok2_lo {t : Int} {s : Int → Int} (h : ok2 t s) {j z : Int} (hj : j < 9 ∧ j ≠ 4 ∧ j ≠ 5) (hs : okS (up s j z)) : ok2 t (up s j z) := by
  refine ok2_same h hs (fun q h1 h2 => ?_) (fun q h1 h2 => ?_) (up_n (by omega)) (up_n (by omega))
  · rw [rm_up_lo (by omega)]; exact h.2.1 q h1 h2
  · rw [rm_up_lo (by omega)]; exact thS_rf _
theorem ok2_light {t : Int} {s : Int → Int} (h : ok2 t s) {r : Int} (hr : 0 ≤ r ∧ r < 6) (hl : 0 < rm s r 0) : ok2 t (light1 s r) :=
  ok2_upc h hr.1 (by omega) (okS_light h.1 hr hl)
theorem ok2_door {t : Int} {s : Int → Int} (h : ok2 t s) {r z : Int} (hr : 0 ≤ r ∧ r < 6) (hz : z = 0 ∨ z = 1) : ok2 t (up s (9 + 15 * r + 5) z) :=
  ok2_upc h hr.1 (by omega) (okS_door h.1 hr hz)
theorem ok2_shield {t : Int} {s : Int → Int} (h : ok2 t s) {r z : Int} (hr : 0 ≤ r ∧ r < 6) (hz : z = 0 ∨ z = 1) : ok2 t (up s (9 + 15 * r + 3) z) :=
  ok2_upc h hr.1 (by omega) (okS_shield h.1 hr hz)
theorem ok2_set {t : Int} {s : Int → Int} (h : ok2 t s) {z : Int} (hz : 1 ≤ z ∧ z ≤ 50) : ok2 t (up s 0 z) := ok2_lo h (by omega) (okS_set h.1 hz)
theorem ok2_dra {t : Int} {s : Int → Int} (h : ok2 t s) {r w : Int} (hr : 0 ≤ r ∧ r < 6) (hw : 1 ≤ w ∧ w ≤ 6) : ok2 t (draS s r w) := by
  refine ok2_same h (okS_dra h.1 hr hw) (fun q h1 h2 => ?_) (fun q h1 h2 => ?_) ?_ ?_
  · unfold draS; rw [rm_up_lo (by omega), rm_up_lo (by omega)]; exact h.2.1 q h1 h2
  · unfold draS; rw [rm_up_lo (by omega), rm_up_lo (by omega)]; exact thS_rf _
  · unfold draS; rw [up_n (by omega), up_n (by omega)]
  · unfold draS; rw [up_n (by omega), up_n (by omega)]
theorem can_new {ρ : Int → Int} (h : can ρ) : can (newR ρ) := can_up (can_up (can_up h (by omega) _) (by omega) _) (by omega) _
theorem rm_renew {s : Int → Int} {r q : Int} (hr : 0 ≤ r) (hq : 0 ≤ q) : rm (renew s r) q = if q = r then newR (rm s r) else rm s q := by
  unfold renew
  rw [rm_up_lo (by omega)]
  by_cases e : q = r
  · rw [if_pos e, e, rm_srm (can_new (can_rm s r))]
  · rw [if_neg e, rm_srm_ne e]
theorem ok2_renew {t : Int} {s : Int → Int} (h : ok2 t s) {r : Int} (hr : 0 ≤ r ∧ r < 6) (hb : 0 < s 1) : ok2 t (renew s r) := by
  refine ok2_same h (okS_renew h.1 hr hb) (fun q h1 h2 => ?_) (fun q h1 h2 => ?_) ?_ ?_
  · rw [rm_renew hr.1 h1]
    split
    · unfold newR; rw [up_n (by omega), up_n (by omega), up_s]; omega
    · exact h.2.1 q h1 h2
  · rw [rm_renew hr.1 h1]
    split
    · rename_i e
      rw [e]
      unfold newR
      exact ⟨by rw [up_n (by omega), up_n (by omega), up_n (by omega)], fun i h1 h2 => by rw [up_n (by omega), up_n (by omega), up_n (by omega)]⟩
    · exact thS_rf _
  · unfold renew; rw [up_n (by omega), srm_lo (by omega)]
  · unfold renew; rw [up_n (by omega), srm_lo (by omega)]
/-! where a key is -/
theorem rofN_none (s : Int → Int) (key : Int) : ∀ (n : Nat) (r : Int), 0 ≤ r → rofN s key n r = -1 → ∀ q, r ≤ q → q < r + n → plc (rm s q) key = -1
  | 0, r, _, _, q, h1, h2 => by omega
  | n + 1, r, hr, h, q, h1, h2 => by
    unfold rofN at h
    split at h
    · rename_i e
      by_cases e2 : q = r
      · rw [e2]; exact e
      · exact rofN_none s key n (r + 1) (by omega) h q (by omega) (by omega)
    · omega
theorem rof_none {s : Int → Int} {key : Int} (h : rof s key = -1) {q : Int} (hq : 0 ≤ q ∧ q < 6) : ¬ inR (rm s q) key := fun hi =>
  inR_plc.mp hi (rofN_none s key 6 0 (by omega) h q hq.1 (by omega))
theorem rof_ku {s : Int → Int} (hk : ku s) {q key : Int} (hq : 0 ≤ q ∧ q < 6) (h : inR (rm s q) key) : rof s key = q := by
  rcases rof_rng s key with h1 | ⟨a, b, c⟩
  · exact absurd h (rof_none h1 hq)
  · exact hk.2 _ _ key a b hq.1 hq.2 (inR_plc.mpr c) h
theorem can_add {ρ : Int → Int} (h : can ρ) (hm : 0 ≤ ρ 6 ∧ ρ 6 < 4) (key : Int) : can (addR ρ key) := can_up (can_up (can_up h (by omega) _) (by omega) _) (by omega) _
theorem add_at {ρ : Int → Int} {key i : Int} (hm : 0 ≤ ρ 6 ∧ ρ 6 < 4) (h1 : 0 ≤ i) (h2 : i < ρ 6 + 1) : addR ρ key (7 + i) = if i = ρ 6 then key else ρ (7 + i) := by
  unfold addR
  rw [up_n (by omega), up_n (by omega)]
  by_cases e : i = ρ 6
  · rw [if_pos e, e, up_s]
  · rw [if_neg e, up_n (by omega)]
theorem add_6 {ρ : Int → Int} {key : Int} : addR ρ key 6 = ρ 6 + 1 := up_s _ _ _
theorem add_dk {ρ : Int → Int} {key : Int} (hm : 0 ≤ ρ 6 ∧ ρ 6 < 4) (hd : dkR ρ) (hk : ¬ inR ρ key) : dkR (addR ρ key) := fun i j h1 h2 h3 h4 e => by
  rw [add_6] at h2 h4
  rw [add_at hm h1 h2, add_at hm h3 h4] at e
  by_cases e1 : i = ρ 6
  · by_cases e2 : j = ρ 6
    · omega
    · rw [if_pos e1, if_neg e2] at e
      exact absurd ⟨j, by omega, e.symm⟩ hk
  · by_cases e2 : j = ρ 6
    · rw [if_neg e1, if_pos e2] at e
      exact absurd ⟨i, by omega, e⟩ hk
    · rw [if_neg e1, if_neg e2] at e
      exact hd i j h1 (by omega) h3 (by omega) e
theorem add_in {ρ : Int → Int} {key key' : Int} (hm : 0 ≤ ρ 6 ∧ ρ 6 < 4) (h : inR (addR ρ key) key') : key' = key ∨ inR ρ key' := by
  obtain ⟨i, h1, e⟩ := h
  rw [add_6] at h1
  rw [add_at hm h1.1 h1.2] at e
  split at e
  · exact Or.inl e.symm
  · exact Or.inr ⟨i, by omega, e⟩
theorem ok2_keep {t : Int} {s : Int → Int} (h : ok2 t s) {r key : Int} (hr : 0 ≤ r ∧ r < 6) (hk : 0 ≤ key ∧ key < 100) (hm : mayK s r key) : ok2 t (keepS s r key) := by
  have hs' := okS_keep h.1 hr hk hm.2
  have hmm : 0 ≤ rm s r 6 ∧ rm s r 6 < 4 := ⟨(h.1.rm hr).many.1, hm.2⟩
  have hrm : ∀ q, rm (keepS s r key) q = if q = r then addR (rm s r) key else rm s q := fun q => by
    unfold keepS
    by_cases e : q = r
    · rw [if_pos e, e, rm_srm (can_add (can_rm s r) hmm key)]
    · rw [if_neg e, rm_srm_ne e]
  refine ⟨hs', fun q h1 h2 => ?_, ⟨fun q h1 h2 => ?_, fun q p k2 h1 h2 h3 h4 a b => ?_⟩, ?_⟩
  · rw [hrm]
    split
    · unfold addR; rw [up_n (by omega), up_n (by omega), up_n (by omega)]; exact h.2.1 r hr.1 hr.2
    · exact h.2.1 q h1 h2
  · rw [hrm]
    split
    · exact add_dk hmm (h.2.2.1.1 r hr.1 hr.2) (rof_none hm.1 hr)
    · exact h.2.2.1.1 q h1 h2
  · rw [hrm] at a b
    by_cases e1 : q = r
    · by_cases e2 : p = r
      · omega
      · rw [if_pos e1] at a
        rw [if_neg e2] at b
        rcases add_in hmm a with e | a
        · rw [e] at b; exact absurd b (rof_none hm.1 ⟨h3, h4⟩)
        · rw [e1]; exact h.2.2.1.2 r p k2 hr.1 hr.2 h3 h4 a b
    · by_cases e2 : p = r
      · rw [if_neg e1] at a
        rw [if_pos e2] at b
        rcases add_in hmm b with e | b
        · rw [e] at a; exact absurd a (rof_none hm.1 ⟨h1, h2⟩)
        · rw [e2]; exact h.2.2.1.2 q r k2 h1 h2 hr.1 hr.2 a b
      · rw [if_neg e1] at a
        rw [if_neg e2] at b
        exact h.2.2.1.2 q p k2 h1 h2 h3 h4 a b
  · unfold keepS
    rw [srm_lo (by omega), srm_lo (by omega)]
    exact h.2.2.2
/-! a beat -/
theorem rm_burnAll {s : Int → Int} {r : Int} (hr : 0 ≤ r ∧ r < 6) : rm (burnAll s) r = burnR (rm s r) := rm_mapR_lt (by omega) (can_burn (can_rm s r))
theorem blN_cong {s s' : Int → Int} (h7 : s' 7 = s 7) (h : ∀ r, 0 ≤ r → r < 6 → rm s' r 3 = rm s r 3 ∧ rm s' r 5 = rm s r 5) : ∀ (n : Nat) (p : Int), blN s' n p = blN s n p
  | 0, p => rfl
  | n + 1, p => by
    unfold blN
    obtain ⟨a, b⟩ := h ((s 7 + p) % 6) (by omega) (by omega)
    rw [h7, a, b, blN_cong h7 h n (p + 1)]
theorem blown_burn (s : Int → Int) : blown (burnAll s) = blown s := by
  have h7 : burnAll s 7 = s 7 := mapR_lo (by omega)
  have h8 : burnAll s 8 = s 8 := mapR_lo (by omega)
  unfold blown
  rw [h8]
  exact blN_cong h7 (fun r h1 h2 => by rw [rm_burnAll ⟨h1, h2⟩, burn_hi (by omega), burn_hi (by omega)]; exact ⟨rfl, rfl⟩) _ _
theorem rm_mid {s : Int → Int} {r : Int} (hr : 0 ≤ r ∧ r < 6) : rm (mid s) r = if (r - s 7) % 6 < blown s then up (burnR (rm s r)) 1 0 else burnR (rm s r) := by
  have h7 : burnAll s 7 = s 7 := mapR_lo (by omega)
  have hb : blown (up (burnAll s) 6 (burnAll s 6 + cbF (burnAll s) (burnAll s 7) (blown (burnAll s)))) = blown (burnAll s) := by
    unfold blown
    rw [up_n (by omega)]
    exact blN_cong (up_n (by omega)) (fun r h1 h2 => by rw [rm_up_lo (by omega)]; exact ⟨rfl, rfl⟩) _ _
  unfold mid blow
  rw [rm_up_lo (by omega), rm_up_lo (by omega), rm_offTo hr, rm_up_lo (by omega), rm_burnAll hr, h7, blown_burn]
theorem rm_beat {s : Int → Int} (hs : okS s) {r : Int} (hr : 0 ≤ r ∧ r < 6) : rm (beat s) r = ageR (rm (mid s) r) (s 0) := by
  have h0 : mid s 0 = s 0 := mid_lo (by omega)
  have hm := okS_mid hs
  unfold beat
  rw [rm_up_lo (by omega), rm_up_lo (by omega)]
  unfold ageAll
  rw [rm_mapR_lt (by omega) (okR_age hm.set (hm.rm hr) (can_rm _ r)).2, h0]
theorem mid_r {s : Int → Int} {r j : Int} (hr : 0 ≤ r ∧ r < 6) (hj : 6 ≤ j) : rm (mid s) r j = rm s r j := by
  rw [rm_mid hr]
  split
  · rw [up_n (by omega), burn_hi (by omega)]
  · rw [burn_hi (by omega)]
theorem mid_len {s : Int → Int} (hs : okS s) {r : Int} (hr : 0 ≤ r ∧ r < 6) : rm (mid s) r 0 ≤ rm s r 0 ∧ rm (mid s) r 1 ≤ rm s r 1 := by
  have h1 := burn_len (hs.rm hr)
  have h2 := burn_bur (hs.rm hr)
  have h3 := (hs.rm hr).bur
  rw [rm_mid hr]
  split
  · rw [up_n (by omega), up_s]; omega
  · omega
theorem beat_lo {s : Int → Int} (hs : okS s) {r j : Int} (hr : 0 ≤ r ∧ r < 6) (hj : j < 6) : rm (beat s) r j = rm (mid s) r j := by
  have hm := okS_mid hs
  have h0 : mid s 0 = s 0 := mid_lo (by omega)
  rw [rm_beat hs hr, age_lo (by rw [← h0]; exact hm.set) (hm.rm hr) (can_rm _ r) hj]
theorem beat_n {s : Int → Int} : beat s 0 = s 0 ∧ beat s 1 = s 1 ∧ beat s 2 = s 2 + 1 ∧ beat s 3 = s 3 + goneB s ∧ beat s 4 = s 4 ∧ beat s 5 = s 5 ∧ beat s 7 = -1 := by
  have ha : ∀ j, j < 9 → ageAll (mid s) j = mid s j := fun j h => mapR_lo h
  unfold beat
  refine ⟨?_, ?_, ?_, ?_, ?_, ?_, ?_⟩
  · rw [up_n (by omega), up_n (by omega), ha _ (by omega), mid_lo (by omega)]
  · rw [up_n (by omega), up_n (by omega), ha _ (by omega), mid_lo (by omega)]
  · rw [up_s]
  · rw [up_n (by omega), up_s]
  · rw [up_n (by omega), up_n (by omega), ha _ (by omega), mid_lo (by omega)]
  · rw [up_n (by omega), up_n (by omega), ha _ (by omega), mid_lo (by omega)]
  · rw [up_n (by omega), up_n (by omega), ha _ (by omega)]
    unfold mid blow
    rw [up_n (by omega), up_s]
theorem ok2_beat {t : Int} {s : Int → Int} (h : ok2 t s) : ok2 t (beat s) := by
  have hs := h.1
  have hm := okS_mid hs
  obtain ⟨-, -, -, -, e4, e5, -⟩ := beat_n (s := s)
  have hmid : ku (mid s) := ku_same hs h.2.2.1 (fun r h1 h2 => ⟨mid_r ⟨h1, h2⟩ (by omega), fun i _ _ => mid_r ⟨h1, h2⟩ (by omega)⟩)
  refine ⟨okS_beat hs, fun r h1 h2 => ?_, ?_, ?_⟩
  · rw [beat_lo hs ⟨h1, h2⟩ (by omega)]
    have := (mid_len hs (r := r) ⟨h1, h2⟩).1
    have := h.2.1 r h1 h2
    omega
  · refine ku_sub hmid (fun r h1 h2 hd => ?_) (fun r key h1 h2 hi => ?_)
    · rw [rm_beat hs ⟨h1, h2⟩]
      exact (age_dk (hm.rm ⟨h1, h2⟩) hd).1
    · rw [rm_beat hs ⟨h1, h2⟩] at hi
      exact (age_dk (hm.rm ⟨h1, h2⟩) (hmid.1 r h1 h2)).2 key hi
  · rw [e4, e5]; exact h.2.2.2
theorem ok2_bts {t : Int} : ∀ (n : Nat) (s : Int → Int) (g : Int), ok2 t s → ok2 t (bts n s g).1
  | 0, s, g, h => h
  | n + 1, s, g, h => ok2_bts n (beat s) _ (ok2_beat h)
/-- right behind a beat: things in the light are at nought, others are not, none is due -/
def aft (s : Int → Int) : Prop := s 7 = -1 ∧ ∀ r i, 0 ≤ r → r < 6 → 0 ≤ i → i < rm s r 6 → rm s r (11 + i) < s 0 ∧ (rm s r (11 + i) = 0 ↔ rm s r 1 ≠ 0)
theorem aft_beat {s : Int → Int} (hs : okS s) : aft (beat s) := by
  have hm := okS_mid hs
  obtain ⟨e0, -, -, -, -, -, e7⟩ := beat_n (s := s)
  refine ⟨e7, fun r i h1 h2 h3 h4 => ?_⟩
  rw [beat_lo hs ⟨h1, h2⟩ (by omega : (1 : Int) < 6), e0]
  rw [rm_beat hs ⟨h1, h2⟩] at h4 ⊢
  exact age_dark (hm.rm ⟨h1, h2⟩) h3 h4
theorem cb_beat {s : Int → Int} (hs : okS s) : cb (beat s) ≤ cb s := sumF_le 6 0 (fun r h1 h2 => by
  have h := (mid_len hs (r := r) (by omega)).2
  rw [beat_lo hs (by omega) (by omega)]; exact h)
theorem thg_beat {s : Int → Int} (hs : okS s) : thg (beat s) = thg s - goneB s := by
  have h0 : mid s 0 = s 0 := mid_lo (by omega)
  unfold thg goneB goneS
  refine sumF_sub 6 0 (fun r h1 h2 => ?_)
  rw [rm_beat hs (by omega), age_6, h0, mid_r (by omega) (by omega)]
  omega
/-- what some beats do -/
theorem bts_all : ∀ (n : Nat) (s : Int → Int) (g : Int), okS s → (bts n s g).1 2 = s 2 + n ∧ (bts n s g).1 3 = s 3 + ((bts n s g).2 - g) ∧ (bts n s g).1 4 = s 4 ∧ (bts n s g).1 5 = s 5 ∧ thg (bts n s g).1 = thg s - ((bts n s g).2 - g) ∧ cb (bts n s g).1 ≤ cb s ∧ g ≤ (bts n s g).2 ∧ (bts n s g).2 ≤ g + 24 * n ∧ (aft s → aft (bts n s g).1)
  | 0, s, g, hs => by
    unfold bts
    dsimp only
    exact ⟨by omega, by omega, rfl, rfl, by omega, Int.le_refl _, Int.le_refl _, by omega, id⟩
  | n + 1, s, g, hs => by
    unfold bts
    obtain ⟨h2, h3, h4, h5, ht, hc, hg, hg2, ha⟩ := bts_all n (beat s) (g + goneB s) (okS_beat hs)
    obtain ⟨-, -, e2, e3, e4, e5, -⟩ := beat_n (s := s)
    have hgo := goneB_rng hs
    have h6 := cb_beat hs
    have h7 := thg_beat hs
    refine ⟨by omega, by omega, by omega, by omega, by omega, by omega, by omega, by omega, fun _ => ha (aft_beat hs)⟩
theorem bts_aft {n : Nat} {s : Int → Int} {g : Int} (hs : okS s) (hn : 1 ≤ n) : aft (bts n s g).1 := by
  obtain ⟨m, rfl⟩ : ∃ m, n = m + 1 := ⟨n - 1, by omega⟩
  unfold bts
  exact (bts_all m (beat s) (g + goneB s) (okS_beat hs)).2.2.2.2.2.2.2.2 (aft_beat hs)
theorem bts_okS {n : Nat} {s : Int → Int} {g : Int} (hs : okS s) : okS (bts n s g).1 := okS_bts n s g hs
/-! reading -/
theorem ok2_read {t : Int} {s : Int → Int} (h : ok2 t s) (key : Int) : ok2 (t + 1) (rdS s key) := by
  have hrr := rof_rng s key
  have h5 := h.2.2.2
  unfold rdS
  split
  · exact ok2_le h (by omega)
  · have hs4 : okS (up s 4 (s 4 + 1)) := okS_lo h.1 (by omega)
    have hk4 : ku (up s 4 (s 4 + 1)) := ku_same h.1 h.2.2.1 (fun r _ _ => by rw [rm_up_lo (by omega)]; exact thS_rf _)
    have h4 : ok2 (t + 1) (up s 4 (s 4 + 1)) := ⟨hs4, fun r a b => by rw [rm_up_lo (by omega)]; exact h.2.1 r a b, hk4, by rw [up_n (by omega)]; exact h5.1, by rw [up_n (by omega), up_s]; omega, by rw [up_s]; omega⟩
    split
    · exact ok2_bts _ _ _ (ok2_upc h4 (by omega) (by omega) (okS_wick hs4 (by omega)))
    · refine ok2_bts _ _ _ ?_
      have hs5 : okS (up (up s 4 (s 4 + 1)) 5 (s 5 + 1)) := okS_lo hs4 (by omega)
      exact ⟨hs5, fun r a b => by rw [rm_up_lo (by omega)]; exact h4.2.1 r a b, ku_same hs4 hk4 (fun r _ _ => by rw [rm_up_lo (j := 5) (by omega)]; exact thS_rf _), by rw [up_s]; omega, by rw [up_s, up_n (by omega), up_s]; omega, by rw [up_n (by omega), up_s]; omega⟩
theorem read_n {s : Int → Int} (hs : okS s) (key : Int) : rdS s key 4 = s 4 + (if rof s key = -1 then 0 else 1) ∧ rdS s key 5 = s 5 + (if rof s key = -1 then 0 else if rm s (rof s key) 1 = 1 then 0 else 1) ∧ rdS s key 2 = s 2 + (if rof s key = -1 then 0 else if rm s (rof s key) 1 = 1 then 1 else 3) := by
  have hrr := rof_rng s key
  by_cases h1 : rof s key = -1
  · have e : rdS s key = s := if_pos h1
    rw [e]
    simp only [if_pos h1]
    exact ⟨by omega, by omega, by omega⟩
  · have hs4 : okS (up s 4 (s 4 + 1)) := okS_lo hs (by omega)
    by_cases hl : rm s (rof s key) 1 = 1
    · have e : rdS s key = (bts 1 (up (up s 4 (s 4 + 1)) (9 + 15 * rof s key + 2) 0) 0).1 := by unfold rdS; rw [if_neg h1, if_pos hl]
      obtain ⟨h2, -, h4, h5, -⟩ := bts_all 1 (up (up s 4 (s 4 + 1)) (9 + 15 * rof s key + 2) 0) 0 (okS_wick hs4 (by omega))
      generalize rof s key = q at *
      simp only [if_neg h1, if_pos hl]
      rw [e, h2, h4, h5]
      refine ⟨?_, ?_, ?_⟩
      · rw [up_n (by omega), up_s]
      · rw [up_n (by omega), up_n (by omega)]; omega
      · rw [up_n (by omega), up_n (by omega)]; rfl
    · have e : rdS s key = (bts 3 (up (up s 4 (s 4 + 1)) 5 (s 5 + 1)) 0).1 := by unfold rdS; rw [if_neg h1, if_neg hl]
      obtain ⟨h2, -, h4, h5, -⟩ := bts_all 3 (up (up s 4 (s 4 + 1)) 5 (s 5 + 1)) 0 (okS_lo hs4 (by omega))
      simp only [if_neg h1, if_neg hl]
      rw [e, h2, h4, h5]
      refine ⟨?_, ?_, ?_⟩
      · rw [up_n (by omega), up_s]
      · rw [up_s]
      · rw [up_n (by omega), up_n (by omega)]; rfl
