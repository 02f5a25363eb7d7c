/-! what the looks tell of a store (pure) -/
theorem thg_0 {s : Int → Int} (hs : okS s) : thg s = 0 ↔ ∀ i, 0 ≤ i → i < 6 → rm s i 6 = 0 := by
  constructor
  · intro h i h1 h2
    exact sumF_0 (f := fun r => rm s r 6) 6 0 (fun i a b => (hs.rm (r := i) (by omega)).many.1) (by unfold thg at h; omega) i h1 (by omega)
  · intro h
    have h1 := thg_rng hs
    have h2 := sumF_le (f := fun r => rm s r 6) (g := fun _ => 0) 6 0 (fun i a b => by rw [h i a (by omega)]; exact Int.le_refl 0)
    have h3 : sumF (fun _ => 0) 6 0 = 0 := rfl
    unfold thg at h1 ⊢
    omega
theorem cb_0 {s : Int → Int} (hs : okS s) (h : cb s = 0) {i : Int} (hi : 0 ≤ i ∧ i < 6) : rm s i 1 = 0 :=
  sumF_0 (f := fun r => rm s r 1) 6 0 (fun i a b => by have := (hs.rm (r := i) (by omega)).bur; omega) (by unfold cb at h; omega) i hi.1 (by omega)
theorem cb_light {s : Int → Int} {r : Int} (hr : 0 ≤ r ∧ r < 6) (h : rm s r 1 = 0) : cb (light1 s r) = cb s + 1 := by
  unfold cb
  refine sumF_one (r := r) (fun i hi => ?_) ?_ 6 0 hr.1 (by omega)
  · unfold light1; rw [rm_upc (by omega), if_neg hi]
  · unfold light1; rw [rm_upc (by omega), if_pos rfl, up_s, h]; rfl
/-! how long a room is lit -/
theorem blit_spec {s : Int → Int} (hs : okS s) {r : Int} (hr : 0 ≤ r ∧ r < 6) : (blit s r = 0 ↔ rm s r 1 = 0) ∧ 0 ≤ blit s r ∧ blit s r ≤ rm s r 0 := by
  have h1 := (hs.rm hr).len
  have h2 := (hs.rm hr).lit
  have h3 := (hs.rm hr).bur
  have h4 := untr_rng 60 (rm s r 0) (rm s r 2)
  have h5 := untr_le 60 (rm s r 0) (rm s r 2) h1.1
  unfold blit
  by_cases e : rm s r 1 = 0
  · rw [if_pos e]; exact ⟨⟨fun _ => e, fun _ => rfl⟩, by omega, by omega⟩
  · have h6 := h2 (by omega)
    have h7 : 1 ≤ untr 60 (rm s r 0) (rm s r 2) := untr_pos (n := 59) (t := rm s r 2) h6
    rw [if_neg e]
    split
    · exact ⟨⟨fun h => by omega, fun h => absurd h e⟩, by omega, by omega⟩
    · exact ⟨⟨fun h => by omega, fun h => absurd h e⟩, by omega, by omega⟩
theorem savR_spec {ρ : Int → Int} (h : okR ρ) : (ρ 1 = 0 → savR ρ = 0) ∧ 0 ≤ savR ρ ∧ savR ρ ≤ 60 := by
  have h1 := h.len
  have h4 := untr_rng 60 (ρ 0) (ρ 2)
  have h5 := untr_le 60 (ρ 0) (ρ 2) h1.1
  unfold savR
  by_cases e : ρ 1 = 0
  · rw [if_pos e]; exact ⟨fun _ => rfl, by omega, by omega⟩
  · rw [if_neg e]; exact ⟨fun h => absurd h e, by omega, by omega⟩
theorem off_stays {s : Int → Int} (hs : okS s) {q : Int} (hq : 0 ≤ q ∧ q < 6) (h : rm s q 1 = 0) : rm (beat s) q 1 = 0 := by
  have h1 := (mid_len hs hq).2
  have h2 := ((okS_mid hs).rm hq).bur
  rw [beat_lo hs hq (by omega)]; omega
theorem lasts_off {q : Int} (hq : 0 ≤ q ∧ q < 6) : ∀ (n m : Nat) (s : Int → Int) (g : Int), okS s → rm s q 0 ≤ m → (rm s q 1 = 1 → untr m (rm s q 0) (rm s q 2) ≤ n) → rm (bts n s g).1 q 1 = 0
  | 0, m, s, g, hs, hm, h => by
    have h2 := (hs.rm hq).lit
    have h3 := (hs.rm hq).bur
    unfold bts
    dsimp only
    rcases h3 with h3 | h3
    · exact h3
    · have h4 := h h3
      have h5 := h2 h3
      obtain ⟨m', rfl⟩ : ∃ m', m = m' + 1 := ⟨m - 1, by omega⟩
      have h6 := untr_pos (n := m') (t := rm s q 2) h5
      omega
  | n + 1, m, s, g, hs, hm, h => by
    have h2 := (hs.rm hq).lit
    have h3 := (hs.rm hq).bur
    have hb := okS_beat hs
    have hb3 := (hb.rm hq).bur
    unfold bts
    by_cases e : rm (beat s) q 1 = 1
    · have e1 : rm s q 1 = 1 := by
        rcases h3 with h3 | h3
        · have := off_stays hs hq h3; omega
        · exact h3
      have h5 := h2 e1
      obtain ⟨m', rfl⟩ : ∃ m', m = m' + 1 := ⟨m - 1, by omega⟩
      have hr := lessR_rng (rm s q 2)
      have h6 := h e1
      unfold untr at h6
      rw [if_neg (by omega)] at h6
      have hmid : rm (mid s) q = burnR (rm s q) := by
        rw [beat_lo hs hq (by omega), rm_mid hq] at e
        rw [rm_mid hq]
        split
        · rename_i hd
          rw [if_pos hd, up_s] at e
          omega
        · rfl
      have e2 : burnR (rm s q) 1 = 1 := by rw [← hmid, ← beat_lo hs hq (by omega)]; exact e
      obtain ⟨a0, a1⟩ := burn_on (ρ := rm s q) (by omega)
      have a2 : 0 < rm s q 0 - lessR (rm s q 2) ∧ burnR (rm s q) 2 = min 9 (rm s q 2 + 1) := by
        rcases a1 with ⟨b1, b2, b3⟩ | ⟨b1, b2⟩
        · exact ⟨b1, b3⟩
        · omega
      have c0 : rm (beat s) q 0 = rm s q 0 - lessR (rm s q 2) := by rw [beat_lo hs hq (by omega), hmid, a0]; omega
      have c2 : rm (beat s) q 2 = min 9 (rm s q 2 + 1) := by rw [beat_lo hs hq (by omega), hmid, a2.2]
      refine lasts_off hq n m' (beat s) _ hb (by rw [c0]; omega) (fun _ => ?_)
      rw [c0, c2]; omega
    · refine lasts_off hq n m (beat s) _ hb ?_ (fun h => absurd h e)
      have := (mid_len hs hq).1
      rw [beat_lo hs hq (by omega)]; omega
/-- when the time of a room is over it is dark -/
theorem lasts_end {s : Int → Int} (hs : okS s) {q : Int} (hq : 0 ≤ q ∧ q < 6) (h : 0 < blit s q) : rm (bts (blit s q).toNat s 0).1 q 1 = 0 := by
  have h4 := untr_rng 60 (rm s q 0) (rm s q 2)
  by_cases e : rm s q 1 = 0
  · have h1 : blit s q = 0 := if_pos e
    omega
  · by_cases hd : (q - s 7) % 6 < blown s
    · have h1 : blit s q = 1 := by unfold blit; rw [if_neg e, if_pos hd]
      rw [h1]
      show rm (beat s) q 1 = 0
      rw [beat_lo hs hq (by omega), rm_mid hq, if_pos hd, up_s]
    · have h1 : blit s q = untr 60 (rm s q 0) (rm s q 2) := by unfold blit; rw [if_neg e, if_neg hd]
      exact lasts_off hq _ 60 s 0 hs (hs.rm hq).len.2 (fun _ => by rw [h1]; omega)
/-! the next thing that is forgotten, the neediest room -/
theorem ntN_spec {s : Int → Int} (hs : okS s) : ∀ (n : Nat) (p x : Int), 0 ≤ p → p + n ≤ 6 → (x = -1 ∨ (1 ≤ x ∧ x ≤ 110)) → (ntN s n p x = -1 ∨ (1 ≤ ntN s n p x ∧ ntN s n p x ≤ 110)) ∧ (ntN s n p x = -1 ↔ x = -1 ∧ ∀ i, p ≤ i → i < p + n → rm s i 6 = 0)
  | 0, p, x, hp, hn, hx => by
    unfold ntN
    exact ⟨hx, ⟨fun h => ⟨h, fun i h1 h2 => by omega⟩, fun h => h.1⟩⟩
  | n + 1, p, x, hp, hn, hx => by
    have hf := ffR_rng (hs.rm (r := p) (by omega)) (blit_rng s p) hs.set
    have hm := (hs.rm (r := p) (by omega)).many
    unfold ntN
    generalize hx' : (if 0 < rm s p 6 then (if x = -1 then ffR (rm s p) (blit s p) (s 0) else min x (ffR (rm s p) (blit s p) (s 0))) else x) = x'
    have h1 : (x' = -1 ∨ (1 ≤ x' ∧ x' ≤ 110)) ∧ (x' = -1 ↔ x = -1 ∧ rm s p 6 = 0) := by
      by_cases e : 0 < rm s p 6
      · rw [if_pos e] at hx'
        by_cases e2 : x = -1
        · rw [if_pos e2] at hx'; omega
        · rw [if_neg e2] at hx'; omega
      · rw [if_neg e] at hx'; omega
    obtain ⟨g1, g2⟩ := ntN_spec hs n (p + 1) x' (by omega) (by omega) h1.1
    refine ⟨g1, g2.trans ?_⟩
    rw [h1.2]
    constructor
    · rintro ⟨⟨a, b⟩, c⟩
      refine ⟨a, fun i h1 h2 => ?_⟩
      by_cases e : i = p
      · rw [e]; exact b
      · exact c i (by omega) (by omega)
    · rintro ⟨a, c⟩
      exact ⟨⟨a, c p (by omega) (by omega)⟩, fun i h1 h2 => c i (by omega) (by omega)⟩
theorem nextF_spec {s : Int → Int} (hs : okS s) : (nextF s = -1 ∨ (1 ≤ nextF s ∧ nextF s ≤ 110)) ∧ (nextF s = -1 ↔ thg s = 0) := by
  obtain ⟨g1, g2⟩ := ntN_spec hs 6 0 (-1) (by omega) (by omega) (Or.inl rfl)
  refine ⟨g1, g2.trans ?_⟩
  rw [thg_0 hs]
  exact ⟨fun h i a b => h.2 i a (by omega), fun h => ⟨rfl, fun i a b => h i a (by omega)⟩⟩
theorem ndN_spec {s : Int → Int} (hs : okS s) : ∀ (n : Nat) (p x : Int), 0 ≤ p → p + n ≤ 6 → (x = -1 ∨ (0 ≤ x ∧ x < 6)) → (ndN s n p x = -1 ∨ (0 ≤ ndN s n p x ∧ ndN s n p x < 6)) ∧ (ndN s n p x = -1 ↔ x = -1 ∧ ∀ i, p ≤ i → i < p + n → rm s i 6 = 0)
  | 0, p, x, hp, hn, hx => by
    unfold ndN
    exact ⟨hx, ⟨fun h => ⟨h, fun i h1 h2 => by omega⟩, fun h => h.1⟩⟩
  | n + 1, p, x, hp, hn, hx => by
    have hm := (hs.rm (r := p) (by omega)).many
    unfold ndN
    generalize hx' : (if 0 < rm s p 6 ∧ (x = -1 ∨ needr s p x) then p else x) = x'
    have h1 : (x' = -1 ∨ (0 ≤ x' ∧ x' < 6)) ∧ (x' = -1 ↔ x = -1 ∧ rm s p 6 = 0) := by
      by_cases e : 0 < rm s p 6 ∧ (x = -1 ∨ needr s p x)
      · rw [if_pos e] at hx'
        have := e.1
        omega
      · rw [if_neg e] at hx'
        subst hx'
        refine ⟨hx, ⟨fun h => ⟨h, ?_⟩, fun h => h.1⟩⟩
        by_cases e3 : 0 < rm s p 6
        · exact absurd ⟨e3, Or.inl h⟩ e
        · omega
    obtain ⟨g1, g2⟩ := ndN_spec hs n (p + 1) x' (by omega) (by omega) h1.1
    refine ⟨g1, g2.trans ?_⟩
    rw [h1.2]
    constructor
    · rintro ⟨⟨a, b⟩, c⟩
      refine ⟨a, fun i h1 h2 => ?_⟩
      by_cases e : i = p
      · rw [e]; exact b
      · exact c i (by omega) (by omega)
    · rintro ⟨a, c⟩
      exact ⟨⟨a, c p (by omega) (by omega)⟩, fun i h1 h2 => c i (by omega) (by omega)⟩
theorem needS_spec {s : Int → Int} (hs : okS s) : (needS s = -1 ∨ (0 ≤ needS s ∧ needS s < 6)) ∧ (needS s = -1 ↔ thg s = 0) := by
  obtain ⟨g1, g2⟩ := ndN_spec hs 6 0 (-1) (by omega) (by omega) (Or.inl rfl)
  refine ⟨g1, g2.trans ?_⟩
  rw [thg_0 hs]
  exact ⟨fun h i a b => h.2 i a (by omega), fun h => ⟨rfl, fun i a b => h i a (by omega)⟩⟩
/-! the candles on the way -/
theorem onW_q {s : Int → Int} {q d : Int} (hq : 0 ≤ q ∧ q < 6) : (rm s q 1 = 1 → onW s q d 6 0 = 0) ∧ (rm s q 1 ≠ 1 → onW s q d 6 0 = -1 ∨ (1 ≤ onW s q d 6 0 ∧ onW s q d 6 0 ≤ 5 ∧ rm s q 0 ≠ 0)) := by
  have e : (q + 0 * d) % 6 = q := by rw [Int.zero_mul]; omega
  unfold onW
  rw [e]
  refine ⟨fun h => if_pos h, fun h => ?_⟩
  rw [if_neg h]
  split
  · exact Or.inl rfl
  · rename_i hn
    have hr := onW_rng s q d 5 (0 + 1)
    by_cases e0 : rm s q 0 = 0
    · exact absurd (Or.inl e0) hn
    · rcases hr with hr | hr
      · exact Or.inl hr
      · exact Or.inr ⟨by omega, by omega, e0⟩
theorem toL_spec {s : Int → Int} (hs : okS s) {q : Int} (hq : 0 ≤ q ∧ q < 6) : (toL s q = 0 ↔ rm s q 1 = 1) ∧ (-1 ≤ toL s q ∧ toL s q ≤ 5) ∧ (1 ≤ toL s q → 0 < rm s q 0) ∧ (cb s = 0 → toL s q ≤ 1) := by
  obtain ⟨a1, a2⟩ := onW_q (s := s) (d := -1) hq
  obtain ⟨b1, b2⟩ := onW_q (s := s) (d := 1) hq
  have hl := (hs.rm hq).len
  have hb := (hs.rm hq).bur
  unfold toL
  by_cases e : cb s = 0
  · have h0 := cb_0 hs e hq
    rw [if_pos e]
    split
    · exact ⟨⟨fun h => by omega, fun h => by omega⟩, by omega, fun _ => by omega, fun _ => by omega⟩
    · exact ⟨⟨fun h => by omega, fun h => by omega⟩, by omega, fun h => by omega, fun _ => by omega⟩
  · rw [if_neg e]
    by_cases hl1 : rm s q 1 = 1
    · rw [a1 hl1, b1 hl1]
      exact ⟨⟨fun _ => hl1, fun _ => rfl⟩, by decide, fun h => absurd h (by decide), fun h => absurd h e⟩
    · have a3 := a2 hl1
      have b3 := b2 hl1
      generalize onW s q (-1) 6 0 = A at a3
      generalize onW s q 1 6 0 = B at b3
      split
      · exact ⟨⟨fun h => by omega, fun h => absurd h hl1⟩, by omega, fun h => by omega, fun h => absurd h e⟩
      · split
        · exact ⟨⟨fun h => by omega, fun h => absurd h hl1⟩, by omega, fun h => by omega, fun h => absurd h e⟩
        · exact ⟨⟨fun h => by omega, fun h => absurd h hl1⟩, by omega, fun h => by omega, fun h => absurd h e⟩
/-! the share in the light -/
def cmpT (a b : UInt64) (op : CmpOp) : Int := (Op.cmpValue (FP.dcmp a b) op).toInt
theorem cmpT_I (a b : UInt64) (op : CmpOp) : Op.cmpValue (FP.dcmp a b) op = gI (cmpT a b op) := (gI_of _).symm
theorem cmpT_rng (a b : UInt64) (op : CmpOp) : -2147483648 ≤ cmpT a b op ∧ cmpT a b op < 2147483648 := gI_rng _
theorem sh_tab : ∀ a : Fin 25, ∀ b : Fin 24, a.val ≤ b.val + 1 → 0 ≤ cmpT (shD (a.val : Int) ((b.val : Int) + 1)) FP.dconst0 CmpOp.l ∧ cmpT (shD (a.val : Int) ((b.val : Int) + 1)) FP.dconst1 CmpOp.g ≤ 0 := by decide +kernel
theorem share_cmp {s : Int → Int} (hs : okS s) : 0 ≤ cmpT (share s) FP.dconst0 CmpOp.l ∧ cmpT (share s) FP.dconst1 CmpOp.g ≤ 0 := by
  have h1 := thg_rng hs
  have h2 := inl_rng hs
  have h3 : inl s ≤ thg s := sumF_le 6 0 (fun i a b => by
    have := (hs.rm (r := i) (by omega)).many
    split <;> omega)
  unfold share
  by_cases e : thg s = 0
  · rw [if_pos e]; decide +kernel
  · rw [if_neg e]
    have h := sh_tab ⟨(inl s).toNat, by omega⟩ ⟨(thg s - 1).toNat, by omega⟩ (by dsimp only; omega)
    dsimp only at h
    rw [Int.toNat_of_nonneg h2.1, Int.toNat_of_nonneg (by omega), show thg s - 1 + 1 = thg s by omega] at h
    exact h
/-! things by their keys -/
theorem thn_0 {s : Int → Int} {key : Int} : thn s key 0 = rof s key := by
  unfold thn
  split
  · rename_i h; exact h.symm
  · rw [if_pos rfl]
theorem thn_none {s : Int → Int} {key w : Int} (h : rof s key = -1) : thn s key w = -1 := by unfold thn; rw [if_pos h]
theorem thn_1 {s : Int → Int} (hs : okS s) {key : Int} (h : rof s key ≠ -1) : ∃ i, (0 ≤ i ∧ i < rm s (rof s key) 6) ∧ thn s key 1 = rm s (rof s key) (11 + i) := by
  rcases rof_rng s key with h1 | ⟨a, b, c⟩
  · exact absurd h1 h
  · rcases plc_rng hs (r := rof s key) (key := key) ⟨a, b⟩ with h2 | h2
    · exact absurd h2 c
    · refine ⟨_, h2, ?_⟩
      unfold thn darkR
      rw [if_neg h, if_neg (by decide), if_pos rfl, if_pos h2]
theorem keyR_spec {ρ : Int → Int} (h : okR ρ) : (keyR ρ 0 = -1 ↔ ρ 6 = 0) ∧ -1 ≤ keyR ρ 0 ∧ keyR ρ 0 < 100 ∧ (0 < ρ 6 → 0 ≤ keyR ρ 0 ∧ keyR ρ 0 = ρ (7 + 0)) := by
  have h1 := h.keys 0 (by omega) (by omega)
  have h2 := h.many
  unfold keyR
  by_cases e : 0 < ρ 6
  · rw [if_pos ⟨Int.le_refl 0, e⟩]
    exact ⟨⟨fun h => by omega, fun h => by omega⟩, by omega, by omega, fun _ => ⟨by omega, rfl⟩⟩
  · rw [if_neg (by omega)]
    exact ⟨⟨fun _ => by omega, fun _ => rfl⟩, by omega, by omega, fun h => absurd h e⟩
theorem first_spec {t : Int} {s : Int → Int} (h : ok2 t s) {q : Int} (hq : 0 ≤ q ∧ q < 6) (hp : 0 < rm s q 6) : thn s (keyR (rm s q) 0) 0 = q ∧ thn s (keyR (rm s q) 0) 2 = 0 := by
  have hk := (keyR_spec (h.1.rm hq)).2.2.2 hp
  have hi : inR (rm s q) (keyR (rm s q) 0) := ⟨0, ⟨Int.le_refl 0, hp⟩, hk.2.symm⟩
  have hr := rof_ku h.2.2.1 hq hi
  refine ⟨thn_0.trans hr, ?_⟩
  unfold thn
  rw [hr, if_neg (by omega), if_neg (by decide), if_neg (by decide), hk.2]
  exact plc_first hp
/-- all that is told of a room -/
theorem house_room {t : Int} {s : Int → Int} (h : ok2 t s) {q : Int} (hq : 0 ≤ q ∧ q < 6) :
    (rm s q 1 = 0 ∨ (rm s q 1 = 1 ∧ 0 < rm s q 0)) ∧ (0 ≤ rm s q 0 ∧ rm s q 0 ≤ 20) ∧ (0 ≤ rm s q 2 ∧ rm s q 2 ≤ 9) ∧ (0 ≤ rm s q 6 ∧ rm s q 6 ≤ 4) ∧ ((keyR (rm s q) 0 = -1 ∧ rm s q 6 = 0) ∨ (0 ≤ keyR (rm s q) 0 ∧ keyR (rm s q) 0 < 100 ∧ 0 < rm s q 6)) ∧
    ((toL s q = 0 ∧ rm s q 1 = 1) ∨ ((toL s q = -1 ∨ (1 ≤ toL s q ∧ toL s q ≤ 5 ∧ 0 < rm s q 0)) ∧ rm s q 1 = 0)) ∧ ((rm s q 1 = 0 ∧ savR (rm s q) = 0) ∨ (rm s q 1 = 1 ∧ 0 ≤ savR (rm s q) ∧ savR (rm s q) ≤ 60)) ∧ ((blit s q = 0 ∧ rm s q 1 = 0) ∨ (0 < blit s q ∧ rm s q 1 = 1 ∧ blit s q ≤ rm s q 0)) := by
  have hR := h.1.rm hq
  have h0 := hR.len
  have h1 := hR.bur
  have h2 := hR.wick
  have h6 := hR.many
  have hl := hR.lit
  have h20 := h.2.1 q hq.1 hq.2
  obtain ⟨k1, k2, k3, k4⟩ := keyR_spec hR
  obtain ⟨c1, c2, c3, c4⟩ := toL_spec h.1 hq
  obtain ⟨v1, v2, v3⟩ := savR_spec hR
  obtain ⟨b1, b2, b3⟩ := blit_spec h.1 hq
  refine ⟨by omega, by omega, h2, h6, by omega, by omega, by omega, by omega⟩
