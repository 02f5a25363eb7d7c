/-! DeedText -/

/-- the text at c: len characters of tx -/
def dput (ad : Int → Nat) (ty : Nat → ClassId) (σ : Int → va_E) (c len : Int) (tx : Int → Int) : Int → va_E := fun q =>
  if q = c then .inr (0, [.ref (ad (c + 1)), .int (gI len)]) else if q = c + 1 then gAr (ty 1) 60 tx else σ q
section TEXT
variable {ad : Int → Nat} {ty : Nat → ClassId} {σ : Int → va_E} {c len : Int} {tx : Int → Int}
theorem dput_0 : dput ad ty σ c len tx c = .inr (0, [.ref (ad (c + 1)), .int (gI len)]) := if_pos rfl
theorem dput_1 : dput ad ty σ c len tx (c + 1) = gAr (ty 1) 60 tx := by
  unfold dput; rw [if_neg (by omega), if_pos rfl]
theorem dput_x {q : Int} (h : q < c ∨ c + 1 < q) : dput ad ty σ c len tx q = σ q := by
  unfold dput; rw [if_neg (by omega), if_neg (by omega)]
theorem dput_n (z : Int) : up (dput ad ty σ c len tx) c (.inr (0, [.ref (ad (c + 1)), .int (gI z)])) = dput ad ty σ c z tx := by
  funext q
  by_cases h : q = c
  · subst h; rw [up_s, dput_0]
  · rw [up_n h]; unfold dput; rw [if_neg h, if_neg h]
theorem dput_t (tx' : Int → Int) : up (dput ad ty σ c len tx) (c + 1) (gAr (ty 1) 60 tx') = dput ad ty σ c len tx' := by
  funext q
  by_cases h : q = c + 1
  · subst h; rw [up_s, dput_1]
  · rw [up_n h]; unfold dput; rw [if_neg h, if_neg h]
end TEXT
/-- what stands at a place -/
def cAt (len : Int) (tx : Int → Int) (p : Int) : Int := if 0 ≤ p ∧ p < len then tx p else 0
abbrev isDg (c lo hi : Int) : Prop := 48 + lo ≤ c ∧ c ≤ 48 + hi
def dgAt (len : Int) (tx : Int → Int) (p : Int) : Int := if isDg (cAt len tx p) 0 9 then cAt len tx p - 48 else -1
def nuAt (len : Int) (tx : Int → Int) (p : Int) : Int := if dgAt len tx (p + 1) = -1 then max 0 (dgAt len tx p) else max 0 (dgAt len tx p) * 10 + dgAt len tx (p + 1)
abbrev stP (len : Int) (tx : Int → Int) (p : Int) : Prop := p = 0 ∨ cAt len tx (p - 1) = 44
def sgn (c : Int) : Int := if c = 42 ∨ c = 60 ∨ c = 62 ∨ c = 110 then 5 else if c = 98 then 2 else if c = 43 then 3 else 6
def stB (t c : Int) : Int := if t = 0 then (if isDg c 0 5 then 1 else 6) else if t = 1 then sgn c else if t = 2 then (if isDg c 1 6 then 5 else 6) else if t = 3 then (if c = 48 then 5 else if isDg c 1 9 then 4 else 6) else if t = 4 then (if isDg c 0 9 then 5 else if c = 44 then 0 else 6) else if t = 5 then (if c = 44 then 0 else 6) else 6
theorem sgn_rng (c : Int) : 0 ≤ sgn c ∧ sgn c ≤ 6 := by unfold sgn; (repeat' split) <;> omega
theorem stB_rng (t c : Int) : 0 ≤ stB t c ∧ stB t c ≤ 6 := by have := sgn_rng c; unfold stB; (repeat' split) <;> omega
def errN (len : Int) (tx : Int → Int) : Nat → Int → Int → Int
  | 0, _, _ => len
  | n + 1, p, t => if stB t (cAt len tx p) = 6 then p else errN len tx n (p + 1) (stB t (cAt len tx p))
/-- the first character that is an error -/
def errP (len : Int) (tx : Int → Int) : Int := errN len tx len.toNat 0 0
def stN (len : Int) (tx : Int → Int) : Nat → Int → Int → Int
  | 0, _, t => t
  | n + 1, p, t => stN len tx n (p + 1) (stB t (cAt len tx p))
abbrev cmpl (len : Int) (tx : Int → Int) : Prop := stN len tx len.toNat 0 0 = 4 ∨ stN len tx len.toNat 0 0 = 5
def okT (len : Int) (tx : Int → Int) : Prop := (0 ≤ len ∧ len ≤ 60) ∧ ∀ i, 0 ≤ i → i < 60 → 0 ≤ tx i ∧ tx i ≤ 126
theorem cAt_rng {len : Int} {tx : Int → Int} (h : okT len tx) (p : Int) : 0 ≤ cAt len tx p ∧ cAt len tx p ≤ 126 := by
  have hl := h.1
  unfold cAt
  split
  · exact h.2 p (by omega) (by omega)
  · omega
theorem dgAt_rng (len : Int) (tx : Int → Int) (p : Int) : -1 ≤ dgAt len tx p ∧ dgAt len tx p ≤ 9 := by
  unfold dgAt; split <;> omega
theorem stN_rng (len : Int) (tx : Int → Int) : ∀ (n : Nat) (p t : Int), 0 ≤ t ∧ t ≤ 6 → 0 ≤ stN len tx n p t ∧ stN len tx n p t ≤ 6
  | 0, _, t, h => h
  | n + 1, p, t, _ => stN_rng len tx n (p + 1) _ (stB_rng t _)
