/-! DeedText -/

/-- the text at c: len characters of tx -/
def dput (ad : Int → Nat) (ty : Nat → ClassId) (σ : Int → va_E) (c len : Int) (tx : Int → Int) : Int → va_E := fun q =>
  if q = c then .inr (0, [.ref (ad (c + 1)), .int (gI len)]) else if q = c + 1 then gAr (ty 1) 60 tx else σ q
section TEXT
variable {ad : Int → Nat} {ty : Nat → ClassId} {σ : Int → va_E} {c len : Int} {tx : Int → Int}
theorem dput_0 : dput ad ty σ c len tx c = .inr (0, [.ref (ad (c + 1)), .int (gI len)]) := if_pos rfl
theorem dput_1 : dput ad ty σ c len tx (c + 1) = gAr (ty 1) 60 tx := by
  unfold dput; rw [if_neg (by omega), if_pos rfl]
theorem dput_x {q : Int} (h : q < c ∨ c + 1 < q) : dput ad ty σ c len tx q = σ q := by
  unfold dput; rw [if_neg (by omega), if_neg (by omega)]
theorem dput_n (z : Int) : up (dput ad ty σ c len tx) c (.inr (0, [.ref (ad (c + 1)), .int (gI z)])) = dput ad ty σ c z tx := by
  funext q
  by_cases h : q = c
  · subst h; rw [up_s, dput_0]
  · rw [up_n h]; unfold dput; rw [if_neg h, if_neg h]
theorem dput_t (tx' : Int → Int) : up (dput ad ty σ c len tx) (c + 1) (gAr (ty 1) 60 tx') = dput ad ty σ c len tx' := by
  funext q
  by_cases h : q = c + 1
  · subst h; rw [up_s, dput_1]
  · rw [up_n h]; unfold dput; rw [if_neg h, if_neg h]
end TEXT
/-- what stands at a place -/
def cAt (len : Int) (tx : Int → Int) (p : Int) : Int := if 0 ≤ p ∧ p < len then tx p else 0
abbrev isDg (c lo hi : Int) : Prop := 48 + lo ≤ c ∧ c ≤ 48 + hi
def dgAt (len : Int) (tx : Int → Int) (p : Int) : Int := if isDg (cAt len tx p) 0 9 then cAt len tx p - 48 else -1
def nuAt (len : Int) (tx : Int → Int) (p : Int) : Int := if dgAt len tx (p + 1) = -1 then max 0 (dgAt len tx p) else max 0 (dgAt len tx p) * 10 + dgAt len tx (p + 1)
abbrev stP (len : Int) (tx : Int → Int) (p : Int) : Prop := p = 0 ∨ cAt len tx (p - 1) = 44
def sgn (c : Int) : Int := if c = 42 ∨ c = 60 ∨ c = 62 ∨ c = 110 then 5 else if c = 98 then 2 else if c = 43 then 3 else 6
def stB (t c : Int) : Int := if t = 0 then (if isDg c 0 5 then 1 else 6) else if t = 1 then sgn c else if t = 2 then (if isDg c 1 6 then 5 else 6) else if t = 3 then (if c = 48 then 5 else if isDg c 1 9 then 4 else 6) else if t = 4 then (if isDg c 0 9 then 5 else if c = 44 then 0 else 6) else if t = 5 then (if c = 44 then 0 else 6) else 6
theorem sgn_rng (c : Int) : 0 ≤ sgn c ∧ sgn c ≤ 6 := by unfold sgn; (repeat' split) <;> omega
theorem stB_rng (t c : Int) : 0 ≤ stB t c ∧ stB t c ≤ 6 := by have := sgn_rng c; unfold stB; (repeat' split) <;> omega
def errN (len : Int) (tx : Int → Int) : Nat → Int → Int → Int
  | 0, _, _ => len
  | n + 1, p, t => if stB t (cAt len tx p) = 6 then p else errN len tx n (p + 1) (stB t (cAt len tx p))
/-- the first character that is an error -/
def errP (len : Int) (tx : Int → Int) : Int := errN len tx len.toNat 0 0
def stN (len : Int) (tx : Int → Int) : Nat → Int → Int → Int
  | 0, _, t => t
  | n + 1, p, t => stN len tx n (p + 1) (stB t (cAt len tx p))
abbrev cmpl (len : Int) (tx : Int → Int) : Prop := stN len tx len.toNat 0 0 = 4 ∨ stN len tx len.toNat 0 0 = 5
def okT (len : Int) (tx : Int → Int) : Prop := (0 ≤ len ∧ len ≤ 60) ∧ ∀ i, 0 ≤ i → i < 60 → 0 ≤ tx i ∧ tx i ≤ 126
theorem cAt_rng {len : Int} {tx : Int → Int} (h : okT len tx) (p : Int) : 0 ≤ cAt len tx p ∧ cAt len tx p ≤ 126 := by
  have hl := h.1
  unfold cAt
  split
  · exact h.2 p (by omega) (by omega)
  · omega
theorem dgAt_rng (len : Int) (tx : Int → Int) (p : Int) : -1 ≤ dgAt len tx p ∧ dgAt len tx p ≤ 9 := by
  unfold dgAt; split <;> omega
theorem stN_rng (len : Int) (tx : Int → Int) : ∀ (n : Nat) (p t : Int), 0 ≤ t ∧ t ≤ 6 → 0 ≤ stN len tx n p t ∧ stN len tx n p t ≤ 6
  | 0, _, t, h => h
  | n + 1, p, t, _ => stN_rng len tx n (p + 1) _ (stB_rng t _)

set_option maxRecDepth 100000 in
set_option maxHeartbeats 4000000 in
theorem c_X0_isFull {l : Launch} {D : va_G} {ty : Nat → ClassId} {ad : Int → Nat} {N : Int} {σ : Int → va_E} {c len : Int} {tx : Int → Int} (hc : 0 ≤ c ∧ c + 2 ≤ N) (ht : okT len tx) : gM0 l yX0_isFull cX0_isFull 1 (some .boolean) 0 0 [.ref (ad c)] D ty ad N (dput ad ty σ c len tx) (some (.int (gI (gB (60 ≤ len))))) (dput ad ty σ c len tx) := by
  refine gMet_of [some (.ref (ad c))] (by decide +kernel) rfl (Nat.le_of_ble_eq_true rfl) rfl ?_
  intro X hl hD hty C hini
  subst hl hD hty
  have hlen := ht.1
  refine r_aload_n C dX0_isFull_0 rfl rfl ?_
  refine r_get C flX0_15 dX0_isFull_1 (by omega) dput_0 rfl ?_
  refine r_bipush C dX0_isFull_4 (by decide) ?_
  refine r_icmp_lt (tgt := 13) C dX0_isFull_6 (by decide) (by omega) (by omega) (fun h6 => ?_) (fun h6 => ?_)
  · refine r_iconst C dX0_isFull_13 ?_
    exact r_zretD C dX0_isFull_14 (by omega) (by first | exact (gB_t (by omega)).symm | exact (gB_f (by omega)).symm) rfl
  · refine r_iconst C dX0_isFull_9 ?_
    refine r_goto (tgt := 14) C dX0_isFull_10 (by decide) ?_
    exact r_zretD C dX0_isFull_14 (by omega) (by first | exact (gB_t (by omega)).symm | exact (gB_f (by omega)).symm) rfl

set_option maxRecDepth 100000 in
set_option maxHeartbeats 4000000 in
theorem c_X0_add {l : Launch} {D : va_G} {ty : Nat → ClassId} {ad : Int → Nat} {N : Int} {σ : Int → va_E} {c len : Int} {tx : Int → Int} {z : Int} (hc : 0 ≤ c ∧ c + 2 ≤ N) (ht : okT len tx) (hl : len < 60) (hz : 0 ≤ z ∧ z < 65536) : gM0 l yX0_add cX0_add 2 (some .int) 1 20 [.ref (ad c), .int (gI z)] D ty ad N (dput ad ty σ c len tx) (some (.int (gI (len + 1)))) (dput ad ty σ c (len + 1) (up tx len z)) := by
  refine gMet_of [some (.ref (ad c)), some (.int (gI z))] (by decide +kernel) rfl (Nat.le_of_ble_eq_true rfl) rfl ?_
  intro X hl hD hty C hini
  subst hl hD hty
  have hlen := ht.1
  have hnf : ¬ 60 ≤ len := by omega
  refine r_aload_n C dX0_add_0 rfl rfl ?_
  refine r_cV C cwX0_19 (c_X0_isFull hc ht) dX0_add_1 rfl (by omega) dput_0 rfl rfl rfl (Nat.le_of_ble_eq_true rfl) ⟨Nat.le_of_ble_eq_true rfl, Nat.le_of_ble_eq_true rfl⟩ ⟨Nat.le_of_ble_eq_true rfl, Nat.le_of_ble_eq_true rfl⟩ ?_
  refine r_ifb_ne (tgt := 27) C dX0_add_4 (by decide) (fun h4 => ?_) (fun h4 => ?_)
  · exact absurd h4 hnf
  · refine r_aload_n C dX0_add_7 rfl rfl ?_
    refine r_get C flX0_9 dX0_add_8 (by omega) dput_0 rfl ?_
    refine r_aload_n C dX0_add_11 rfl rfl ?_
    refine r_get C flX0_15 dX0_add_12 (by omega) dput_0 rfl ?_
    refine r_iload_n C dX0_add_15 rfl rfl ?_
    refine r_cast C dX0_add_16 (by omega) dput_1 (by omega) (by decide) (by omega) ?_
    rw [dput_t]
    refine r_aload_n C dX0_add_17 rfl rfl ?_
    refine r_dup C dX0_add_18 rfl ?_
    refine r_get C flX0_15 dX0_add_19 (by omega) dput_0 rfl ?_
    refine r_iconst C dX0_add_22 ?_
    refine r_iadd C dX0_add_23 ?_
    refine r_put C flX0_15 dX0_add_24 (by omega) dput_0 rfl rfl rfl (Nat.le_of_ble_eq_true rfl) ?_
    dsimp only [List.set]
    rw [dput_n]
    refine r_aload_n C dX0_add_27 rfl rfl ?_
    refine r_get C flX0_15 dX0_add_28 (by omega) dput_0 rfl ?_
    exact r_iretD C dX0_add_31 rfl rfl

set_option maxRecDepth 100000 in
set_option maxHeartbeats 4000000 in
theorem c_X0_empty {l : Launch} {D : va_G} {ty : Nat → ClassId} {ad : Int → Nat} {N : Int} {σ : Int → va_E} {c len : Int} {tx : Int → Int} (hc : 0 ≤ c ∧ c + 2 ≤ N) (ht : okT len tx) : gM0 l yX0_empty cX0_empty 2 (some .int) 0 0 [.ref (ad c)] D ty ad N (dput ad ty σ c len tx) (some (.int (gI len))) (dput ad ty σ c 0 tx) := by
  refine gMet_of [some (.ref (ad c)), none] (by decide +kernel) rfl (Nat.le_of_ble_eq_true rfl) rfl ?_
  intro X hl hD hty C hini
  subst hl hD hty
  have hlen := ht.1
  refine r_aload_n C dX0_empty_0 rfl rfl ?_
  refine r_get C flX0_15 dX0_empty_1 (by omega) dput_0 rfl ?_
  refine r_istore_n C dX0_empty_4 rfl (Nat.le_of_ble_eq_true rfl) rfl ?_
  dsimp only [List.set]
  refine r_aload_n C dX0_empty_5 rfl rfl ?_
  refine r_iconst C dX0_empty_6 ?_
  refine r_put C flX0_15 dX0_empty_7 (by omega) dput_0 rfl rfl rfl (Nat.le_of_ble_eq_true rfl) ?_
  dsimp only [List.set]
  rw [dput_n]
  refine r_iload_n C dX0_empty_10 rfl rfl ?_
  exact r_iretD C dX0_empty_11 rfl rfl

set_option maxRecDepth 100000 in
set_option maxHeartbeats 4000000 in
theorem c_X0_codeAt {l : Launch} {D : va_G} {ty : Nat → ClassId} {ad : Int → Nat} {N : Int} {σ : Int → va_E} {c len : Int} {tx : Int → Int} {p : Int} (hc : 0 ≤ c ∧ c + 2 ≤ N) (ht : okT len tx) (hp : -2147483648 ≤ p ∧ p < 2147483648) : gM0 l yX0_codeAt cX0_codeAt 2 (some .int) 0 0 [.ref (ad c), .int (gI p)] D ty ad N (dput ad ty σ c len tx) (some (.int (gI (cAt len tx p)))) (dput ad ty σ c len tx) := by
  refine gMet_of [some (.ref (ad c)), some (.int (gI p))] (by decide +kernel) rfl (Nat.le_of_ble_eq_true rfl) rfl ?_
  intro X hl hD hty C hini
  subst hl hD hty
  have hlen := ht.1
  refine r_iload_n C dX0_codeAt_0 rfl rfl ?_
  refine r_if_lt (tgt := 21) C dX0_codeAt_1 (by decide) (by omega) (fun h1 => ?_) (fun h1 => ?_)
  · refine r_iconst C dX0_codeAt_21 ?_
    exact r_iretD C dX0_codeAt_22 (by unfold cAt; first | rw [if_pos (by omega)] | rw [if_neg (by omega)]) rfl
  · refine r_iload_n C dX0_codeAt_4 rfl rfl ?_
    refine r_aload_n C dX0_codeAt_5 rfl rfl ?_
    refine r_get C flX0_15 dX0_codeAt_6 (by omega) dput_0 rfl ?_
    refine r_icmp_ge (tgt := 21) C dX0_codeAt_9 (by decide) (by omega) (by omega) (fun h9 => ?_) (fun h9 => ?_)
    · refine r_iconst C dX0_codeAt_21 ?_
      exact r_iretD C dX0_codeAt_22 (by unfold cAt; first | rw [if_pos (by omega)] | rw [if_neg (by omega)]) rfl
    · refine r_aload_n C dX0_codeAt_12 rfl rfl ?_
      refine r_get C flX0_9 dX0_codeAt_13 (by omega) dput_0 rfl ?_
      refine r_iload_n C dX0_codeAt_16 rfl rfl ?_
      refine r_cald C dX0_codeAt_17 (by omega) dput_1 (by omega) (by decide) ?_
      refine r_goto (tgt := 22) C dX0_codeAt_18 (by decide) ?_
      exact r_iretD C dX0_codeAt_22 (by unfold cAt; first | rw [if_pos (by omega)] | rw [if_neg (by omega)]) rfl

set_option maxRecDepth 100000 in
set_option maxHeartbeats 4000000 in
theorem c_X0_isDigit {l : Launch} {D : va_G} {ty : Nat → ClassId} {ad : Int → Nat} {N : Int} {σ : Int → va_E} {a lo hi : Int} (ha : 0 ≤ a ∧ a ≤ 200) (h1 : 0 ≤ lo ∧ lo ≤ 9) (h2 : 0 ≤ hi ∧ hi ≤ 9) : gM0 l yX0_isDigit cX0_isDigit 3 (some .boolean) 0 0 [.int (gI a), .int (gI lo), .int (gI hi)] D ty ad N (σ) (some (.int (gI (gB (isDg a lo hi))))) (σ) := by
  refine gMet_of [some (.int (gI a)), some (.int (gI lo)), some (.int (gI hi))] (by decide +kernel) rfl (Nat.le_of_ble_eq_true rfl) rfl ?_
  intro X hl hD hty C hini
  subst hl hD hty
  refine r_iload_n C dX0_isDigit_0 rfl rfl ?_
  refine r_bipush C dX0_isDigit_1 (by decide) ?_
  refine r_iload_n C dX0_isDigit_3 rfl rfl ?_
  refine r_iadd C dX0_isDigit_4 ?_
  refine r_icmp_lt (tgt := 20) C dX0_isDigit_5 (by decide) (by omega) (by omega) (fun h5 => ?_) (fun h5 => ?_)
  · refine r_iconst C dX0_isDigit_20 ?_
    exact r_zretD C dX0_isDigit_21 (by omega) (by first | exact (gB_t (by unfold isDg; omega)).symm | exact (gB_f (by unfold isDg; omega)).symm) rfl
  · refine r_iload_n C dX0_isDigit_8 rfl rfl ?_
    refine r_bipush C dX0_isDigit_9 (by decide) ?_
    refine r_iload_n C dX0_isDigit_11 rfl rfl ?_
    refine r_iadd C dX0_isDigit_12 ?_
    refine r_icmp_gt (tgt := 20) C dX0_isDigit_13 (by decide) (by omega) (by omega) (fun h13 => ?_) (fun h13 => ?_)
    · refine r_iconst C dX0_isDigit_20 ?_
      exact r_zretD C dX0_isDigit_21 (by omega) (by first | exact (gB_t (by unfold isDg; omega)).symm | exact (gB_f (by unfold isDg; omega)).symm) rfl
    · refine r_iconst C dX0_isDigit_16 ?_
      refine r_goto (tgt := 21) C dX0_isDigit_17 (by decide) ?_
      exact r_zretD C dX0_isDigit_21 (by omega) (by first | exact (gB_t (by unfold isDg; omega)).symm | exact (gB_f (by unfold isDg; omega)).symm) rfl

set_option maxRecDepth 100000 in
set_option maxHeartbeats 4000000 in
theorem c_X0_digitAt {l : Launch} {D : va_G} {ty : Nat → ClassId} {ad : Int → Nat} {N : Int} {σ : Int → va_E} {c len : Int} {tx : Int → Int} {p : Int} (hc : 0 ≤ c ∧ c + 2 ≤ N) (ht : okT len tx) (hp : -2147483648 ≤ p ∧ p < 2147483648) : gM0 l yX0_digitAt cX0_digitAt 3 (some .int) 1 22 [.ref (ad c), .int (gI p)] D ty ad N (dput ad ty σ c len tx) (some (.int (gI (dgAt len tx p)))) (dput ad ty σ c len tx) := by
  refine gMet_of [some (.ref (ad c)), some (.int (gI p)), none] (by decide +kernel) rfl (Nat.le_of_ble_eq_true rfl) rfl ?_
  intro X hl hD hty C hini
  subst hl hD hty
  have hlen := ht.1
  have hca := cAt_rng ht p
  refine r_aload_n C dX0_digitAt_0 rfl rfl ?_
  refine r_iload_n C dX0_digitAt_1 rfl rfl ?_
  refine r_cV C cwX0_23 (c_X0_codeAt hc ht (by omega)) dX0_digitAt_2 rfl (by omega) dput_0 rfl rfl rfl (Nat.le_of_ble_eq_true rfl) ⟨Nat.le_of_ble_eq_true rfl, Nat.le_of_ble_eq_true rfl⟩ ⟨Nat.le_of_ble_eq_true rfl, Nat.le_of_ble_eq_true rfl⟩ ?_
  refine r_istore_n C dX0_digitAt_5 rfl (Nat.le_of_ble_eq_true rfl) rfl ?_
  dsimp only [List.set]
  refine r_iload_n C dX0_digitAt_6 rfl rfl ?_
  refine r_iconst C dX0_digitAt_7 ?_
  refine r_bipush C dX0_digitAt_8 (by decide) ?_
  refine r_cS C cwX0_27 (c_X0_isDigit (by omega) (by omega) (by omega)) dX0_digitAt_10 rfl rfl rfl (Nat.le_of_ble_eq_true rfl) ⟨Nat.le_of_ble_eq_true rfl, Nat.le_of_ble_eq_true rfl⟩ ⟨Nat.le_of_ble_eq_true rfl, Nat.le_of_ble_eq_true rfl⟩ ?_
  refine r_ifb_eq (tgt := 23) C dX0_digitAt_13 (by decide) (fun h13 => ?_) (fun h13 => ?_)
  · refine r_iconst C dX0_digitAt_23 ?_
    exact r_iretD C dX0_digitAt_24 (by unfold dgAt; first | rw [if_pos h13] | rw [if_neg h13]) rfl
  · refine r_iload_n C dX0_digitAt_16 rfl rfl ?_
    refine r_bipush C dX0_digitAt_17 (by decide) ?_
    refine r_isub C dX0_digitAt_19 ?_
    refine r_goto (tgt := 24) C dX0_digitAt_20 (by decide) ?_
    exact r_iretD C dX0_digitAt_24 (by unfold dgAt; first | rw [if_pos h13] | rw [if_neg h13]) rfl

set_option maxRecDepth 100000 in
set_option maxHeartbeats 4000000 in
theorem c_X0_numberFrom {l : Launch} {D : va_G} {ty : Nat → ClassId} {ad : Int → Nat} {N : Int} {σ : Int → va_E} {c len : Int} {tx : Int → Int} {p : Int} (hc : 0 ≤ c ∧ c + 2 ≤ N) (ht : okT len tx) (hp : 0 ≤ p ∧ p ≤ 1000) : gM0 l yX0_numberFrom cX0_numberFrom 4 (some .int) 2 44 [.ref (ad c), .int (gI p)] D ty ad N (dput ad ty σ c len tx) (some (.int (gI (nuAt len tx p)))) (dput ad ty σ c len tx) := by
  refine gMet_of [some (.ref (ad c)), some (.int (gI p)), none, none] (by decide +kernel) rfl (Nat.le_of_ble_eq_true rfl) rfl ?_
  intro X hl hD hty C hini
  subst hl hD hty
  have hlen := ht.1
  have h1 := dgAt_rng len tx p
  have h2 := dgAt_rng len tx (p + 1)
  refine r_iconst C dX0_numberFrom_0 ?_
  refine r_aload_n C dX0_numberFrom_1 rfl rfl ?_
  refine r_iload_n C dX0_numberFrom_2 rfl rfl ?_
  refine r_cV C cwX0_31 (c_X0_digitAt hc ht (by omega)) dX0_numberFrom_3 rfl (by omega) dput_0 rfl rfl rfl (Nat.le_of_ble_eq_true rfl) ⟨Nat.le_of_ble_eq_true rfl, Nat.le_of_ble_eq_true rfl⟩ ⟨Nat.le_of_ble_eq_true rfl, Nat.le_of_ble_eq_true rfl⟩ ?_
  refine r_cS C cwX0_34 (c_J9_max_7cf53 (by omega) (by omega)) dX0_numberFrom_6 rfl rfl rfl (Nat.le_of_ble_eq_true rfl) ⟨Nat.le_of_ble_eq_true rfl, Nat.le_of_ble_eq_true rfl⟩ ⟨Nat.le_of_ble_eq_true rfl, Nat.le_of_ble_eq_true rfl⟩ ?_
  refine r_istore_n C dX0_numberFrom_9 rfl (Nat.le_of_ble_eq_true rfl) rfl ?_
  dsimp only [List.set]
  refine r_aload_n C dX0_numberFrom_10 rfl rfl ?_
  refine r_iload_n C dX0_numberFrom_11 rfl rfl ?_
  refine r_iconst C dX0_numberFrom_12 ?_
  refine r_iadd C dX0_numberFrom_13 ?_
  refine r_cV C cwX0_31 (c_X0_digitAt hc ht (by omega)) dX0_numberFrom_14 rfl (by omega) dput_0 rfl rfl rfl (Nat.le_of_ble_eq_true rfl) ⟨Nat.le_of_ble_eq_true rfl, Nat.le_of_ble_eq_true rfl⟩ ⟨Nat.le_of_ble_eq_true rfl, Nat.le_of_ble_eq_true rfl⟩ ?_
  refine r_istore_n C dX0_numberFrom_17 rfl (Nat.le_of_ble_eq_true rfl) rfl ?_
  dsimp only [List.set]
  refine r_iload_n C dX0_numberFrom_18 rfl rfl ?_
  refine r_iconst C dX0_numberFrom_19 ?_
  refine r_icmp_ne (tgt := 27) C dX0_numberFrom_20 (by decide) (by omega) (by omega) (fun h20 => ?_) (fun h20 => ?_)
  · refine r_iload_n C dX0_numberFrom_27 rfl rfl ?_
    refine r_bipush C dX0_numberFrom_28 (by decide) ?_
    refine r_imul C dX0_numberFrom_30 ?_
    refine r_iload_n C dX0_numberFrom_31 rfl rfl ?_
    refine r_iadd C dX0_numberFrom_32 ?_
    exact r_iretD C dX0_numberFrom_33 (by unfold nuAt; first | rw [if_pos (by omega)] | rw [if_neg (by omega)]) rfl
  · refine r_iload_n C dX0_numberFrom_23 rfl rfl ?_
    refine r_goto (tgt := 33) C dX0_numberFrom_24 (by decide) ?_
    exact r_iretD C dX0_numberFrom_33 (by unfold nuAt; first | rw [if_pos (by omega)] | rw [if_neg (by omega)]) rfl

set_option maxRecDepth 100000 in
set_option maxHeartbeats 4000000 in
theorem c_X0_startsPart {l : Launch} {D : va_G} {ty : Nat → ClassId} {ad : Int → Nat} {N : Int} {σ : Int → va_E} {c len : Int} {tx : Int → Int} {p : Int} (hc : 0 ≤ c ∧ c + 2 ≤ N) (ht : okT len tx) (hp : 0 ≤ p ∧ p ≤ 1000) : gM0 l yX0_startsPart cX0_startsPart 2 (some .boolean) 1 21 [.ref (ad c), .int (gI p)] D ty ad N (dput ad ty σ c len tx) (some (.int (gI (gB (stP len tx p))))) (dput ad ty σ c len tx) := by
  refine gMet_of [some (.ref (ad c)), some (.int (gI p))] (by decide +kernel) rfl (Nat.le_of_ble_eq_true rfl) rfl ?_
  intro X hl hD hty C hini
  subst hl hD hty
  have hlen := ht.1
  have hca := cAt_rng ht (p - 1)
  refine r_iload_n C dX0_startsPart_0 rfl rfl ?_
  refine r_if_eq (tgt := 16) C dX0_startsPart_1 (by decide) (by omega) (fun h1 => ?_) (fun h1 => ?_)
  · refine r_iconst C dX0_startsPart_16 ?_
    refine r_goto (tgt := 21) C dX0_startsPart_17 (by decide) ?_
    exact r_zretD C dX0_startsPart_21 (by omega) (by first | exact (gB_t (by unfold stP; omega)).symm | exact (gB_f (by unfold stP; omega)).symm) rfl
  · refine r_aload_n C dX0_startsPart_4 rfl rfl ?_
    refine r_iload_n C dX0_startsPart_5 rfl rfl ?_
    refine r_iconst C dX0_startsPart_6 ?_
    refine r_isub C dX0_startsPart_7 ?_
    refine r_cV C cwX0_23 (c_X0_codeAt hc ht (by omega)) dX0_startsPart_8 rfl (by omega) dput_0 rfl rfl rfl (Nat.le_of_ble_eq_true rfl) ⟨Nat.le_of_ble_eq_true rfl, Nat.le_of_ble_eq_true rfl⟩ ⟨Nat.le_of_ble_eq_true rfl, Nat.le_of_ble_eq_true rfl⟩ ?_
    refine r_bipush C dX0_startsPart_11 (by decide) ?_
    refine r_icmp_ne (tgt := 20) C dX0_startsPart_13 (by decide) (by omega) (by omega) (fun h13 => ?_) (fun h13 => ?_)
    · refine r_iconst C dX0_startsPart_20 ?_
      exact r_zretD C dX0_startsPart_21 (by omega) (by first | exact (gB_t (by unfold stP; omega)).symm | exact (gB_f (by unfold stP; omega)).symm) rfl
    · refine r_iconst C dX0_startsPart_16 ?_
      refine r_goto (tgt := 21) C dX0_startsPart_17 (by decide) ?_
      exact r_zretD C dX0_startsPart_21 (by omega) (by first | exact (gB_t (by unfold stP; omega)).symm | exact (gB_f (by unfold stP; omega)).symm) rfl

set_option maxRecDepth 100000 in
set_option maxHeartbeats 4000000 in
theorem c_X0_stateBehindSign {l : Launch} {D : va_G} {ty : Nat → ClassId} {ad : Int → Nat} {N : Int} {σ : Int → va_E} {a : Int} (ha : 0 ≤ a ∧ a ≤ 200) : gM0 l yX0_stateBehindSign cX0_stateBehindSign 1 (some .int) 0 0 [.int (gI a)] D ty ad N (σ) (some (.int (gI (sgn a)))) (σ) := by
  refine gMet_of [some (.int (gI a))] (by decide +kernel) rfl (Nat.le_of_ble_eq_true rfl) rfl ?_
  intro X hl hD hty C hini
  subst hl hD hty
  refine r_iload_n C dX0_stateBehindSign_0 rfl rfl ?_
  rcases (show a = 42 ∨ a = 43 ∨ a = 60 ∨ a = 62 ∨ a = 98 ∨ a = 110 ∨ (a ≠ 42 ∧ a ≠ 43 ∧ a ≠ 60 ∧ a ≠ 62 ∧ a ≠ 98 ∧ a ≠ 110) by omega) with hw | hw | hw | hw | hw | hw | hw
  · refine r_look (tgt := 60) (off := 59) C dX0_stateBehindSign_1 (by omega) (by decide) (by rw [hw]; first | done | rfl) (by decide) ?_
    refine r_iconst C dX0_stateBehindSign_60 ?_
    exact r_iretD C dX0_stateBehindSign_61 (by unfold sgn; first | rw [if_pos (by omega)] | rw [if_neg (by omega), if_pos (by omega)] | rw [if_neg (by omega), if_neg (by omega), if_pos (by omega)] | rw [if_neg (by omega), if_neg (by omega), if_neg (by omega)]) rfl
  · refine r_look (tgt := 64) (off := 63) C dX0_stateBehindSign_1 (by omega) (by decide) (by rw [hw]; first | done | rfl) (by decide) ?_
    refine r_iconst C dX0_stateBehindSign_64 ?_
    exact r_iretD C dX0_stateBehindSign_65 (by unfold sgn; first | rw [if_pos (by omega)] | rw [if_neg (by omega), if_pos (by omega)] | rw [if_neg (by omega), if_neg (by omega), if_pos (by omega)] | rw [if_neg (by omega), if_neg (by omega), if_neg (by omega)]) rfl
  · refine r_look (tgt := 60) (off := 59) C dX0_stateBehindSign_1 (by omega) (by decide) (by rw [hw]; first | done | rfl) (by decide) ?_
    refine r_iconst C dX0_stateBehindSign_60 ?_
    exact r_iretD C dX0_stateBehindSign_61 (by unfold sgn; first | rw [if_pos (by omega)] | rw [if_neg (by omega), if_pos (by omega)] | rw [if_neg (by omega), if_neg (by omega), if_pos (by omega)] | rw [if_neg (by omega), if_neg (by omega), if_neg (by omega)]) rfl
  · refine r_look (tgt := 60) (off := 59) C dX0_stateBehindSign_1 (by omega) (by decide) (by rw [hw]; first | done | rfl) (by decide) ?_
    refine r_iconst C dX0_stateBehindSign_60 ?_
    exact r_iretD C dX0_stateBehindSign_61 (by unfold sgn; first | rw [if_pos (by omega)] | rw [if_neg (by omega), if_pos (by omega)] | rw [if_neg (by omega), if_neg (by omega), if_pos (by omega)] | rw [if_neg (by omega), if_neg (by omega), if_neg (by omega)]) rfl
  · refine r_look (tgt := 62) (off := 61) C dX0_stateBehindSign_1 (by omega) (by decide) (by rw [hw]; first | done | rfl) (by decide) ?_
    refine r_iconst C dX0_stateBehindSign_62 ?_
    exact r_iretD C dX0_stateBehindSign_63 (by unfold sgn; first | rw [if_pos (by omega)] | rw [if_neg (by omega), if_pos (by omega)] | rw [if_neg (by omega), if_neg (by omega), if_pos (by omega)] | rw [if_neg (by omega), if_neg (by omega), if_neg (by omega)]) rfl
  · refine r_look (tgt := 60) (off := 59) C dX0_stateBehindSign_1 (by omega) (by decide) (by rw [hw]; first | done | rfl) (by decide) ?_
    refine r_iconst C dX0_stateBehindSign_60 ?_
    exact r_iretD C dX0_stateBehindSign_61 (by unfold sgn; first | rw [if_pos (by omega)] | rw [if_neg (by omega), if_pos (by omega)] | rw [if_neg (by omega), if_neg (by omega), if_pos (by omega)] | rw [if_neg (by omega), if_neg (by omega), if_neg (by omega)]) rfl
  · refine r_look (tgt := 66) (off := 65) C dX0_stateBehindSign_1 (by omega) (by decide) (by simp [Op.lookupswitch.offset]; (repeat' split) <;> omega) (by decide) ?_
    refine r_bipush C dX0_stateBehindSign_66 (by decide) ?_
    exact r_iretD C dX0_stateBehindSign_68 (by unfold sgn; first | rw [if_pos (by omega)] | rw [if_neg (by omega), if_pos (by omega)] | rw [if_neg (by omega), if_neg (by omega), if_pos (by omega)] | rw [if_neg (by omega), if_neg (by omega), if_neg (by omega)]) rfl

set_option maxRecDepth 100000 in
set_option maxHeartbeats 4000000 in
theorem c_X0_stateBehind {l : Launch} {D : va_G} {ty : Nat → ClassId} {ad : Int → Nat} {N : Int} {σ : Int → va_E} {t a : Int} (ht : 0 ≤ t ∧ t ≤ 6) (ha : 0 ≤ a ∧ a ≤ 200) : gM0 l yX0_stateBehind cX0_stateBehind 2 (some .int) 1 22 [.int (gI t), .int (gI a)] D ty ad N (σ) (some (.int (gI (stB t a)))) (σ) := by
  refine gMet_of [some (.int (gI t)), some (.int (gI a))] (by decide +kernel) rfl (Nat.le_of_ble_eq_true rfl) rfl ?_
  intro X hl hD hty C hini
  subst hl hD hty
  refine r_iload_n C dX0_stateBehind_0 rfl rfl ?_
  rcases (show (t = 0 ∨ t = 1 ∨ t = 2 ∨ t = 3 ∨ t = 4 ∨ t = 5) ∨ (t < 0 ∨ 5 < t) by omega) with (hw | hw | hw | hw | hw | hw) | hw
  · refine r_tabIn (tgt := 40) C dX0_stateBehind_1 (by omega) (by omega) (by omega) (by rw [hw]; rfl) (by decide) ?_
    refine r_iload_n C dX0_stateBehind_40 rfl rfl ?_
    refine r_iconst C dX0_stateBehind_41 ?_
    refine r_iconst C dX0_stateBehind_42 ?_
    refine r_cS C cwX0_27 (c_X0_isDigit (by omega) (by omega) (by omega)) dX0_stateBehind_43 rfl rfl rfl (Nat.le_of_ble_eq_true rfl) ⟨Nat.le_of_ble_eq_true rfl, Nat.le_of_ble_eq_true rfl⟩ ⟨Nat.le_of_ble_eq_true rfl, Nat.le_of_ble_eq_true rfl⟩ ?_
    refine r_ifb_eq (tgt := 53) C dX0_stateBehind_46 (by decide) (fun h46 => ?_) (fun h46 => ?_)
    · refine r_bipush C dX0_stateBehind_53 (by decide) ?_
      exact r_iretD C dX0_stateBehind_55 (by unfold stB; first | (simp only [hw, Int.reduceEq, reduceIte]; done) | (subst hw; (repeat' split) <;> first | rfl | omega) | ((repeat' split) <;> first | rfl | omega)) rfl
    · refine r_iconst C dX0_stateBehind_49 ?_
      refine r_goto (tgt := 55) C dX0_stateBehind_50 (by decide) ?_
      exact r_iretD C dX0_stateBehind_55 (by unfold stB; first | (simp only [hw, Int.reduceEq, reduceIte]; done) | (subst hw; (repeat' split) <;> first | rfl | omega) | ((repeat' split) <;> first | rfl | omega)) rfl
  · refine r_tabIn (tgt := 56) C dX0_stateBehind_1 (by omega) (by omega) (by omega) (by rw [hw]; rfl) (by decide) ?_
    refine r_iload_n C dX0_stateBehind_56 rfl rfl ?_
    refine r_cS C cwX0_43 (c_X0_stateBehindSign (by omega)) dX0_stateBehind_57 rfl rfl rfl (Nat.le_of_ble_eq_true rfl) ⟨Nat.le_of_ble_eq_true rfl, Nat.le_of_ble_eq_true rfl⟩ ⟨Nat.le_of_ble_eq_true rfl, Nat.le_of_ble_eq_true rfl⟩ ?_
    exact r_iretD C dX0_stateBehind_60 (by unfold stB; first | (simp only [hw, Int.reduceEq, reduceIte]; done) | (subst hw; (repeat' split) <;> first | rfl | omega) | ((repeat' split) <;> first | rfl | omega)) rfl
  · refine r_tabIn (tgt := 61) C dX0_stateBehind_1 (by omega) (by omega) (by omega) (by rw [hw]; rfl) (by decide) ?_
    refine r_iload_n C dX0_stateBehind_61 rfl rfl ?_
    refine r_iconst C dX0_stateBehind_62 ?_
    refine r_bipush C dX0_stateBehind_63 (by decide) ?_
    refine r_cS C cwX0_27 (c_X0_isDigit (by omega) (by omega) (by omega)) dX0_stateBehind_65 rfl rfl rfl (Nat.le_of_ble_eq_true rfl) ⟨Nat.le_of_ble_eq_true rfl, Nat.le_of_ble_eq_true rfl⟩ ⟨Nat.le_of_ble_eq_true rfl, Nat.le_of_ble_eq_true rfl⟩ ?_
    refine r_ifb_eq (tgt := 75) C dX0_stateBehind_68 (by decide) (fun h68 => ?_) (fun h68 => ?_)
    · refine r_bipush C dX0_stateBehind_75 (by decide) ?_
      exact r_iretD C dX0_stateBehind_77 (by unfold stB; first | (simp only [hw, Int.reduceEq, reduceIte]; done) | (subst hw; (repeat' split) <;> first | rfl | omega) | ((repeat' split) <;> first | rfl | omega)) rfl
    · refine r_iconst C dX0_stateBehind_71 ?_
      refine r_goto (tgt := 77) C dX0_stateBehind_72 (by decide) ?_
      exact r_iretD C dX0_stateBehind_77 (by unfold stB; first | (simp only [hw, Int.reduceEq, reduceIte]; done) | (subst hw; (repeat' split) <;> first | rfl | omega) | ((repeat' split) <;> first | rfl | omega)) rfl
  · refine r_tabIn (tgt := 78) C dX0_stateBehind_1 (by omega) (by omega) (by omega) (by rw [hw]; rfl) (by decide) ?_
    refine r_iload_n C dX0_stateBehind_78 rfl rfl ?_
    refine r_bipush C dX0_stateBehind_79 (by decide) ?_
    refine r_icmp_ne (tgt := 88) C dX0_stateBehind_81 (by decide) (by omega) (by omega) (fun h81 => ?_) (fun h81 => ?_)
    · refine r_iload_n C dX0_stateBehind_88 rfl rfl ?_
      refine r_iconst C dX0_stateBehind_89 ?_
      refine r_bipush C dX0_stateBehind_90 (by decide) ?_
      refine r_cS C cwX0_27 (c_X0_isDigit (by omega) (by omega) (by omega)) dX0_stateBehind_92 rfl rfl rfl (Nat.le_of_ble_eq_true rfl) ⟨Nat.le_of_ble_eq_true rfl, Nat.le_of_ble_eq_true rfl⟩ ⟨Nat.le_of_ble_eq_true rfl, Nat.le_of_ble_eq_true rfl⟩ ?_
      refine r_ifb_eq (tgt := 102) C dX0_stateBehind_95 (by decide) (fun h95 => ?_) (fun h95 => ?_)
      · refine r_bipush C dX0_stateBehind_102 (by decide) ?_
        exact r_iretD C dX0_stateBehind_104 (by unfold stB; first | (simp only [hw, Int.reduceEq, reduceIte]; done) | (subst hw; (repeat' split) <;> first | rfl | omega) | ((repeat' split) <;> first | rfl | omega)) rfl
      · refine r_iconst C dX0_stateBehind_98 ?_
        refine r_goto (tgt := 104) C dX0_stateBehind_99 (by decide) ?_
        exact r_iretD C dX0_stateBehind_104 (by unfold stB; first | (simp only [hw, Int.reduceEq, reduceIte]; done) | (subst hw; (repeat' split) <;> first | rfl | omega) | ((repeat' split) <;> first | rfl | omega)) rfl
    · refine r_iconst C dX0_stateBehind_84 ?_
      refine r_goto (tgt := 104) C dX0_stateBehind_85 (by decide) ?_
      exact r_iretD C dX0_stateBehind_104 (by unfold stB; first | (simp only [hw, Int.reduceEq, reduceIte]; done) | (subst hw; (repeat' split) <;> first | rfl | omega) | ((repeat' split) <;> first | rfl | omega)) rfl
  · refine r_tabIn (tgt := 105) C dX0_stateBehind_1 (by omega) (by omega) (by omega) (by rw [hw]; rfl) (by decide) ?_
    refine r_iload_n C dX0_stateBehind_105 rfl rfl ?_
    refine r_iconst C dX0_stateBehind_106 ?_
    refine r_bipush C dX0_stateBehind_107 (by decide) ?_
    refine r_cS C cwX0_27 (c_X0_isDigit (by omega) (by omega) (by omega)) dX0_stateBehind_109 rfl rfl rfl (Nat.le_of_ble_eq_true rfl) ⟨Nat.le_of_ble_eq_true rfl, Nat.le_of_ble_eq_true rfl⟩ ⟨Nat.le_of_ble_eq_true rfl, Nat.le_of_ble_eq_true rfl⟩ ?_
    refine r_ifb_eq (tgt := 119) C dX0_stateBehind_112 (by decide) (fun h112 => ?_) (fun h112 => ?_)
    · refine r_iload_n C dX0_stateBehind_119 rfl rfl ?_
      refine r_bipush C dX0_stateBehind_120 (by decide) ?_
      refine r_icmp_ne (tgt := 129) C dX0_stateBehind_122 (by decide) (by omega) (by omega) (fun h122 => ?_) (fun h122 => ?_)
      · refine r_bipush C dX0_stateBehind_129 (by decide) ?_
        exact r_iretD C dX0_stateBehind_131 (by unfold stB; first | (simp only [hw, Int.reduceEq, reduceIte]; done) | (subst hw; (repeat' split) <;> first | rfl | omega) | ((repeat' split) <;> first | rfl | omega)) rfl
      · refine r_iconst C dX0_stateBehind_125 ?_
        refine r_goto (tgt := 131) C dX0_stateBehind_126 (by decide) ?_
        exact r_iretD C dX0_stateBehind_131 (by unfold stB; first | (simp only [hw, Int.reduceEq, reduceIte]; done) | (subst hw; (repeat' split) <;> first | rfl | omega) | ((repeat' split) <;> first | rfl | omega)) rfl
    · refine r_iconst C dX0_stateBehind_115 ?_
      refine r_goto (tgt := 131) C dX0_stateBehind_116 (by decide) ?_
      exact r_iretD C dX0_stateBehind_131 (by unfold stB; first | (simp only [hw, Int.reduceEq, reduceIte]; done) | (subst hw; (repeat' split) <;> first | rfl | omega) | ((repeat' split) <;> first | rfl | omega)) rfl
  · refine r_tabIn (tgt := 132) C dX0_stateBehind_1 (by omega) (by omega) (by omega) (by rw [hw]; rfl) (by decide) ?_
    refine r_iload_n C dX0_stateBehind_132 rfl rfl ?_
    refine r_bipush C dX0_stateBehind_133 (by decide) ?_
    refine r_icmp_ne (tgt := 142) C dX0_stateBehind_135 (by decide) (by omega) (by omega) (fun h135 => ?_) (fun h135 => ?_)
    · refine r_bipush C dX0_stateBehind_142 (by decide) ?_
      exact r_iretD C dX0_stateBehind_144 (by unfold stB; first | (simp only [hw, Int.reduceEq, reduceIte]; done) | (subst hw; (repeat' split) <;> first | rfl | omega) | ((repeat' split) <;> first | rfl | omega)) rfl
    · refine r_iconst C dX0_stateBehind_138 ?_
      refine r_goto (tgt := 144) C dX0_stateBehind_139 (by decide) ?_
      exact r_iretD C dX0_stateBehind_144 (by unfold stB; first | (simp only [hw, Int.reduceEq, reduceIte]; done) | (subst hw; (repeat' split) <;> first | rfl | omega) | ((repeat' split) <;> first | rfl | omega)) rfl
  · refine r_tabOut (tgt := 145) C dX0_stateBehind_1 (by omega) hw (by decide) ?_
    refine r_bipush C dX0_stateBehind_145 (by decide) ?_
    exact r_iretD C dX0_stateBehind_147 (by unfold stB; first | (simp only [hw, Int.reduceEq, reduceIte]; done) | (subst hw; (repeat' split) <;> first | rfl | omega) | ((repeat' split) <;> first | rfl | omega)) rfl

set_option maxRecDepth 100000 in
set_option maxHeartbeats 4000000 in
theorem c_X0_errorPlace {l : Launch} {D : va_G} {ty : Nat → ClassId} {ad : Int → Nat} {N : Int} {σ : Int → va_E} {c len : Int} {tx : Int → Int} (hc : 0 ≤ c ∧ c + 2 ≤ N) (ht : okT len tx) : gM0 l yX0_errorPlace cX0_errorPlace 3 (some .int) 2 43 [.ref (ad c)] D ty ad N (dput ad ty σ c len tx) (some (.int (gI (errP len tx)))) (dput ad ty σ c len tx) := by
  refine gMet_of [some (.ref (ad c)), none, none] (by decide +kernel) rfl (Nat.le_of_ble_eq_true rfl) rfl ?_
  intro X hl hD hty C hini
  subst hl hD hty
  have hlen := ht.1
  refine r_iconst C dX0_errorPlace_0 ?_
  refine r_istore_n C dX0_errorPlace_1 rfl (Nat.le_of_ble_eq_true rfl) rfl ?_
  dsimp only [List.set]
  refine r_iconst C dX0_errorPlace_2 ?_
  refine r_istore_n C dX0_errorPlace_3 rfl (Nat.le_of_ble_eq_true rfl) rfl ?_
  dsimp only [List.set]
  have lp : ∀ (n : Nat) (p t : Int), (0 ≤ p) → (p + n = len) → (0 ≤ t ∧ t ≤ 6) → (errN len tx n p t = errP len tx) → V X 0 0 (gQ X (gD (some (.int (gI (errP len tx)))) ad N (dput ad (gty X) σ c len tx)) 0 0) 4 [some (.ref (ad c)), some (.int (gI t)), some (.int (gI p))] [] ad N (dput ad (gty X) σ c len tx) := by
    intro n
    induction n with
    | zero =>
      intro p t hp hpn ht2 e
      refine r_iload_n C dX0_errorPlace_4 rfl rfl ?_
      refine r_aload_n C dX0_errorPlace_5 rfl rfl ?_
      refine r_get C flX0_15 dX0_errorPlace_6 (by omega) dput_0 rfl ?_
      refine r_icmp_ge (tgt := 36) C dX0_errorPlace_9 (by decide) (by omega) (by omega) (fun h9 => ?_) (fun h9 => ?_)
      · refine r_aload_n C dX0_errorPlace_36 rfl rfl ?_
        refine r_get C flX0_15 dX0_errorPlace_37 (by omega) dput_0 rfl ?_
        exact r_iretD C dX0_errorPlace_40 (by rw [← e]; rfl) rfl
      · exact absurd h9 (by omega)
    | succ n ih =>
      intro p t hp hpn ht2 e
      have hca := cAt_rng ht p
      have hst := stB_rng t (cAt len tx p)
      refine r_iload_n C dX0_errorPlace_4 rfl rfl ?_
      refine r_aload_n C dX0_errorPlace_5 rfl rfl ?_
      refine r_get C flX0_15 dX0_errorPlace_6 (by omega) dput_0 rfl ?_
      refine r_icmp_ge (tgt := 36) C dX0_errorPlace_9 (by decide) (by omega) (by omega) (fun h9 => ?_) (fun h9 => ?_)
      · exact absurd h9 (by omega)
      · refine r_iload_n C dX0_errorPlace_12 rfl rfl ?_
        refine r_aload_n C dX0_errorPlace_13 rfl rfl ?_
        refine r_iload_n C dX0_errorPlace_14 rfl rfl ?_
        refine r_cV C cwX0_23 (c_X0_codeAt hc ht (by omega)) dX0_errorPlace_15 rfl (by omega) dput_0 rfl rfl rfl (Nat.le_of_ble_eq_true rfl) ⟨Nat.le_of_ble_eq_true rfl, Nat.le_of_ble_eq_true rfl⟩ ⟨Nat.le_of_ble_eq_true rfl, Nat.le_of_ble_eq_true rfl⟩ ?_
        refine r_cS C cwX0_40 (c_X0_stateBehind (by omega) (by omega)) dX0_errorPlace_18 rfl rfl rfl (Nat.le_of_ble_eq_true rfl) ⟨Nat.le_of_ble_eq_true rfl, Nat.le_of_ble_eq_true rfl⟩ ⟨Nat.le_of_ble_eq_true rfl, Nat.le_of_ble_eq_true rfl⟩ ?_
        refine r_istore_n C dX0_errorPlace_21 rfl (Nat.le_of_ble_eq_true rfl) rfl ?_
        dsimp only [List.set]
        refine r_iload_n C dX0_errorPlace_22 rfl rfl ?_
        refine r_bipush C dX0_errorPlace_23 (by decide) ?_
        refine r_icmp_ne (tgt := 30) C dX0_errorPlace_25 (by decide) (by omega) (by omega) (fun h25 => ?_) (fun h25 => ?_)
        · refine r_iinc C dX0_errorPlace_30 rfl rfl ?_
          dsimp only [List.set]
          refine r_goto (tgt := 4) C dX0_errorPlace_33 (by decide) ?_
          exact ih _ _ (by omega) (by omega) (by omega) (by rw [← e]; simp only [errN]; rw [if_neg (by omega)])
        · refine r_iload_n C dX0_errorPlace_28 rfl rfl ?_
          exact r_iretD C dX0_errorPlace_29 (by rw [← e]; simp only [errN]; rw [if_pos (by omega)]) rfl
  exact lp len.toNat 0 0 (by omega) (by omega) (by omega) rfl

set_option maxRecDepth 100000 in
set_option maxHeartbeats 4000000 in
theorem c_X0_isComplete {l : Launch} {D : va_G} {ty : Nat → ClassId} {ad : Int → Nat} {N : Int} {σ : Int → va_E} {c len : Int} {tx : Int → Int} (hc : 0 ≤ c ∧ c + 2 ≤ N) (ht : okT len tx) : gM0 l yX0_isComplete cX0_isComplete 3 (some .boolean) 2 43 [.ref (ad c)] D ty ad N (dput ad ty σ c len tx) (some (.int (gI (gB (cmpl len tx))))) (dput ad ty σ c len tx) := by
  refine gMet_of [some (.ref (ad c)), none, none] (by decide +kernel) rfl (Nat.le_of_ble_eq_true rfl) rfl ?_
  intro X hl hD hty C hini
  subst hl hD hty
  have hlen := ht.1
  refine r_iconst C dX0_isComplete_0 ?_
  refine r_istore_n C dX0_isComplete_1 rfl (Nat.le_of_ble_eq_true rfl) rfl ?_
  dsimp only [List.set]
  refine r_iconst C dX0_isComplete_2 ?_
  refine r_istore_n C dX0_isComplete_3 rfl (Nat.le_of_ble_eq_true rfl) rfl ?_
  dsimp only [List.set]
  have lp : ∀ (n : Nat) (p t : Int), (0 ≤ p) → (p + n = len) → (0 ≤ t ∧ t ≤ 6) → (stN len tx n p t = stN len tx len.toNat 0 0) → V X 0 0 (gQ X (gD (some (.int (gI (gB (cmpl len tx))))) ad N (dput ad (gty X) σ c len tx)) 0 0) 4 [some (.ref (ad c)), some (.int (gI t)), some (.int (gI p))] [] ad N (dput ad (gty X) σ c len tx) := by
    intro n
    induction n with
    | zero =>
      intro p t hp hpn ht2 e
      have e2 : t = stN len tx len.toNat 0 0 := e
      refine r_iload_n C dX0_isComplete_4 rfl rfl ?_
      refine r_aload_n C dX0_isComplete_5 rfl rfl ?_
      refine r_get C flX0_15 dX0_isComplete_6 (by omega) dput_0 rfl ?_
      refine r_icmp_ge (tgt := 28) C dX0_isComplete_9 (by decide) (by omega) (by omega) (fun h9 => ?_) (fun h9 => ?_)
      · refine r_iload_n C dX0_isComplete_28 rfl rfl ?_
        refine r_iconst C dX0_isComplete_29 ?_
        refine r_icmp_eq (tgt := 38) C dX0_isComplete_30 (by decide) (by omega) (by omega) (fun h30 => ?_) (fun h30 => ?_)
        · refine r_iconst C dX0_isComplete_38 ?_
          refine r_goto (tgt := 43) C dX0_isComplete_39 (by decide) ?_
          exact r_zretD C dX0_isComplete_43 (by omega) (by first | exact (gB_t (by unfold cmpl; omega)).symm | exact (gB_f (by unfold cmpl; omega)).symm) rfl
        · refine r_iload_n C dX0_isComplete_33 rfl rfl ?_
          refine r_iconst C dX0_isComplete_34 ?_
          refine r_icmp_ne (tgt := 42) C dX0_isComplete_35 (by decide) (by omega) (by omega) (fun h35 => ?_) (fun h35 => ?_)
          · refine r_iconst C dX0_isComplete_42 ?_
            exact r_zretD C dX0_isComplete_43 (by omega) (by first | exact (gB_t (by unfold cmpl; omega)).symm | exact (gB_f (by unfold cmpl; omega)).symm) rfl
          · refine r_iconst C dX0_isComplete_38 ?_
            refine r_goto (tgt := 43) C dX0_isComplete_39 (by decide) ?_
            exact r_zretD C dX0_isComplete_43 (by omega) (by first | exact (gB_t (by unfold cmpl; omega)).symm | exact (gB_f (by unfold cmpl; omega)).symm) rfl
      · exact absurd h9 (by omega)
    | succ n ih =>
      intro p t hp hpn ht2 e
      have hca := cAt_rng ht p
      have hst := stB_rng t (cAt len tx p)
      refine r_iload_n C dX0_isComplete_4 rfl rfl ?_
      refine r_aload_n C dX0_isComplete_5 rfl rfl ?_
      refine r_get C flX0_15 dX0_isComplete_6 (by omega) dput_0 rfl ?_
      refine r_icmp_ge (tgt := 28) C dX0_isComplete_9 (by decide) (by omega) (by omega) (fun h9 => ?_) (fun h9 => ?_)
      · exact absurd h9 (by omega)
      · refine r_iload_n C dX0_isComplete_12 rfl rfl ?_
        refine r_aload_n C dX0_isComplete_13 rfl rfl ?_
        refine r_iload_n C dX0_isComplete_14 rfl rfl ?_
        refine r_cV C cwX0_23 (c_X0_codeAt hc ht (by omega)) dX0_isComplete_15 rfl (by omega) dput_0 rfl rfl rfl (Nat.le_of_ble_eq_true rfl) ⟨Nat.le_of_ble_eq_true rfl, Nat.le_of_ble_eq_true rfl⟩ ⟨Nat.le_of_ble_eq_true rfl, Nat.le_of_ble_eq_true rfl⟩ ?_
        refine r_cS C cwX0_40 (c_X0_stateBehind (by omega) (by omega)) dX0_isComplete_18 rfl rfl rfl (Nat.le_of_ble_eq_true rfl) ⟨Nat.le_of_ble_eq_true rfl, Nat.le_of_ble_eq_true rfl⟩ ⟨Nat.le_of_ble_eq_true rfl, Nat.le_of_ble_eq_true rfl⟩ ?_
        refine r_istore_n C dX0_isComplete_21 rfl (Nat.le_of_ble_eq_true rfl) rfl ?_
        dsimp only [List.set]
        refine r_iinc C dX0_isComplete_22 rfl rfl ?_
        dsimp only [List.set]
        refine r_goto (tgt := 4) C dX0_isComplete_25 (by decide) ?_
        exact ih _ _ (by omega) (by omega) (by omega) e
  exact lp len.toNat 0 0 (by omega) (by omega) (by omega) rfl

