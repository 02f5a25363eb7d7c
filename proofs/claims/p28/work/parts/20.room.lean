/-! Room, Math, asNumber: contracts -/

def keyR (ρ : Int → Int) (p : Int) : Int := if 0 ≤ p ∧ p < ρ 6 then ρ (7 + p) else -1
def darkR (ρ : Int → Int) (p : Int) : Int := if 0 ≤ p ∧ p < ρ 6 then ρ (11 + p) else -1
def numR (ρ : Int → Int) (w : Int) : Int := if w = 0 then ρ 0 else if w = 1 then ρ 1 else if w = 2 then ρ 2 else if w = 3 then ρ 3 else if w = 4 then ρ 6 else if w = 5 then ρ 5 else if w = 6 then ρ 4 else keyR ρ 0
/-- how much shorter in a beat -/
def lessR (w : Int) : Int := 1 + (if 3 ≤ w then 1 else 0) + (if 6 ≤ w then 1 else 0)
theorem lessR_rng (w : Int) : 1 ≤ lessR w ∧ lessR w ≤ 3 := by unfold lessR; split <;> split <;> omega
def plcR (ρ : Int → Int) (key : Int) : Nat → Int → Int
  | 0, _ => -1
  | n + 1, p => if ρ (7 + p) = key then p else plcR ρ key n (p + 1)
/-- the place of a key in a room -/
def plc (ρ : Int → Int) (key : Int) : Int := plcR ρ key (ρ 6).toNat 0
theorem plcR_rng (ρ : Int → Int) (key : Int) : ∀ (n : Nat) (p : Int), plcR ρ key n p = -1 ∨ (p ≤ plcR ρ key n p ∧ plcR ρ key n p < p + n)
  | 0, p => Or.inl rfl
  | n + 1, p => by
    unfold plcR
    split
    · right; omega
    · rcases plcR_rng ρ key n (p + 1) with h | h
      · exact Or.inl h
      · right; omega
def addR (ρ : Int → Int) (key : Int) : Int → Int := up (up (up ρ (7 + ρ 6) key) (11 + ρ 6) 0) 6 (ρ 6 + 1)
def newR (ρ : Int → Int) : Int → Int := up (up (up ρ 0 20) 2 0) 1 0
def burnR (ρ : Int → Int) : Int → Int := if ρ 1 = 0 then ρ else
  if 0 < max 0 (ρ 0 - lessR (ρ 2)) then up (up (up (up ρ 4 (ρ 4 + 1)) 0 (max 0 (ρ 0 - lessR (ρ 2)))) 1 1) 2 (min 9 (ρ 2 + 1)) else up (up (up ρ 4 (ρ 4 + 1)) 0 (max 0 (ρ 0 - lessR (ρ 2)))) 1 0
/-- beats until it is burnt -/
def untr : Nat → Int → Int → Int
  | 0, _, _ => 0
  | n + 1, l, t => if l ≤ 0 then 0 else 1 + untr n (l - lessR t) (min 9 (t + 1))
theorem untr_rng : ∀ (n : Nat) (l t : Int), 0 ≤ untr n l t ∧ untr n l t ≤ n
  | 0, l, t => by unfold untr; omega
  | n + 1, l, t => by
    unfold untr
    have := untr_rng n (l - lessR t) (min 9 (t + 1))
    split <;> omega
def savR (ρ : Int → Int) : Int := if ρ 1 = 0 then 0 else ρ 0 - untr 60 (ρ 0) (ρ 2)
/-- things grow older: n more from place p, q stay so far -/
def ageL (set : Int) : Nat → Int → Int → (Int → Int) → (Int → Int) × Int
  | 0, _, q, ρ => (ρ, q)
  | n + 1, p, q, ρ => if (if ρ 1 = 0 then ρ (11 + p) + 1 else 0) < set then ageL set n (p + 1) (q + 1) (up (up ρ (7 + q) (ρ (7 + p))) (11 + q) (if ρ 1 = 0 then ρ (11 + p) + 1 else 0)) else ageL set n (p + 1) q ρ
def ageQ (ρ : Int → Int) (set : Int) : Int := (ageL set (ρ 6).toNat 0 0 ρ).2
def ageR (ρ : Int → Int) (set : Int) : Int → Int := up (ageL set (ρ 6).toNat 0 0 ρ).1 6 (ageQ ρ set)
def maxD (ρ : Int → Int) : Nat → Int → Int → Int
  | 0, _, a => a
  | n + 1, p, a => maxD ρ n (p + 1) (max a (ρ (11 + p)))
def ffR (ρ : Int → Int) (bl set : Int) : Int := if 1 < bl then bl + set - 1 else max 1 (set - maxD ρ (ρ 6).toNat 0 0)

set_option maxRecDepth 100000 in
set_option maxHeartbeats 4000000 in
theorem c_X4_asNumber {l : Launch} {D : va_G} {ty : Nat → ClassId} {ad : Int → Nat} {N : Int} {σ : Int → va_E} {z : Int} (hz : z = 0 ∨ z = 1) : gM0 l yX4_asNumber cX4_asNumber 1 (some .int) 0 0 [.int (gI z)] D ty ad N (σ) (some (.int (gI z))) (σ) := by
  refine gMet_of [some (.int (gI z))] (by decide +kernel) rfl (Nat.le_of_ble_eq_true rfl) rfl ?_
  intro X hl hD hty C hini
  subst hl hD hty
  refine r_iload_n C dX4_asNumber_0 rfl rfl ?_
  refine r_if_eq (tgt := 8) C dX4_asNumber_1 (by decide) (by omega) (fun h1 => ?_) (fun h1 => ?_)
  · refine r_iconst C dX4_asNumber_8 ?_
    exact r_iretD C dX4_asNumber_9 (by omega) rfl
  · refine r_iconst C dX4_asNumber_4 ?_
    refine r_goto (tgt := 9) C dX4_asNumber_5 (by decide) ?_
    exact r_iretD C dX4_asNumber_9 (by omega) rfl

set_option maxRecDepth 100000 in
set_option maxHeartbeats 4000000 in
theorem c_X1_keyAt {l : Launch} {D : va_G} {ty : Nat → ClassId} {ad : Int → Nat} {N : Int} {σ : Int → va_E} {k p : Int} {ρ : Int → Int} (hk : 0 ≤ k ∧ k + 3 ≤ N) (hp : -2147483648 ≤ p ∧ p < 2147483648) (hm : 0 ≤ ρ 6 ∧ ρ 6 ≤ 4) : gM0 l yX1_keyAt cX1_keyAt 2 (some .int) 0 0 [.ref (ad k), .int (gI p)] D ty ad N (rput ad ty σ k ρ) (some (.int (gI (keyR ρ p)))) (rput ad ty σ k ρ) := by
  refine gMet_of [some (.ref (ad k)), some (.int (gI p))] (by decide +kernel) rfl (Nat.le_of_ble_eq_true rfl) rfl ?_
  intro X hl hD hty C hini
  subst hl hD hty
  refine r_iload_n C dX1_keyAt_0 rfl rfl ?_
  refine r_if_lt (tgt := 21) C dX1_keyAt_1 (by decide) (by omega) (fun h1 => ?_) (fun h1 => ?_)
  · refine r_iconst C dX1_keyAt_21 ?_
    exact r_iretD C dX1_keyAt_22 (by unfold keyR; first | rw [if_pos (by omega)] | rw [if_neg (by omega)]) rfl
  · refine r_iload_n C dX1_keyAt_4 rfl rfl ?_
    refine r_aload_n C dX1_keyAt_5 rfl rfl ?_
    refine rr_get C flX1_32 dX1_keyAt_6 hk rfl ?_
    refine r_icmp_ge (tgt := 21) C dX1_keyAt_9 (by decide) (by omega) (by omega) (fun h9 => ?_) (fun h9 => ?_)
    · refine r_iconst C dX1_keyAt_21 ?_
      exact r_iretD C dX1_keyAt_22 (by unfold keyR; first | rw [if_pos (by omega)] | rw [if_neg (by omega)]) rfl
    · refine r_aload_n C dX1_keyAt_12 rfl rfl ?_
      refine rr_get C flX1_9 dX1_keyAt_13 hk rfl ?_
      refine r_iload_n C dX1_keyAt_16 rfl rfl ?_
      first | refine rr_kld C dX1_keyAt_17 hk (by omega) ?_ | refine rr_dld C dX1_keyAt_17 hk (by omega) ?_
      refine r_goto (tgt := 22) C dX1_keyAt_18 (by decide) ?_
      exact r_iretD C dX1_keyAt_22 (by unfold keyR; first | rw [if_pos (by omega)] | rw [if_neg (by omega)]) rfl

set_option maxRecDepth 100000 in
set_option maxHeartbeats 4000000 in
theorem c_X1_darkAt {l : Launch} {D : va_G} {ty : Nat → ClassId} {ad : Int → Nat} {N : Int} {σ : Int → va_E} {k p : Int} {ρ : Int → Int} (hk : 0 ≤ k ∧ k + 3 ≤ N) (hp : -2147483648 ≤ p ∧ p < 2147483648) (hm : 0 ≤ ρ 6 ∧ ρ 6 ≤ 4) : gM0 l yX1_darkAt cX1_darkAt 2 (some .int) 0 0 [.ref (ad k), .int (gI p)] D ty ad N (rput ad ty σ k ρ) (some (.int (gI (darkR ρ p)))) (rput ad ty σ k ρ) := by
  refine gMet_of [some (.ref (ad k)), some (.int (gI p))] (by decide +kernel) rfl (Nat.le_of_ble_eq_true rfl) rfl ?_
  intro X hl hD hty C hini
  subst hl hD hty
  refine r_iload_n C dX1_darkAt_0 rfl rfl ?_
  refine r_if_lt (tgt := 21) C dX1_darkAt_1 (by decide) (by omega) (fun h1 => ?_) (fun h1 => ?_)
  · refine r_iconst C dX1_darkAt_21 ?_
    exact r_iretD C dX1_darkAt_22 (by unfold darkR; first | rw [if_pos (by omega)] | rw [if_neg (by omega)]) rfl
  · refine r_iload_n C dX1_darkAt_4 rfl rfl ?_
    refine r_aload_n C dX1_darkAt_5 rfl rfl ?_
    refine rr_get C flX1_32 dX1_darkAt_6 hk rfl ?_
    refine r_icmp_ge (tgt := 21) C dX1_darkAt_9 (by decide) (by omega) (by omega) (fun h9 => ?_) (fun h9 => ?_)
    · refine r_iconst C dX1_darkAt_21 ?_
      exact r_iretD C dX1_darkAt_22 (by unfold darkR; first | rw [if_pos (by omega)] | rw [if_neg (by omega)]) rfl
    · refine r_aload_n C dX1_darkAt_12 rfl rfl ?_
      refine rr_get C flX1_15 dX1_darkAt_13 hk rfl ?_
      refine r_iload_n C dX1_darkAt_16 rfl rfl ?_
      first | refine rr_kld C dX1_darkAt_17 hk (by omega) ?_ | refine rr_dld C dX1_darkAt_17 hk (by omega) ?_
      refine r_goto (tgt := 22) C dX1_darkAt_18 (by decide) ?_
      exact r_iretD C dX1_darkAt_22 (by unfold darkR; first | rw [if_pos (by omega)] | rw [if_neg (by omega)]) rfl

set_option maxRecDepth 100000 in
set_option maxHeartbeats 4000000 in
theorem c_X1_number {l : Launch} {D : va_G} {ty : Nat → ClassId} {ad : Int → Nat} {N : Int} {σ : Int → va_E} {k w : Int} {ρ : Int → Int} (hk : 0 ≤ k ∧ k + 3 ≤ N) (hw0 : 0 ≤ w ∧ w < 8) (hm : 0 ≤ ρ 6 ∧ ρ 6 ≤ 4) (hz1 : ρ 1 = 0 ∨ ρ 1 = 1) (hz3 : ρ 3 = 0 ∨ ρ 3 = 1) (hz5 : ρ 5 = 0 ∨ ρ 5 = 1) : gM0 l yX1_number cX1_number 2 (some .int) 1 21 [.ref (ad k), .int (gI w)] D ty ad N (rput ad ty σ k ρ) (some (.int (gI (numR ρ w)))) (rput ad ty σ k ρ) := by
  refine gMet_of [some (.ref (ad k)), some (.int (gI w))] (by decide +kernel) rfl (Nat.le_of_ble_eq_true rfl) rfl ?_
  intro X hl hD hty C hini
  subst hl hD hty
  refine r_iload_n C dX1_number_0 rfl rfl ?_
  rcases (show (w = 0 ∨ w = 1 ∨ w = 2 ∨ w = 3 ∨ w = 4 ∨ w = 5 ∨ w = 6) ∨ (w < 0 ∨ 6 < w) by omega) with (hw | hw | hw | hw | hw | hw | hw) | hw
  · refine r_tabIn (tgt := 44) C dX1_number_1 (by omega) (by omega) (by omega) (by rw [hw]; rfl) (by decide) ?_
    refine r_aload_n C dX1_number_44 rfl rfl ?_
    refine rr_get C flX1_18 dX1_number_45 hk rfl ?_
    exact r_iretD C dX1_number_48 (by unfold numR; first | (subst hw; rfl) | (rw [show w = 7 by omega]; rfl)) rfl
  · refine r_tabIn (tgt := 49) C dX1_number_1 (by omega) (by omega) (by omega) (by rw [hw]; rfl) (by decide) ?_
    refine r_aload_n C dX1_number_49 rfl rfl ?_
    refine rr_get C flX1_35 dX1_number_50 hk rfl ?_
    refine r_cSN C C.2.2.2.2.2.2.2.2.2.2.2.2.1 kasn (c_X4_asNumber (by omega)) dX1_number_53 rfl rfl rfl (Nat.le_of_ble_eq_true rfl) ⟨Nat.le_of_ble_eq_true rfl, Nat.le_of_ble_eq_true rfl⟩ ⟨Nat.le_of_ble_eq_true rfl, Nat.le_of_ble_eq_true rfl⟩ ?_
    exact r_iretD C dX1_number_56 (by unfold numR; first | (subst hw; rfl) | (rw [show w = 7 by omega]; rfl)) rfl
  · refine r_tabIn (tgt := 57) C dX1_number_1 (by omega) (by omega) (by omega) (by rw [hw]; rfl) (by decide) ?_
    refine r_aload_n C dX1_number_57 rfl rfl ?_
    refine rr_get C flX1_38 dX1_number_58 hk rfl ?_
    exact r_iretD C dX1_number_61 (by unfold numR; first | (subst hw; rfl) | (rw [show w = 7 by omega]; rfl)) rfl
  · refine r_tabIn (tgt := 62) C dX1_number_1 (by omega) (by omega) (by omega) (by rw [hw]; rfl) (by decide) ?_
    refine r_aload_n C dX1_number_62 rfl rfl ?_
    refine rr_get C flX1_41 dX1_number_63 hk rfl ?_
    refine r_cSN C C.2.2.2.2.2.2.2.2.2.2.2.2.1 kasn (c_X4_asNumber (by omega)) dX1_number_66 rfl rfl rfl (Nat.le_of_ble_eq_true rfl) ⟨Nat.le_of_ble_eq_true rfl, Nat.le_of_ble_eq_true rfl⟩ ⟨Nat.le_of_ble_eq_true rfl, Nat.le_of_ble_eq_true rfl⟩ ?_
    exact r_iretD C dX1_number_69 (by unfold numR; first | (subst hw; rfl) | (rw [show w = 7 by omega]; rfl)) rfl
  · refine r_tabIn (tgt := 70) C dX1_number_1 (by omega) (by omega) (by omega) (by rw [hw]; rfl) (by decide) ?_
    refine r_aload_n C dX1_number_70 rfl rfl ?_
    refine rr_get C flX1_32 dX1_number_71 hk rfl ?_
    exact r_iretD C dX1_number_74 (by unfold numR; first | (subst hw; rfl) | (rw [show w = 7 by omega]; rfl)) rfl
  · refine r_tabIn (tgt := 75) C dX1_number_1 (by omega) (by omega) (by omega) (by rw [hw]; rfl) (by decide) ?_
    refine r_aload_n C dX1_number_75 rfl rfl ?_
    refine rr_get C flX1_22 dX1_number_76 hk rfl ?_
    refine r_cSN C C.2.2.2.2.2.2.2.2.2.2.2.2.1 kasn (c_X4_asNumber (by omega)) dX1_number_79 rfl rfl rfl (Nat.le_of_ble_eq_true rfl) ⟨Nat.le_of_ble_eq_true rfl, Nat.le_of_ble_eq_true rfl⟩ ⟨Nat.le_of_ble_eq_true rfl, Nat.le_of_ble_eq_true rfl⟩ ?_
    exact r_iretD C dX1_number_82 (by unfold numR; first | (subst hw; rfl) | (rw [show w = 7 by omega]; rfl)) rfl
  · refine r_tabIn (tgt := 83) C dX1_number_1 (by omega) (by omega) (by omega) (by rw [hw]; rfl) (by decide) ?_
    refine r_aload_n C dX1_number_83 rfl rfl ?_
    refine rr_get C flX1_44 dX1_number_84 hk rfl ?_
    exact r_iretD C dX1_number_87 (by unfold numR; first | (subst hw; rfl) | (rw [show w = 7 by omega]; rfl)) rfl
  · refine r_tabOut (tgt := 88) C dX1_number_1 (by omega) hw (by decide) ?_
    refine r_aload_n C dX1_number_88 rfl rfl ?_
    refine r_iconst C dX1_number_89 ?_
    refine r_cV C cwX1_51 (c_X1_keyAt hk (by omega) hm) dX1_number_90 rfl (by omega) rput_0 rfl rfl rfl (Nat.le_of_ble_eq_true rfl) ⟨Nat.le_of_ble_eq_true rfl, Nat.le_of_ble_eq_true rfl⟩ ⟨Nat.le_of_ble_eq_true rfl, Nat.le_of_ble_eq_true rfl⟩ ?_
    exact r_iretD C dX1_number_93 (by unfold numR; first | (subst hw; rfl) | (rw [show w = 7 by omega]; rfl)) rfl

set_option maxRecDepth 100000 in
set_option maxHeartbeats 4000000 in
theorem c_X1_placeOf {l : Launch} {D : va_G} {ty : Nat → ClassId} {ad : Int → Nat} {N : Int} {σ : Int → va_E} {k key : Int} {ρ : Int → Int} (hk : 0 ≤ k ∧ k + 3 ≤ N) (hkey : -2147483648 ≤ key ∧ key < 2147483648) (hm : 0 ≤ ρ 6 ∧ ρ 6 ≤ 4) (hkr : ∀ i, 0 ≤ i → i < 4 → -2147483648 ≤ ρ (7 + i) ∧ ρ (7 + i) < 2147483648) : gM0 l yX1_placeOf cX1_placeOf 3 (some .int) 0 0 [.ref (ad k), .int (gI key)] D ty ad N (rput ad ty σ k ρ) (some (.int (gI (plc ρ key)))) (rput ad ty σ k ρ) := by
  refine gMet_of [some (.ref (ad k)), some (.int (gI key)), none] (by decide +kernel) rfl (Nat.le_of_ble_eq_true rfl) rfl ?_
  intro X hl hD hty C hini
  subst hl hD hty
  refine r_iconst C dX1_placeOf_0 ?_
  refine r_istore_n C dX1_placeOf_1 rfl (Nat.le_of_ble_eq_true rfl) rfl ?_
  dsimp only [List.set]
  have lp : ∀ (n : Nat) (p : Int), (0 ≤ p) → (p + n = ρ 6) → (plcR ρ key n p = plc ρ key) → V X 0 0 (gQ X (gD (some (.int (gI (plc ρ key)))) ad N (rput ad (gty X) σ k ρ)) 0 0) 2 [some (.ref (ad k)), some (.int (gI key)), some (.int (gI p))] [] ad N (rput ad (gty X) σ k ρ) := by
    intro n
    induction n with
    | zero =>
      intro p hp hpn e
      refine r_iload_n C dX1_placeOf_2 rfl rfl ?_
      refine r_aload_n C dX1_placeOf_3 rfl rfl ?_
      refine rr_get C flX1_32 dX1_placeOf_4 hk rfl ?_
      refine r_icmp_ge (tgt := 28) C dX1_placeOf_7 (by decide) (by omega) (by omega) (fun h7 => ?_) (fun h7 => ?_)
      · refine r_iconst C dX1_placeOf_28 ?_
        exact r_iretD C dX1_placeOf_29 (by rw [← e]; rfl) rfl
      · exact absurd h7 (by omega)
    | succ n ih =>
      intro p hp hpn e
      refine r_iload_n C dX1_placeOf_2 rfl rfl ?_
      refine r_aload_n C dX1_placeOf_3 rfl rfl ?_
      refine rr_get C flX1_32 dX1_placeOf_4 hk rfl ?_
      refine r_icmp_ge (tgt := 28) C dX1_placeOf_7 (by decide) (by omega) (by omega) (fun h7 => ?_) (fun h7 => ?_)
      · exact absurd h7 (by omega)
      · refine r_aload_n C dX1_placeOf_10 rfl rfl ?_
        refine rr_get C flX1_9 dX1_placeOf_11 hk rfl ?_
        refine r_iload_n C dX1_placeOf_14 rfl rfl ?_
        first | refine rr_kld C dX1_placeOf_15 hk (by omega) ?_ | refine rr_dld C dX1_placeOf_15 hk (by omega) ?_
        refine r_iload_n C dX1_placeOf_16 rfl rfl ?_
        refine r_icmp_ne (tgt := 22) C dX1_placeOf_17 (by decide) (hkr _ hp (by omega)) hkey (fun h17 => ?_) (fun h17 => ?_)
        · refine r_iinc C dX1_placeOf_22 rfl rfl ?_
          dsimp only [List.set]
          refine r_goto (tgt := 2) C dX1_placeOf_25 (by decide) ?_
          exact ih (p + 1) (by omega) (by omega) (by rw [← e]; exact (if_neg h17).symm)
        · refine r_iload_n C dX1_placeOf_20 rfl rfl ?_
          exact r_iretD C dX1_placeOf_21 (by rw [← e]; exact (if_pos (by omega)).symm) rfl
  exact lp (ρ 6).toNat 0 (by omega) (by omega) rfl

set_option maxRecDepth 100000 in
set_option maxHeartbeats 4000000 in
theorem c_X1_addThing {l : Launch} {D : va_G} {ty : Nat → ClassId} {ad : Int → Nat} {N : Int} {σ : Int → va_E} {k key : Int} {ρ : Int → Int} (hk : 0 ≤ k ∧ k + 3 ≤ N) (hm : 0 ≤ ρ 6 ∧ ρ 6 < 4) : gM0 l yX1_addThing cX1_addThing 2 none 0 0 [.ref (ad k), .int (gI key)] D ty ad N (rput ad ty σ k ρ) (none) (rput ad ty σ k (addR ρ key)) := by
  refine gMet_of [some (.ref (ad k)), some (.int (gI key))] (by decide +kernel) rfl (Nat.le_of_ble_eq_true rfl) rfl ?_
  intro X hl hD hty C hini
  subst hl hD hty
  refine r_aload_n C dX1_addThing_0 rfl rfl ?_
  refine rr_get C flX1_32 dX1_addThing_1 hk rfl ?_
  refine r_iconst C dX1_addThing_4 ?_
  refine r_icmp_ge (tgt := 38) C dX1_addThing_5 (by decide) (by omega) (by omega) (fun h5 => ?_) (fun h5 => ?_)
  · exact absurd h5 (by omega)
  · refine r_aload_n C dX1_addThing_8 rfl rfl ?_
    refine rr_get C flX1_9 dX1_addThing_9 hk rfl ?_
    refine r_aload_n C dX1_addThing_12 rfl rfl ?_
    refine rr_get C flX1_32 dX1_addThing_13 hk rfl ?_
    refine r_iload_n C dX1_addThing_16 rfl rfl ?_
    first | refine rr_kst C dX1_addThing_17 hk (by omega) ?_ | refine rr_dst C dX1_addThing_17 hk (by omega) ?_
    refine r_aload_n C dX1_addThing_18 rfl rfl ?_
    refine rr_get C flX1_15 dX1_addThing_19 hk rfl ?_
    refine r_aload_n C dX1_addThing_22 rfl rfl ?_
    refine rr_get C flX1_32 dX1_addThing_23 hk rfl ?_
    rw [up_n (show (6 : Int) ≠ 7 + ρ 6 by omega)]
    refine r_iconst C dX1_addThing_26 ?_
    first | refine rr_kst C dX1_addThing_27 hk (by omega) ?_ | refine rr_dst C dX1_addThing_27 hk (by omega) ?_
    refine r_aload_n C dX1_addThing_28 rfl rfl ?_
    refine r_dup C dX1_addThing_29 rfl ?_
    refine rr_get C flX1_32 dX1_addThing_30 hk rfl ?_
    rw [up_n (show (6 : Int) ≠ 11 + ρ 6 by omega), up_n (show (6 : Int) ≠ 7 + ρ 6 by omega)]
    refine r_iconst C dX1_addThing_33 ?_
    refine r_iadd C dX1_addThing_34 ?_
    refine rr_put (j := 6) C flX1_32 dX1_addThing_35 hk (by decide) rfl rfl rfl rfl ?_
    exact r_vretD C dX1_addThing_38 rfl

set_option maxRecDepth 100000 in
set_option maxHeartbeats 4000000 in
theorem c_X1_takeNewCandle {l : Launch} {D : va_G} {ty : Nat → ClassId} {ad : Int → Nat} {N : Int} {σ : Int → va_E} {k : Int} {ρ : Int → Int} (hk : 0 ≤ k ∧ k + 3 ≤ N) : gM0 l yX1_takeNewCandle cX1_takeNewCandle 1 none 0 0 [.ref (ad k)] D ty ad N (rput ad ty σ k ρ) (none) (rput ad ty σ k (newR ρ)) := by
  refine gMet_of [some (.ref (ad k))] (by decide +kernel) rfl (Nat.le_of_ble_eq_true rfl) rfl ?_
  intro X hl hD hty C hini
  subst hl hD hty
  refine r_aload_n C dX1_takeNewCandle_0 rfl rfl ?_
  refine r_bipush C dX1_takeNewCandle_1 (by decide) ?_
  refine rr_put (j := 0) C flX1_18 dX1_takeNewCandle_3 hk (by decide) rfl rfl rfl rfl ?_
  refine r_aload_n C dX1_takeNewCandle_6 rfl rfl ?_
  refine r_iconst C dX1_takeNewCandle_7 ?_
  refine rr_put (j := 2) C flX1_38 dX1_takeNewCandle_8 hk (by decide) rfl rfl rfl rfl ?_
  refine r_aload_n C dX1_takeNewCandle_11 rfl rfl ?_
  refine r_iconst C dX1_takeNewCandle_12 ?_
  refine rr_put (j := 1) C flX1_35 dX1_takeNewCandle_13 hk (by decide) rfl rfl (gI_z (by omega)) (gI_f (by omega)) ?_
  exact r_vretD C dX1_takeNewCandle_16 rfl

set_option maxRecDepth 100000 in
set_option maxHeartbeats 4000000 in
theorem c_X1_burntInBeat {l : Launch} {D : va_G} {ty : Nat → ClassId} {ad : Int → Nat} {N : Int} {σ : Int → va_E} {w : Int} (hw : -2147483648 ≤ w ∧ w < 2147483648) : gM0 l yX1_burntInBeat cX1_burntInBeat 1 (some .int) 1 20 [.int (gI w)] D ty ad N (σ) (some (.int (gI (lessR w)))) (σ) := by
  refine gMet_of [some (.int (gI w))] (by decide +kernel) rfl (Nat.le_of_ble_eq_true rfl) rfl ?_
  intro X hl hD hty C hini
  subst hl hD hty
  refine r_iconst C dX1_burntInBeat_0 ?_
  refine r_iload_n C dX1_burntInBeat_1 rfl rfl ?_
  refine r_iconst C dX1_burntInBeat_2 ?_
  refine r_icmp_lt (tgt := 10) C dX1_burntInBeat_3 (by decide) (by omega) (by omega) (fun h3 => ?_) (fun h3 => ?_)
  · refine r_iconst C dX1_burntInBeat_10 ?_
    refine r_cSN C C.2.2.2.2.2.2.2.2.2.2.2.2.1 kasn (c_X4_asNumber (by omega)) dX1_burntInBeat_11 rfl rfl rfl (Nat.le_of_ble_eq_true rfl) ⟨Nat.le_of_ble_eq_true rfl, Nat.le_of_ble_eq_true rfl⟩ ⟨Nat.le_of_ble_eq_true rfl, Nat.le_of_ble_eq_true rfl⟩ ?_
    refine r_iadd C dX1_burntInBeat_14 ?_
    refine r_iload_n C dX1_burntInBeat_15 rfl rfl ?_
    refine r_bipush C dX1_burntInBeat_16 (by decide) ?_
    refine r_icmp_lt (tgt := 25) C dX1_burntInBeat_18 (by decide) (by omega) (by omega) (fun h18 => ?_) (fun h18 => ?_)
    · refine r_iconst C dX1_burntInBeat_25 ?_
      refine r_cSN C C.2.2.2.2.2.2.2.2.2.2.2.2.1 kasn (c_X4_asNumber (by omega)) dX1_burntInBeat_26 rfl rfl rfl (Nat.le_of_ble_eq_true rfl) ⟨Nat.le_of_ble_eq_true rfl, Nat.le_of_ble_eq_true rfl⟩ ⟨Nat.le_of_ble_eq_true rfl, Nat.le_of_ble_eq_true rfl⟩ ?_
      refine r_iadd C dX1_burntInBeat_29 ?_
      exact r_iretD C dX1_burntInBeat_30 (by unfold lessR; (repeat' split) <;> omega) rfl
    · refine r_iconst C dX1_burntInBeat_21 ?_
      refine r_goto (tgt := 26) C dX1_burntInBeat_22 (by decide) ?_
      refine r_cSN C C.2.2.2.2.2.2.2.2.2.2.2.2.1 kasn (c_X4_asNumber (by omega)) dX1_burntInBeat_26 rfl rfl rfl (Nat.le_of_ble_eq_true rfl) ⟨Nat.le_of_ble_eq_true rfl, Nat.le_of_ble_eq_true rfl⟩ ⟨Nat.le_of_ble_eq_true rfl, Nat.le_of_ble_eq_true rfl⟩ ?_
      refine r_iadd C dX1_burntInBeat_29 ?_
      exact r_iretD C dX1_burntInBeat_30 (by unfold lessR; (repeat' split) <;> omega) rfl
  · refine r_iconst C dX1_burntInBeat_6 ?_
    refine r_goto (tgt := 11) C dX1_burntInBeat_7 (by decide) ?_
    refine r_cSN C C.2.2.2.2.2.2.2.2.2.2.2.2.1 kasn (c_X4_asNumber (by omega)) dX1_burntInBeat_11 rfl rfl rfl (Nat.le_of_ble_eq_true rfl) ⟨Nat.le_of_ble_eq_true rfl, Nat.le_of_ble_eq_true rfl⟩ ⟨Nat.le_of_ble_eq_true rfl, Nat.le_of_ble_eq_true rfl⟩ ?_
    refine r_iadd C dX1_burntInBeat_14 ?_
    refine r_iload_n C dX1_burntInBeat_15 rfl rfl ?_
    refine r_bipush C dX1_burntInBeat_16 (by decide) ?_
    refine r_icmp_lt (tgt := 25) C dX1_burntInBeat_18 (by decide) (by omega) (by omega) (fun h18 => ?_) (fun h18 => ?_)
    · refine r_iconst C dX1_burntInBeat_25 ?_
      refine r_cSN C C.2.2.2.2.2.2.2.2.2.2.2.2.1 kasn (c_X4_asNumber (by omega)) dX1_burntInBeat_26 rfl rfl rfl (Nat.le_of_ble_eq_true rfl) ⟨Nat.le_of_ble_eq_true rfl, Nat.le_of_ble_eq_true rfl⟩ ⟨Nat.le_of_ble_eq_true rfl, Nat.le_of_ble_eq_true rfl⟩ ?_
      refine r_iadd C dX1_burntInBeat_29 ?_
      exact r_iretD C dX1_burntInBeat_30 (by unfold lessR; (repeat' split) <;> omega) rfl
    · refine r_iconst C dX1_burntInBeat_21 ?_
      refine r_goto (tgt := 26) C dX1_burntInBeat_22 (by decide) ?_
      refine r_cSN C C.2.2.2.2.2.2.2.2.2.2.2.2.1 kasn (c_X4_asNumber (by omega)) dX1_burntInBeat_26 rfl rfl rfl (Nat.le_of_ble_eq_true rfl) ⟨Nat.le_of_ble_eq_true rfl, Nat.le_of_ble_eq_true rfl⟩ ⟨Nat.le_of_ble_eq_true rfl, Nat.le_of_ble_eq_true rfl⟩ ?_
      refine r_iadd C dX1_burntInBeat_29 ?_
      exact r_iretD C dX1_burntInBeat_30 (by unfold lessR; (repeat' split) <;> omega) rfl

set_option maxRecDepth 100000 in
set_option maxHeartbeats 4000000 in
theorem c_X1_burnForBeat {l : Launch} {D : va_G} {ty : Nat → ClassId} {ad : Int → Nat} {N : Int} {σ : Int → va_E} {k : Int} {ρ : Int → Int} (hk : 0 ≤ k ∧ k + 3 ≤ N) (hl : 0 ≤ ρ 0 ∧ ρ 0 ≤ 60) (hb : ρ 1 = 0 ∨ ρ 1 = 1) (hwk : 0 ≤ ρ 2 ∧ ρ 2 ≤ 9) : gM0 l yX1_burnForBeat cX1_burnForBeat 1 none 2 40 [.ref (ad k)] D ty ad N (rput ad ty σ k ρ) (none) (rput ad ty σ k (burnR ρ)) := by
  refine gMet_of [some (.ref (ad k))] (by decide +kernel) rfl (Nat.le_of_ble_eq_true rfl) rfl ?_
  intro X hl hD hty C hini
  subst hl hD hty
  have hr := lessR_rng (ρ 2)
  refine r_aload_n C dX1_burnForBeat_0 rfl rfl ?_
  refine rr_get C flX1_35 dX1_burnForBeat_1 hk rfl ?_
  refine r_if_ne (tgt := 8) C dX1_burnForBeat_4 (by decide) (by omega) (fun h4 => ?_) (fun h4 => ?_)
  · refine r_aload_n C dX1_burnForBeat_8 rfl rfl ?_
    refine r_dup C dX1_burnForBeat_9 rfl ?_
    refine rr_get C flX1_44 dX1_burnForBeat_10 hk rfl ?_
    refine r_iconst C dX1_burnForBeat_13 ?_
    refine r_iadd C dX1_burnForBeat_14 ?_
    refine rr_put (j := 4) C flX1_44 dX1_burnForBeat_15 hk (by decide) rfl rfl rfl rfl ?_
    refine r_aload_n C dX1_burnForBeat_18 rfl rfl ?_
    refine r_iconst C dX1_burnForBeat_19 ?_
    refine r_aload_n C dX1_burnForBeat_20 rfl rfl ?_
    refine rr_get C flX1_18 dX1_burnForBeat_21 hk rfl ?_
    simp only [up_ap, Int.reduceEq, reduceIte]
    refine r_aload_n C dX1_burnForBeat_24 rfl rfl ?_
    refine rr_get C flX1_38 dX1_burnForBeat_25 hk rfl ?_
    simp only [up_ap, Int.reduceEq, reduceIte]
    refine r_cS C cwX1_55 (c_X1_burntInBeat (by omega)) dX1_burnForBeat_28 rfl rfl rfl (Nat.le_of_ble_eq_true rfl) ⟨Nat.le_of_ble_eq_true rfl, Nat.le_of_ble_eq_true rfl⟩ ⟨Nat.le_of_ble_eq_true rfl, Nat.le_of_ble_eq_true rfl⟩ ?_
    refine r_isub C dX1_burnForBeat_31 ?_
    refine r_cS C cwX1_58 (c_J9_max_7cf53 (by omega) (by omega)) dX1_burnForBeat_32 rfl rfl rfl (Nat.le_of_ble_eq_true rfl) ⟨Nat.le_of_ble_eq_true rfl, Nat.le_of_ble_eq_true rfl⟩ ⟨Nat.le_of_ble_eq_true rfl, Nat.le_of_ble_eq_true rfl⟩ ?_
    refine rr_put (j := 0) C flX1_18 dX1_burnForBeat_35 hk (by decide) rfl rfl rfl rfl ?_
    refine r_aload_n C dX1_burnForBeat_38 rfl rfl ?_
    refine r_aload_n C dX1_burnForBeat_39 rfl rfl ?_
    refine rr_get C flX1_18 dX1_burnForBeat_40 hk rfl ?_
    simp only [up_ap, Int.reduceEq, reduceIte]
    refine r_if_le (tgt := 50) C dX1_burnForBeat_43 (by decide) (by omega) (fun h43 => ?_) (fun h43 => ?_)
    · refine r_iconst C dX1_burnForBeat_50 ?_
      refine rr_put (j := 1) C flX1_35 dX1_burnForBeat_51 hk (by decide) rfl rfl (gI_z (by omega)) (gI_f (by omega)) ?_
      refine r_aload_n C dX1_burnForBeat_54 rfl rfl ?_
      refine rr_get C flX1_35 dX1_burnForBeat_55 hk rfl ?_
      simp only [up_ap, Int.reduceEq, reduceIte]
      refine r_if_eq (tgt := 76) C dX1_burnForBeat_58 (by decide) (by omega) (fun h58 => ?_) (fun h58 => ?_)
      · first
        | exact absurd h58 (by decide)
        | exact r_vretD C dX1_burnForBeat_76 (by unfold burnR; first | rw [if_neg (by omega), if_pos (by omega)] | rw [if_neg (by omega), if_neg (by omega)])
      · first
        | exact absurd h58 (by decide)
        | refine r_aload_n C dX1_burnForBeat_61 rfl rfl ?_
          refine r_bipush C dX1_burnForBeat_62 (by decide) ?_
          refine r_aload_n C dX1_burnForBeat_64 rfl rfl ?_
          refine rr_get C flX1_38 dX1_burnForBeat_65 hk rfl ?_
          simp only [up_ap, Int.reduceEq, reduceIte]
          refine r_iconst C dX1_burnForBeat_68 ?_
          refine r_iadd C dX1_burnForBeat_69 ?_
          refine r_cS C cwX1_64 (c_J9_min_7cf53 (by omega) (by omega)) dX1_burnForBeat_70 rfl rfl rfl (Nat.le_of_ble_eq_true rfl) ⟨Nat.le_of_ble_eq_true rfl, Nat.le_of_ble_eq_true rfl⟩ ⟨Nat.le_of_ble_eq_true rfl, Nat.le_of_ble_eq_true rfl⟩ ?_
          refine rr_put (j := 2) C flX1_38 dX1_burnForBeat_73 hk (by decide) rfl rfl rfl rfl ?_
          exact r_vretD C dX1_burnForBeat_76 (by unfold burnR; first | rw [if_neg (by omega), if_pos (by omega)] | rw [if_neg (by omega), if_neg (by omega)])
    · refine r_iconst C dX1_burnForBeat_46 ?_
      refine r_goto (tgt := 51) C dX1_burnForBeat_47 (by decide) ?_
      refine rr_put (j := 1) C flX1_35 dX1_burnForBeat_51 hk (by decide) rfl rfl (gI_z (by omega)) (gI_f (by omega)) ?_
      refine r_aload_n C dX1_burnForBeat_54 rfl rfl ?_
      refine rr_get C flX1_35 dX1_burnForBeat_55 hk rfl ?_
      simp only [up_ap, Int.reduceEq, reduceIte]
      refine r_if_eq (tgt := 76) C dX1_burnForBeat_58 (by decide) (by omega) (fun h58 => ?_) (fun h58 => ?_)
      · first
        | exact absurd h58 (by decide)
        | exact r_vretD C dX1_burnForBeat_76 (by unfold burnR; first | rw [if_neg (by omega), if_pos (by omega)] | rw [if_neg (by omega), if_neg (by omega)])
      · first
        | exact absurd h58 (by decide)
        | refine r_aload_n C dX1_burnForBeat_61 rfl rfl ?_
          refine r_bipush C dX1_burnForBeat_62 (by decide) ?_
          refine r_aload_n C dX1_burnForBeat_64 rfl rfl ?_
          refine rr_get C flX1_38 dX1_burnForBeat_65 hk rfl ?_
          simp only [up_ap, Int.reduceEq, reduceIte]
          refine r_iconst C dX1_burnForBeat_68 ?_
          refine r_iadd C dX1_burnForBeat_69 ?_
          refine r_cS C cwX1_64 (c_J9_min_7cf53 (by omega) (by omega)) dX1_burnForBeat_70 rfl rfl rfl (Nat.le_of_ble_eq_true rfl) ⟨Nat.le_of_ble_eq_true rfl, Nat.le_of_ble_eq_true rfl⟩ ⟨Nat.le_of_ble_eq_true rfl, Nat.le_of_ble_eq_true rfl⟩ ?_
          refine rr_put (j := 2) C flX1_38 dX1_burnForBeat_73 hk (by decide) rfl rfl rfl rfl ?_
          exact r_vretD C dX1_burnForBeat_76 (by unfold burnR; first | rw [if_neg (by omega), if_pos (by omega)] | rw [if_neg (by omega), if_neg (by omega)])
  · exact r_vretD C dX1_burnForBeat_7 (by unfold burnR; rw [if_pos (by omega)])

set_option maxRecDepth 100000 in
set_option maxHeartbeats 4000000 in
theorem c_X1_beatsUntrimmed {l : Launch} {D : va_G} {ty : Nat → ClassId} {ad : Int → Nat} {N : Int} {σ : Int → va_E} {k : Int} {ρ : Int → Int} (hk : 0 ≤ k ∧ k + 3 ≤ N) (hl : 0 ≤ ρ 0 ∧ ρ 0 ≤ 60) (hwk : 0 ≤ ρ 2 ∧ ρ 2 ≤ 9) : gM0 l yX1_beatsUntrimmed cX1_beatsUntrimmed 4 (some .int) 2 40 [.ref (ad k)] D ty ad N (rput ad ty σ k ρ) (some (.int (gI (untr 60 (ρ 0) (ρ 2))))) (rput ad ty σ k ρ) := by
  refine gMet_of [some (.ref (ad k)), none, none, none] (by decide +kernel) rfl (Nat.le_of_ble_eq_true rfl) rfl ?_
  intro X hl hD hty C hini
  subst hl hD hty
  refine r_aload_n C dX1_beatsUntrimmed_0 rfl rfl ?_
  refine rr_get C flX1_18 dX1_beatsUntrimmed_1 hk rfl ?_
  refine r_istore_n C dX1_beatsUntrimmed_4 rfl (Nat.le_of_ble_eq_true rfl) rfl ?_
  dsimp only [List.set]
  refine r_aload_n C dX1_beatsUntrimmed_5 rfl rfl ?_
  refine rr_get C flX1_38 dX1_beatsUntrimmed_6 hk rfl ?_
  refine r_istore_n C dX1_beatsUntrimmed_9 rfl (Nat.le_of_ble_eq_true rfl) rfl ?_
  dsimp only [List.set]
  refine r_iconst C dX1_beatsUntrimmed_10 ?_
  refine r_istore_n C dX1_beatsUntrimmed_11 rfl (Nat.le_of_ble_eq_true rfl) rfl ?_
  dsimp only [List.set]
  have lp : ∀ (n : Nat) (l t b : Int), (-3 ≤ l ∧ l ≤ 60) → (0 ≤ t ∧ t ≤ 9) → (0 ≤ b) → (b + n = 60) → (b + untr n l t = untr 60 (ρ 0) (ρ 2)) → V X 0 0 (gQ X (gD (some (.int (gI (untr 60 (ρ 0) (ρ 2))))) ad N (rput ad (gty X) σ k ρ)) 0 0) 12 [some (.ref (ad k)), some (.int (gI l)), some (.int (gI t)), some (.int (gI b))] [] ad N (rput ad (gty X) σ k ρ) := by
    intro n
    induction n with
    | zero =>
      intro l t b hl2 ht2 hb2 hbn e
      refine r_iload_n C dX1_beatsUntrimmed_12 rfl rfl ?_
      refine r_bipush C dX1_beatsUntrimmed_13 (by decide) ?_
      refine r_icmp_ge (tgt := 46) C dX1_beatsUntrimmed_15 (by decide) (by omega) (by omega) (fun h15 => ?_) (fun h15 => ?_)
      · refine r_bipush C dX1_beatsUntrimmed_46 (by decide) ?_
        exact r_iretD C dX1_beatsUntrimmed_48 (by rw [← e]; simp only [untr]; omega) rfl
      · exact absurd h15 (by omega)
    | succ n ih =>
      intro l t b hl2 ht2 hb2 hbn e
      have hr := lessR_rng t
      refine r_iload_n C dX1_beatsUntrimmed_12 rfl rfl ?_
      refine r_bipush C dX1_beatsUntrimmed_13 (by decide) ?_
      refine r_icmp_ge (tgt := 46) C dX1_beatsUntrimmed_15 (by decide) (by omega) (by omega) (fun h15 => ?_) (fun h15 => ?_)
      · exact absurd h15 (by omega)
      · refine r_iload_n C dX1_beatsUntrimmed_18 rfl rfl ?_
        refine r_if_gt (tgt := 24) C dX1_beatsUntrimmed_19 (by decide) (by omega) (fun h19 => ?_) (fun h19 => ?_)
        · refine r_iload_n C dX1_beatsUntrimmed_24 rfl rfl ?_
          refine r_iload_n C dX1_beatsUntrimmed_25 rfl rfl ?_
          refine r_cS C cwX1_55 (c_X1_burntInBeat (by omega)) dX1_beatsUntrimmed_26 rfl rfl rfl (Nat.le_of_ble_eq_true rfl) ⟨Nat.le_of_ble_eq_true rfl, Nat.le_of_ble_eq_true rfl⟩ ⟨Nat.le_of_ble_eq_true rfl, Nat.le_of_ble_eq_true rfl⟩ ?_
          refine r_isub C dX1_beatsUntrimmed_29 ?_
          refine r_istore_n C dX1_beatsUntrimmed_30 rfl (Nat.le_of_ble_eq_true rfl) rfl ?_
          dsimp only [List.set]
          refine r_bipush C dX1_beatsUntrimmed_31 (by decide) ?_
          refine r_iload_n C dX1_beatsUntrimmed_33 rfl rfl ?_
          refine r_iconst C dX1_beatsUntrimmed_34 ?_
          refine r_iadd C dX1_beatsUntrimmed_35 ?_
          refine r_cS C cwX1_64 (c_J9_min_7cf53 (by omega) (by omega)) dX1_beatsUntrimmed_36 rfl rfl rfl (Nat.le_of_ble_eq_true rfl) ⟨Nat.le_of_ble_eq_true rfl, Nat.le_of_ble_eq_true rfl⟩ ⟨Nat.le_of_ble_eq_true rfl, Nat.le_of_ble_eq_true rfl⟩ ?_
          refine r_istore_n C dX1_beatsUntrimmed_39 rfl (Nat.le_of_ble_eq_true rfl) rfl ?_
          dsimp only [List.set]
          refine r_iinc C dX1_beatsUntrimmed_40 rfl rfl ?_
          dsimp only [List.set]
          refine r_goto (tgt := 12) C dX1_beatsUntrimmed_43 (by decide) ?_
          exact ih _ _ (b + 1) (by omega) (by omega) (by omega) (by omega) (by rw [← e, untr, if_neg (by omega)]; omega)
        · refine r_iload_n C dX1_beatsUntrimmed_22 rfl rfl ?_
          exact r_iretD C dX1_beatsUntrimmed_23 (by rw [← e, untr, if_pos (by omega)]; omega) rfl
  exact lp 60 (ρ 0) (ρ 2) 0 (by omega) (by omega) (by omega) (by omega) (by omega)

set_option maxRecDepth 100000 in
set_option maxHeartbeats 4000000 in
theorem c_X1_beatsSaved {l : Launch} {D : va_G} {ty : Nat → ClassId} {ad : Int → Nat} {N : Int} {σ : Int → va_E} {k : Int} {ρ : Int → Int} (hk : 0 ≤ k ∧ k + 3 ≤ N) (hl : 0 ≤ ρ 0 ∧ ρ 0 ≤ 60) (hb : ρ 1 = 0 ∨ ρ 1 = 1) (hwk : 0 ≤ ρ 2 ∧ ρ 2 ≤ 9) : gM0 l yX1_beatsSaved cX1_beatsSaved 1 (some .int) 3 63 [.ref (ad k)] D ty ad N (rput ad ty σ k ρ) (some (.int (gI (savR ρ)))) (rput ad ty σ k ρ) := by
  refine gMet_of [some (.ref (ad k))] (by decide +kernel) rfl (Nat.le_of_ble_eq_true rfl) rfl ?_
  intro X hl hD hty C hini
  subst hl hD hty
  refine r_aload_n C dX1_beatsSaved_0 rfl rfl ?_
  refine rr_get C flX1_35 dX1_beatsSaved_1 hk rfl ?_
  refine r_if_eq (tgt := 19) C dX1_beatsSaved_4 (by decide) (by omega) (fun h4 => ?_) (fun h4 => ?_)
  · refine r_iconst C dX1_beatsSaved_19 ?_
    exact r_iretD C dX1_beatsSaved_20 (by unfold savR; first | rw [if_pos (by omega)] | rw [if_neg (by omega)]) rfl
  · refine r_aload_n C dX1_beatsSaved_7 rfl rfl ?_
    refine rr_get C flX1_18 dX1_beatsSaved_8 hk rfl ?_
    refine r_aload_n C dX1_beatsSaved_11 rfl rfl ?_
    refine r_cV C cwX1_67 (c_X1_beatsUntrimmed hk hl hwk) dX1_beatsSaved_12 rfl (by omega) rput_0 rfl rfl rfl (Nat.le_of_ble_eq_true rfl) ⟨Nat.le_of_ble_eq_true rfl, Nat.le_of_ble_eq_true rfl⟩ ⟨Nat.le_of_ble_eq_true rfl, Nat.le_of_ble_eq_true rfl⟩ ?_
    refine r_isub C dX1_beatsSaved_15 ?_
    refine r_goto (tgt := 20) C dX1_beatsSaved_16 (by decide) ?_
    exact r_iretD C dX1_beatsSaved_20 (by unfold savR; first | rw [if_pos (by omega)] | rw [if_neg (by omega)]) rfl

set_option maxRecDepth 100000 in
set_option maxHeartbeats 4000000 in
theorem c_X1_ageThings {l : Launch} {D : va_G} {ty : Nat → ClassId} {ad : Int → Nat} {N : Int} {σ : Int → va_E} {k set : Int} {ρ : Int → Int} (hk : 0 ≤ k ∧ k + 3 ≤ N) (hm : 0 ≤ ρ 6 ∧ ρ 6 ≤ 4) (hb : ρ 1 = 0 ∨ ρ 1 = 1) (hset : 1 ≤ set ∧ set ≤ 50) (hd0 : ∀ i, 0 ≤ i → i < 4 → 0 ≤ ρ (11 + i) ∧ ρ (11 + i) ≤ 100) : gM0 l yX1_ageThings cX1_ageThings 5 (some .int) 0 0 [.ref (ad k), .int (gI set)] D ty ad N (rput ad ty σ k ρ) (some (.int (gI (ρ 6 - ageQ ρ set)))) (rput ad ty σ k (ageR ρ set)) := by
  refine gMet_of [some (.ref (ad k)), some (.int (gI set)), none, none, none] (by decide +kernel) rfl (Nat.le_of_ble_eq_true rfl) rfl ?_
  intro X hl hD hty C hini
  subst hl hD hty
  refine r_iconst C dX1_ageThings_0 ?_
  refine r_istore_n C dX1_ageThings_1 rfl (Nat.le_of_ble_eq_true rfl) rfl ?_
  dsimp only [List.set]
  refine r_iconst C dX1_ageThings_2 ?_
  refine r_istore_n C dX1_ageThings_3 rfl (Nat.le_of_ble_eq_true rfl) rfl ?_
  dsimp only [List.set]
  have lp : ∀ (n : Nat) (p q : Int) (r : Int → Int), (0 ≤ q ∧ q ≤ p) → (p + n = ρ 6) → (r 1 = 0 ∨ r 1 = 1) → (r 6 = ρ 6) → (r 1 = ρ 1) → (∀ i, 0 ≤ i → i < 4 → 0 ≤ r (11 + i) ∧ r (11 + i) ≤ 100) → (ageL set n p q r = ageL set (ρ 6).toNat 0 0 ρ) → V X 0 0 (gQ X (gD (some (.int (gI (ρ 6 - ageQ ρ set)))) ad N (rput ad (gty X) σ k (ageR ρ set))) 0 0) 4 [some (.ref (ad k)), some (.int (gI set)), some (.int (gI q)), some (.int (gI p)), none] [] ad N (rput ad (gty X) σ k r) := by
    intro n
    induction n with
    | zero =>
      intro p q r hp hpn hb2 h6 hb1 hd2 e
      refine r_iload_n C dX1_ageThings_4 rfl rfl ?_
      refine r_aload_n C dX1_ageThings_5 rfl rfl ?_
      refine rr_get C flX1_32 dX1_ageThings_6 hk rfl ?_
      refine r_icmp_ge (tgt := 68) C dX1_ageThings_9 (by decide) (by omega) (by omega) (fun h9 => ?_) (fun h9 => ?_)
      · refine r_aload_n C dX1_ageThings_68 rfl rfl ?_
        refine rr_get C flX1_32 dX1_ageThings_69 hk rfl ?_
        refine r_iload_n C dX1_ageThings_72 rfl rfl ?_
        refine r_isub C dX1_ageThings_73 ?_
        refine r_istore_n C dX1_ageThings_74 rfl (Nat.le_of_ble_eq_true rfl) rfl ?_
        dsimp only [List.set]
        refine r_aload_n C dX1_ageThings_75 rfl rfl ?_
        refine r_iload_n C dX1_ageThings_76 rfl rfl ?_
        refine rr_put (j := 6) C flX1_32 dX1_ageThings_77 hk (by decide) rfl rfl rfl rfl ?_
        refine r_iload_n C dX1_ageThings_80 rfl rfl ?_
        exact r_iretD C dX1_ageThings_81 (by unfold ageQ; rw [← e, h6]; rfl) (by unfold ageR ageQ; rw [← e]; rfl)
      · exact absurd h9 (by omega)
    | succ n ih =>
      intro p q r hp hpn hb2 h6 hb1 hd2 e
      have hdp := hd2 p (by omega)
      refine r_iload_n C dX1_ageThings_4 rfl rfl ?_
      refine r_aload_n C dX1_ageThings_5 rfl rfl ?_
      refine rr_get C flX1_32 dX1_ageThings_6 hk rfl ?_
      refine r_icmp_ge (tgt := 68) C dX1_ageThings_9 (by decide) (by omega) (by omega) (fun h9 => ?_) (fun h9 => ?_)
      · exact absurd h9 (by omega)
      · refine r_aload_n C dX1_ageThings_12 rfl rfl ?_
        refine rr_get C flX1_35 dX1_ageThings_13 hk rfl ?_
        refine r_if_eq (tgt := 23) C dX1_ageThings_16 (by decide) (by omega) (fun h16 => ?_) (fun h16 => ?_)
        · have hdp := hdp (by omega)
          refine r_aload_n C dX1_ageThings_23 rfl rfl ?_
          refine rr_get C flX1_15 dX1_ageThings_24 hk rfl ?_
          refine r_iload_n C dX1_ageThings_27 rfl rfl ?_
          first | refine rr_kld C dX1_ageThings_28 hk (by omega) ?_ | refine rr_dld C dX1_ageThings_28 hk (by omega) ?_
          refine r_iconst C dX1_ageThings_29 ?_
          refine r_iadd C dX1_ageThings_30 ?_
          refine r_istore C dX1_ageThings_31 (Nat.le_of_ble_eq_true rfl) rfl ?_
          dsimp only [List.set]
          refine r_iload C dX1_ageThings_33 rfl ?_
          refine r_iload_n C dX1_ageThings_35 rfl rfl ?_
          refine r_icmp_ge (tgt := 62) C dX1_ageThings_36 (by decide) (by omega) (by omega) (fun h36 => ?_) (fun h36 => ?_)
          · refine r_iinc C dX1_ageThings_62 rfl rfl ?_
            dsimp only [List.set]
            refine r_goto (tgt := 4) C dX1_ageThings_65 (by decide) ?_
            first
            | (refine V_sub (L' := [some (.ref (ad k)), some (.int (gI set)), some (.int (gI (q + 1))), some (.int (gI (p + 1))), none]) rfl (fun i v hv => by match i, hv with | 0, hv => exact hv | 1, hv => exact hv | 2, hv => exact hv | 3, hv => exact hv | 4, hv => simp at hv | i + 5, hv => simp at hv) ?_; exact ih _ (q + 1) _ (by omega) (by omega) (by rw [up_n (by omega), up_n (by omega)]; exact hb2) (by rw [up_n (by omega), up_n (by omega)]; exact h6) (by rw [up_n (by omega), up_n (by omega)]; exact hb1) (fun i h1 h2 => if hi : i = q then (by rw [hi, up_s]; omega) else (by rw [up_n (by omega), up_n (by omega)]; exact hd2 i h1 h2)) ((show _ = ageL set (n + 1) p q r by simp only [ageL, h16, h36, Int.reduceEq, reduceIte]).trans e))
            | (refine V_sub (L' := [some (.ref (ad k)), some (.int (gI set)), some (.int (gI q)), some (.int (gI (p + 1))), none]) rfl (fun i v hv => by match i, hv with | 0, hv => exact hv | 1, hv => exact hv | 2, hv => exact hv | 3, hv => exact hv | 4, hv => simp at hv | i + 5, hv => simp at hv) ?_; exact ih _ q _ (by omega) (by omega) hb2 h6 hb1 hd2 ((show _ = ageL set (n + 1) p q r by simp only [ageL, h16, Int.not_lt.mpr h36, reduceIte]).trans e))
          · refine r_aload_n C dX1_ageThings_39 rfl rfl ?_
            refine rr_get C flX1_9 dX1_ageThings_40 hk rfl ?_
            refine r_iload_n C dX1_ageThings_43 rfl rfl ?_
            refine r_aload_n C dX1_ageThings_44 rfl rfl ?_
            refine rr_get C flX1_9 dX1_ageThings_45 hk rfl ?_
            refine r_iload_n C dX1_ageThings_48 rfl rfl ?_
            first | refine rr_kld C dX1_ageThings_49 hk (by omega) ?_ | refine rr_dld C dX1_ageThings_49 hk (by omega) ?_
            first | refine rr_kst C dX1_ageThings_50 hk (by omega) ?_ | refine rr_dst C dX1_ageThings_50 hk (by omega) ?_
            refine r_aload_n C dX1_ageThings_51 rfl rfl ?_
            refine rr_get C flX1_15 dX1_ageThings_52 hk rfl ?_
            refine r_iload_n C dX1_ageThings_55 rfl rfl ?_
            refine r_iload C dX1_ageThings_56 rfl ?_
            first | refine rr_kst C dX1_ageThings_58 hk (by omega) ?_ | refine rr_dst C dX1_ageThings_58 hk (by omega) ?_
            refine r_iinc C dX1_ageThings_59 rfl rfl ?_
            dsimp only [List.set]
            refine r_iinc C dX1_ageThings_62 rfl rfl ?_
            dsimp only [List.set]
            refine r_goto (tgt := 4) C dX1_ageThings_65 (by decide) ?_
            first
            | (refine V_sub (L' := [some (.ref (ad k)), some (.int (gI set)), some (.int (gI (q + 1))), some (.int (gI (p + 1))), none]) rfl (fun i v hv => by match i, hv with | 0, hv => exact hv | 1, hv => exact hv | 2, hv => exact hv | 3, hv => exact hv | 4, hv => simp at hv | i + 5, hv => simp at hv) ?_; exact ih _ (q + 1) _ (by omega) (by omega) (by rw [up_n (by omega), up_n (by omega)]; exact hb2) (by rw [up_n (by omega), up_n (by omega)]; exact h6) (by rw [up_n (by omega), up_n (by omega)]; exact hb1) (fun i h1 h2 => if hi : i = q then (by rw [hi, up_s]; omega) else (by rw [up_n (by omega), up_n (by omega)]; exact hd2 i h1 h2)) ((show _ = ageL set (n + 1) p q r by simp only [ageL, h16, h36, Int.reduceEq, reduceIte]).trans e))
            | (refine V_sub (L' := [some (.ref (ad k)), some (.int (gI set)), some (.int (gI q)), some (.int (gI (p + 1))), none]) rfl (fun i v hv => by match i, hv with | 0, hv => exact hv | 1, hv => exact hv | 2, hv => exact hv | 3, hv => exact hv | 4, hv => simp at hv | i + 5, hv => simp at hv) ?_; exact ih _ q _ (by omega) (by omega) hb2 h6 hb1 hd2 ((show _ = ageL set (n + 1) p q r by simp only [ageL, h16, Int.not_lt.mpr h36, reduceIte]).trans e))
        · have hdp := hdp (by omega)
          refine r_iconst C dX1_ageThings_19 ?_
          refine r_goto (tgt := 31) C dX1_ageThings_20 (by decide) ?_
          refine r_istore C dX1_ageThings_31 (Nat.le_of_ble_eq_true rfl) rfl ?_
          dsimp only [List.set]
          refine r_iload C dX1_ageThings_33 rfl ?_
          refine r_iload_n C dX1_ageThings_35 rfl rfl ?_
          refine r_icmp_ge (tgt := 62) C dX1_ageThings_36 (by decide) (by omega) (by omega) (fun h36 => ?_) (fun h36 => ?_)
          · refine r_iinc C dX1_ageThings_62 rfl rfl ?_
            dsimp only [List.set]
            refine r_goto (tgt := 4) C dX1_ageThings_65 (by decide) ?_
            first
            | (refine V_sub (L' := [some (.ref (ad k)), some (.int (gI set)), some (.int (gI (q + 1))), some (.int (gI (p + 1))), none]) rfl (fun i v hv => by match i, hv with | 0, hv => exact hv | 1, hv => exact hv | 2, hv => exact hv | 3, hv => exact hv | 4, hv => simp at hv | i + 5, hv => simp at hv) ?_; exact ih _ (q + 1) _ (by omega) (by omega) (by rw [up_n (by omega), up_n (by omega)]; exact hb2) (by rw [up_n (by omega), up_n (by omega)]; exact h6) (by rw [up_n (by omega), up_n (by omega)]; exact hb1) (fun i h1 h2 => if hi : i = q then (by rw [hi, up_s]; omega) else (by rw [up_n (by omega), up_n (by omega)]; exact hd2 i h1 h2)) ((show _ = ageL set (n + 1) p q r by simp only [ageL, h16, h36, Int.reduceEq, reduceIte]).trans e))
            | (refine V_sub (L' := [some (.ref (ad k)), some (.int (gI set)), some (.int (gI q)), some (.int (gI (p + 1))), none]) rfl (fun i v hv => by match i, hv with | 0, hv => exact hv | 1, hv => exact hv | 2, hv => exact hv | 3, hv => exact hv | 4, hv => simp at hv | i + 5, hv => simp at hv) ?_; exact ih _ q _ (by omega) (by omega) hb2 h6 hb1 hd2 ((show _ = ageL set (n + 1) p q r by simp only [ageL, h16, Int.not_lt.mpr h36, reduceIte]).trans e))
          · refine r_aload_n C dX1_ageThings_39 rfl rfl ?_
            refine rr_get C flX1_9 dX1_ageThings_40 hk rfl ?_
            refine r_iload_n C dX1_ageThings_43 rfl rfl ?_
            refine r_aload_n C dX1_ageThings_44 rfl rfl ?_
            refine rr_get C flX1_9 dX1_ageThings_45 hk rfl ?_
            refine r_iload_n C dX1_ageThings_48 rfl rfl ?_
            first | refine rr_kld C dX1_ageThings_49 hk (by omega) ?_ | refine rr_dld C dX1_ageThings_49 hk (by omega) ?_
            first | refine rr_kst C dX1_ageThings_50 hk (by omega) ?_ | refine rr_dst C dX1_ageThings_50 hk (by omega) ?_
            refine r_aload_n C dX1_ageThings_51 rfl rfl ?_
            refine rr_get C flX1_15 dX1_ageThings_52 hk rfl ?_
            refine r_iload_n C dX1_ageThings_55 rfl rfl ?_
            refine r_iload C dX1_ageThings_56 rfl ?_
            first | refine rr_kst C dX1_ageThings_58 hk (by omega) ?_ | refine rr_dst C dX1_ageThings_58 hk (by omega) ?_
            refine r_iinc C dX1_ageThings_59 rfl rfl ?_
            dsimp only [List.set]
            refine r_iinc C dX1_ageThings_62 rfl rfl ?_
            dsimp only [List.set]
            refine r_goto (tgt := 4) C dX1_ageThings_65 (by decide) ?_
            first
            | (refine V_sub (L' := [some (.ref (ad k)), some (.int (gI set)), some (.int (gI (q + 1))), some (.int (gI (p + 1))), none]) rfl (fun i v hv => by match i, hv with | 0, hv => exact hv | 1, hv => exact hv | 2, hv => exact hv | 3, hv => exact hv | 4, hv => simp at hv | i + 5, hv => simp at hv) ?_; exact ih _ (q + 1) _ (by omega) (by omega) (by rw [up_n (by omega), up_n (by omega)]; exact hb2) (by rw [up_n (by omega), up_n (by omega)]; exact h6) (by rw [up_n (by omega), up_n (by omega)]; exact hb1) (fun i h1 h2 => if hi : i = q then (by rw [hi, up_s]; omega) else (by rw [up_n (by omega), up_n (by omega)]; exact hd2 i h1 h2)) ((show _ = ageL set (n + 1) p q r by simp only [ageL, h16, h36, Int.reduceEq, reduceIte]).trans e))
            | (refine V_sub (L' := [some (.ref (ad k)), some (.int (gI set)), some (.int (gI q)), some (.int (gI (p + 1))), none]) rfl (fun i v hv => by match i, hv with | 0, hv => exact hv | 1, hv => exact hv | 2, hv => exact hv | 3, hv => exact hv | 4, hv => simp at hv | i + 5, hv => simp at hv) ?_; exact ih _ q _ (by omega) (by omega) hb2 h6 hb1 hd2 ((show _ = ageL set (n + 1) p q r by simp only [ageL, h16, Int.not_lt.mpr h36, reduceIte]).trans e))
  exact lp (ρ 6).toNat 0 0 ρ (by omega) (by omega) hb rfl rfl hd0 rfl

set_option maxRecDepth 100000 in
set_option maxHeartbeats 4000000 in
theorem c_X1_beatsToFirstForgotten {l : Launch} {D : va_G} {ty : Nat → ClassId} {ad : Int → Nat} {N : Int} {σ : Int → va_E} {k bl set : Int} {ρ : Int → Int} (hk : 0 ≤ k ∧ k + 3 ≤ N) (hm : 0 ≤ ρ 6 ∧ ρ 6 ≤ 4) (hbl : 0 ≤ bl ∧ bl ≤ 100) (hset : 1 ≤ set ∧ set ≤ 50) (hd0 : ∀ i, 0 ≤ i → i < 4 → 0 ≤ ρ (11 + i) ∧ ρ (11 + i) ≤ 100) : gM0 l yX1_beatsToFirstForgotten cX1_beatsToFirstForgotten 5 (some .int) 1 21 [.ref (ad k), .int (gI bl), .int (gI set)] D ty ad N (rput ad ty σ k ρ) (some (.int (gI (ffR ρ bl set)))) (rput ad ty σ k ρ) := by
  refine gMet_of [some (.ref (ad k)), some (.int (gI bl)), some (.int (gI set)), none, none] (by decide +kernel) rfl (Nat.le_of_ble_eq_true rfl) rfl ?_
  intro X hl hD hty C hini
  subst hl hD hty
  refine r_iload_n C dX1_beatsToFirstForgotten_0 rfl rfl ?_
  refine r_iconst C dX1_beatsToFirstForgotten_1 ?_
  refine r_icmp_le (tgt := 11) C dX1_beatsToFirstForgotten_2 (by decide) (by omega) (by omega) (fun h2 => ?_) (fun h2 => ?_)
  · refine r_iconst C dX1_beatsToFirstForgotten_11 ?_
    refine r_istore_n C dX1_beatsToFirstForgotten_12 rfl (Nat.le_of_ble_eq_true rfl) rfl ?_
    dsimp only [List.set]
    refine r_iconst C dX1_beatsToFirstForgotten_13 ?_
    refine r_istore C dX1_beatsToFirstForgotten_14 (Nat.le_of_ble_eq_true rfl) rfl ?_
    dsimp only [List.set]
    have lp : ∀ (n : Nat) (p a : Int), (0 ≤ p) → (p + n = ρ 6) → (0 ≤ a ∧ a ≤ 100) → (maxD ρ n p a = maxD ρ (ρ 6).toNat 0 0) → V X 0 0 (gQ X (gD (some (.int (gI (ffR ρ bl set)))) ad N (rput ad (gty X) σ k ρ)) 0 0) 16 [some (.ref (ad k)), some (.int (gI bl)), some (.int (gI set)), some (.int (gI a)), some (.int (gI p))] [] ad N (rput ad (gty X) σ k ρ) := by
      intro n
      induction n with
      | zero =>
        intro p a hp hpn ha e
        refine r_iload C dX1_beatsToFirstForgotten_16 rfl ?_
        refine r_aload_n C dX1_beatsToFirstForgotten_18 rfl rfl ?_
        refine rr_get C flX1_32 dX1_beatsToFirstForgotten_19 hk rfl ?_
        refine r_icmp_ge (tgt := 43) C dX1_beatsToFirstForgotten_22 (by decide) (by omega) (by omega) (fun h22 => ?_) (fun h22 => ?_)
        · refine r_iconst C dX1_beatsToFirstForgotten_43 ?_
          refine r_iload_n C dX1_beatsToFirstForgotten_44 rfl rfl ?_
          refine r_iload_n C dX1_beatsToFirstForgotten_45 rfl rfl ?_
          refine r_isub C dX1_beatsToFirstForgotten_46 ?_
          refine r_cS C cwX1_58 (c_J9_max_7cf53 (by omega) (by omega)) dX1_beatsToFirstForgotten_47 rfl rfl rfl (Nat.le_of_ble_eq_true rfl) ⟨Nat.le_of_ble_eq_true rfl, Nat.le_of_ble_eq_true rfl⟩ ⟨Nat.le_of_ble_eq_true rfl, Nat.le_of_ble_eq_true rfl⟩ ?_
          exact r_iretD C dX1_beatsToFirstForgotten_50 (by unfold ffR; rw [if_neg (by omega), ← e]; rfl) rfl
        · exact absurd h22 (by omega)
      | succ n ih =>
        intro p a hp hpn ha e
        have hdp := hd0 p (by omega) (by omega)
        refine r_iload C dX1_beatsToFirstForgotten_16 rfl ?_
        refine r_aload_n C dX1_beatsToFirstForgotten_18 rfl rfl ?_
        refine rr_get C flX1_32 dX1_beatsToFirstForgotten_19 hk rfl ?_
        refine r_icmp_ge (tgt := 43) C dX1_beatsToFirstForgotten_22 (by decide) (by omega) (by omega) (fun h22 => ?_) (fun h22 => ?_)
        · exact absurd h22 (by omega)
        · refine r_iload_n C dX1_beatsToFirstForgotten_25 rfl rfl ?_
          refine r_aload_n C dX1_beatsToFirstForgotten_26 rfl rfl ?_
          refine rr_get C flX1_15 dX1_beatsToFirstForgotten_27 hk rfl ?_
          refine r_iload C dX1_beatsToFirstForgotten_30 rfl ?_
          first | refine rr_kld C dX1_beatsToFirstForgotten_32 hk (by omega) ?_ | refine rr_dld C dX1_beatsToFirstForgotten_32 hk (by omega) ?_
          refine r_cS C cwX1_58 (c_J9_max_7cf53 (by omega) (by omega)) dX1_beatsToFirstForgotten_33 rfl rfl rfl (Nat.le_of_ble_eq_true rfl) ⟨Nat.le_of_ble_eq_true rfl, Nat.le_of_ble_eq_true rfl⟩ ⟨Nat.le_of_ble_eq_true rfl, Nat.le_of_ble_eq_true rfl⟩ ?_
          refine r_istore_n C dX1_beatsToFirstForgotten_36 rfl (Nat.le_of_ble_eq_true rfl) rfl ?_
          dsimp only [List.set]
          refine r_iinc C dX1_beatsToFirstForgotten_37 rfl rfl ?_
          dsimp only [List.set]
          refine r_goto (tgt := 16) C dX1_beatsToFirstForgotten_40 (by decide) ?_
          exact ih _ _ (by omega) (by omega) (by omega) e
    exact lp (ρ 6).toNat 0 0 (by omega) (by omega) (by omega) rfl
  · refine r_iload_n C dX1_beatsToFirstForgotten_5 rfl rfl ?_
    refine r_iload_n C dX1_beatsToFirstForgotten_6 rfl rfl ?_
    refine r_iadd C dX1_beatsToFirstForgotten_7 ?_
    refine r_iconst C dX1_beatsToFirstForgotten_8 ?_
    refine r_isub C dX1_beatsToFirstForgotten_9 ?_
    exact r_iretD C dX1_beatsToFirstForgotten_10 (by unfold ffR; rw [if_pos (by omega)]) rfl
