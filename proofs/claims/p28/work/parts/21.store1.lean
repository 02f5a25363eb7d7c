/-! Store: what its methods answer, in words of s -/

/-- a sum over n places from p on -/
def sumF (f : Int → Int) : Nat → Int → Int
  | 0, _ => 0
  | n + 1, p => f p + sumF f n (p + 1)
theorem sumF_rng {f : Int → Int} {m : Int} : ∀ (n : Nat) (p : Int), (∀ i, p ≤ i → i < p + n → 0 ≤ f i ∧ f i ≤ m) → 0 ≤ sumF f n p ∧ sumF f n p ≤ m * n
  | 0, p, _ => by simp [sumF]
  | n + 1, p, h => by
    have h1 := h p (Int.le_refl _) (by omega)
    have h2 := sumF_rng n (p + 1) (fun i a b => h i (by omega) (by omega))
    simp only [sumF]
    have e : m * ((n + 1 : Nat) : Int) = m * n + m := by rw [Int.natCast_add, Int.mul_add]; simp
    rw [e]
    omega
theorem sumF_cong {f g : Int → Int} : ∀ (n : Nat) (p : Int), (∀ i, p ≤ i → i < p + n → f i = g i) → sumF f n p = sumF g n p
  | 0, _, _ => rfl
  | n + 1, p, h => by
    simp only [sumF]
    rw [h p (Int.le_refl _) (by omega), sumF_cong n (p + 1) (fun i a b => h i (by omega) (by omega))]
/-- how many candles burn -/
def cb (s : Int → Int) : Int := sumF (fun r => rm s r 1) 6 0
def cbF (s : Int → Int) (first count : Int) : Int := sumF (fun p => rm s ((first + p) % 6) 1) count.toNat 0
def thg (s : Int → Int) : Int := sumF (fun r => rm s r 6) 6 0
theorem cb_rng {s : Int → Int} (hs : okS s) : 0 ≤ cb s ∧ cb s ≤ 6 := by
  have := sumF_rng (f := fun r => rm s r 1) (m := 1) 6 0 (fun i h1 h2 => by have := (hs.rm (r := i) (by omega)).bur; show 0 ≤ rm s i 1 ∧ rm s i 1 ≤ 1; omega)
  unfold cb; omega
theorem thg_rng {s : Int → Int} (hs : okS s) : 0 ≤ thg s ∧ thg s ≤ 24 := by
  have := sumF_rng (f := fun r => rm s r 6) (m := 4) 6 0 (fun i h1 h2 => by have := (hs.rm (r := i) (by omega)).many; show 0 ≤ rm s i 6 ∧ rm s i 6 ≤ 4; omega)
  unfold thg; omega
def rofN (s : Int → Int) (key : Int) : Nat → Int → Int
  | 0, _ => -1
  | n + 1, r => if plc (rm s r) key = -1 then rofN s key n (r + 1) else r
/-- the room of a key -/
def rof (s : Int → Int) (key : Int) : Int := rofN s key 6 0
theorem rofN_rng (s : Int → Int) (key : Int) : ∀ (n : Nat) (r : Int), rofN s key n r = -1 ∨ (r ≤ rofN s key n r ∧ rofN s key n r < r + n ∧ plc (rm s (rofN s key n r)) key ≠ -1)
  | 0, r => Or.inl rfl
  | n + 1, r => by
    unfold rofN
    split
    · rcases rofN_rng s key n (r + 1) with h | h
      · exact Or.inl h
      · right; exact ⟨by omega, by omega, h.2.2⟩
    · right; rename_i h; exact ⟨by omega, by omega, h⟩
theorem rof_rng (s : Int → Int) (key : Int) : rof s key = -1 ∨ (0 ≤ rof s key ∧ rof s key < 6 ∧ plc (rm s (rof s key)) key ≠ -1) := by
  have := rofN_rng s key 6 0
  unfold rof
  omega
theorem plc_rng {s : Int → Int} (hs : okS s) {r key : Int} (hr : 0 ≤ r ∧ r < 6) : plc (rm s r) key = -1 ∨ (0 ≤ plc (rm s r) key ∧ plc (rm s r) key < rm s r 6) := by
  have h := plcR_rng (rm s r) key (rm s r 6).toNat 0
  have := (hs.rm hr).many
  unfold plc
  omega
def thn (s : Int → Int) (key w : Int) : Int := if rof s key = -1 then -1 else if w = 0 then rof s key else if w = 1 then darkR (rm s (rof s key)) (plc (rm s (rof s key)) key) else plc (rm s (rof s key)) key
abbrev joined (s : Int → Int) (a o : Int) : Prop := (o = (a + 1) % 6 ∧ rm s a 5 = 1) ∨ (a = (o + 1) % 6 ∧ rm s o 5 = 1)
abbrev mayL (s : Int → Int) (r f : Int) : Prop := rm s r 1 = 0 ∧ 0 < rm s r 0 ∧ rm s f 1 = 1 ∧ joined s r f
abbrev mayS (s : Int → Int) (r : Int) : Prop := cb s = 0 ∧ 0 < rm s r 0
abbrev mayK (s : Int → Int) (r key : Int) : Prop := rof s key = -1 ∧ rm s r 6 < 4
def light1 (s : Int → Int) (r : Int) : Int → Int := up s (9 + 15 * r + 1) 1
def renew (s : Int → Int) (r : Int) : Int → Int := up (srm s r (newR (rm s r))) 1 (s 1 - 1)
def keepS (s : Int → Int) (r key : Int) : Int → Int := srm s r (addR (rm s r) key)
def blN (s : Int → Int) : Nat → Int → Int
  | 0, p => p
  | n + 1, p => if rm s ((s 7 + p) % 6) 3 = 1 then p else if rm s ((s 7 + p) % 6) 5 = 0 then p + 1 else blN s n (p + 1)
/-- how many rooms a draught blows out -/
def blown (s : Int → Int) : Int := blN s (s 8).toNat 0
theorem blN_rng (s : Int → Int) : ∀ (n : Nat) (p : Int), p ≤ blN s n p ∧ blN s n p ≤ p + n
  | 0, p => by unfold blN; omega
  | n + 1, p => by
    have := blN_rng s n (p + 1)
    unfold blN
    split
    · omega
    · split <;> omega
theorem blown_rng {s : Int → Int} (hs : okS s) : 0 ≤ blown s ∧ blown s ≤ s 8 ∧ blown s ≤ 6 := by
  have h := blN_rng s (s 8).toNat 0
  have := hs.dra
  unfold blown
  omega

set_option maxRecDepth 100000 in
set_option maxHeartbeats 4000000 in
theorem c_X3_roomAt {l : Launch} {D : va_G} {ty : Nat → ClassId} {ad : Int → Nat} {N : Int} {σ : Int → va_E} {b : Int} {s : Int → Int} {z : Int} (hb : 0 ≤ b ∧ b + 20 ≤ N) (hz : -2147483648 ≤ z ∧ z < 2147483648) : gM0 l yX3_roomAt cX3_roomAt 2 (some (.object "CandleRooms$Room")) 1 22 [.ref (ad b), .int (gI z)] D ty ad N (sput ad ty σ b s) (some (.ref (ad (b + 2 + 3 * (z % 6))))) (sput ad ty σ b s) := by
  refine gMet_of [some (.ref (ad b)), some (.int (gI z))] (by decide +kernel) rfl (Nat.le_of_ble_eq_true rfl) rfl ?_
  intro X hl hD hty C hini
  subst hl hD hty
  refine r_aload_n C dX3_roomAt_0 rfl rfl ?_
  refine ss_get C flX3_11 dX3_roomAt_1 hb rfl ?_
  refine r_iload_n C dX3_roomAt_4 rfl rfl ?_
  refine r_bipush C dX3_roomAt_5 (by decide) ?_
  refine r_cS C cwX3_50 (c_J9_floorMod_7cf53 (by omega) (by omega)) dX3_roomAt_7 rfl rfl rfl (Nat.le_of_ble_eq_true rfl) ⟨Nat.le_of_ble_eq_true rfl, Nat.le_of_ble_eq_true rfl⟩ ⟨Nat.le_of_ble_eq_true rfl, Nat.le_of_ble_eq_true rfl⟩ ?_
  refine ss_room C dX3_roomAt_10 hb (by omega) ?_
  exact r_aretD C dX3_roomAt_11 rfl rfl

theorem c_X3_roomAt0 {l : Launch} {D : va_G} {ty : Nat → ClassId} {ad : Int → Nat} {N : Int} {σ : Int → va_E} {b : Int} {s : Int → Int} {z : Int} (hb : 0 ≤ b ∧ b + 20 ≤ N) (hz : 0 ≤ z ∧ z < 6) : gM0 l yX3_roomAt cX3_roomAt 2 (some (.object "CandleRooms$Room")) 1 22 [.ref (ad b), .int (gI z)] D ty ad N (sput ad ty σ b s) (some (.ref (ad (b + 2 + 3 * z)))) (sput ad ty σ b s) := by
  have h := c_X3_roomAt (l := l) (D := D) (ty := ty) (ad := ad) (N := N) (σ := σ) (s := s) (z := z) hb (by omega)
  rw [Int.emod_eq_of_lt hz.1 hz.2] at h
  exact h
set_option maxRecDepth 100000 in
set_option maxHeartbeats 4000000 in
theorem c_X3_candlesBurning {l : Launch} {D : va_G} {ty : Nat → ClassId} {ad : Int → Nat} {N : Int} {σ : Int → va_E} {b : Int} {s : Int → Int} (hb : 0 ≤ b ∧ b + 20 ≤ N) (hs : okS s) : gM0 l yX3_candlesBurning cX3_candlesBurning 3 (some .int) 1 20 [.ref (ad b)] D ty ad N (sput ad ty σ b s) (some (.int (gI (cb s)))) (sput ad ty σ b s) := by
  refine gMet_of [some (.ref (ad b)), none, none] (by decide +kernel) rfl (Nat.le_of_ble_eq_true rfl) rfl ?_
  intro X hl hD hty C hini
  subst hl hD hty
  refine r_iconst C dX3_candlesBurning_0 ?_
  refine r_istore_n C dX3_candlesBurning_1 rfl (Nat.le_of_ble_eq_true rfl) rfl ?_
  dsimp only [List.set]
  refine r_iconst C dX3_candlesBurning_2 ?_
  refine r_istore_n C dX3_candlesBurning_3 rfl (Nat.le_of_ble_eq_true rfl) rfl ?_
  dsimp only [List.set]
  have lp : ∀ (n : Nat) (p a : Int), (0 ≤ p) → (p + n = 6) → (a + sumF (fun r => rm s r 1) n p = cb s) → V X 0 0 (gQ X (gD (some (.int (gI (cb s)))) ad N (sput ad (gty X) σ b s)) 0 0) 4 [some (.ref (ad b)), some (.int (gI a)), some (.int (gI p))] [] ad N (sput ad (gty X) σ b s) := by
    intro n
    induction n with
    | zero =>
      intro p a hp hpn e
      refine r_iload_n C dX3_candlesBurning_4 rfl rfl ?_
      refine r_bipush C dX3_candlesBurning_5 (by decide) ?_
      refine r_icmp_ge (tgt := 31) C dX3_candlesBurning_7 (by decide) (by omega) (by omega) (fun h7 => ?_) (fun h7 => ?_)
      · refine r_iload_n C dX3_candlesBurning_31 rfl rfl ?_
        exact r_iretD C dX3_candlesBurning_32 (by rw [← e]; simp only [sumF]; omega) rfl
      · exact absurd h7 (by omega)
    | succ n ih =>
      intro p a hp hpn e
      have hq := (hs.rm (r := p) (by omega)).bur
      refine r_iload_n C dX3_candlesBurning_4 rfl rfl ?_
      refine r_bipush C dX3_candlesBurning_5 (by decide) ?_
      refine r_icmp_ge (tgt := 31) C dX3_candlesBurning_7 (by decide) (by omega) (by omega) (fun h7 => ?_) (fun h7 => ?_)
      · exact absurd h7 (by omega)
      · refine r_iload_n C dX3_candlesBurning_10 rfl rfl ?_
        refine r_aload_n C dX3_candlesBurning_11 rfl rfl ?_
        refine ss_get C flX3_11 dX3_candlesBurning_12 hb rfl ?_
        refine r_iload_n C dX3_candlesBurning_15 rfl rfl ?_
        refine ss_room C dX3_candlesBurning_16 hb (by omega) ?_
        refine sr_get C flX3_56 dX3_candlesBurning_17 hb (by omega) rfl ?_
        refine r_cSN C C.2.2.2.2.2.2.2.2.2.2.2.2.2 kasn (c_X4_asNumber (by omega)) dX3_candlesBurning_20 rfl rfl rfl (Nat.le_of_ble_eq_true rfl) ⟨Nat.le_of_ble_eq_true rfl, Nat.le_of_ble_eq_true rfl⟩ ⟨Nat.le_of_ble_eq_true rfl, Nat.le_of_ble_eq_true rfl⟩ ?_
        refine r_iadd C dX3_candlesBurning_23 ?_
        refine r_istore_n C dX3_candlesBurning_24 rfl (Nat.le_of_ble_eq_true rfl) rfl ?_
        dsimp only [List.set]
        refine r_iinc C dX3_candlesBurning_25 rfl rfl ?_
        dsimp only [List.set]
        refine r_goto (tgt := 4) C dX3_candlesBurning_28 (by decide) ?_
        exact ih _ _ (by omega) (by omega) (by rw [← e]; simp only [sumF]; omega)
  exact lp 6 0 0 (by omega) (by omega) (by unfold cb; omega)

set_option maxRecDepth 100000 in
set_option maxHeartbeats 4000000 in
theorem c_X3_candlesBurningFrom {l : Launch} {D : va_G} {ty : Nat → ClassId} {ad : Int → Nat} {N : Int} {σ : Int → va_E} {b : Int} {s : Int → Int} {first count : Int} (hb : 0 ≤ b ∧ b + 20 ≤ N) (hs : okS s) (hf : -1 ≤ first ∧ first < 6) (hc : 0 ≤ count ∧ count ≤ 6) : gM0 l yX3_candlesBurningFrom cX3_candlesBurningFrom 5 (some .int) 2 43 [.ref (ad b), .int (gI first), .int (gI count)] D ty ad N (sput ad ty σ b s) (some (.int (gI (cbF s first count)))) (sput ad ty σ b s) := by
  refine gMet_of [some (.ref (ad b)), some (.int (gI first)), some (.int (gI count)), none, none] (by decide +kernel) rfl (Nat.le_of_ble_eq_true rfl) rfl ?_
  intro X hl hD hty C hini
  subst hl hD hty
  refine r_iconst C dX3_candlesBurningFrom_0 ?_
  refine r_istore_n C dX3_candlesBurningFrom_1 rfl (Nat.le_of_ble_eq_true rfl) rfl ?_
  dsimp only [List.set]
  refine r_iconst C dX3_candlesBurningFrom_2 ?_
  refine r_istore C dX3_candlesBurningFrom_3 (Nat.le_of_ble_eq_true rfl) rfl ?_
  dsimp only [List.set]
  have lp : ∀ (n : Nat) (p a : Int), (0 ≤ p) → (p + n = count) → (a + sumF (fun p => rm s ((first + p) % 6) 1) n p = cbF s first count) → V X 0 0 (gQ X (gD (some (.int (gI (cbF s first count)))) ad N (sput ad (gty X) σ b s)) 0 0) 5 [some (.ref (ad b)), some (.int (gI first)), some (.int (gI count)), some (.int (gI a)), some (.int (gI p))] [] ad N (sput ad (gty X) σ b s) := by
    intro n
    induction n with
    | zero =>
      intro p a hp hpn e
      refine r_iload C dX3_candlesBurningFrom_5 rfl ?_
      refine r_iload_n C dX3_candlesBurningFrom_7 rfl rfl ?_
      refine r_icmp_ge (tgt := 34) C dX3_candlesBurningFrom_8 (by decide) (by omega) (by omega) (fun h8 => ?_) (fun h8 => ?_)
      · refine r_iload_n C dX3_candlesBurningFrom_34 rfl rfl ?_
        exact r_iretD C dX3_candlesBurningFrom_35 (by rw [← e]; simp only [sumF]; omega) rfl
      · exact absurd h8 (by omega)
    | succ n ih =>
      intro p a hp hpn e
      have hq := (hs.rm (r := (first + p) % 6) (by omega)).bur
      refine r_iload C dX3_candlesBurningFrom_5 rfl ?_
      refine r_iload_n C dX3_candlesBurningFrom_7 rfl rfl ?_
      refine r_icmp_ge (tgt := 34) C dX3_candlesBurningFrom_8 (by decide) (by omega) (by omega) (fun h8 => ?_) (fun h8 => ?_)
      · exact absurd h8 (by omega)
      · refine r_iload_n C dX3_candlesBurningFrom_11 rfl rfl ?_
        refine r_aload_n C dX3_candlesBurningFrom_12 rfl rfl ?_
        refine r_iload_n C dX3_candlesBurningFrom_13 rfl rfl ?_
        refine r_iload C dX3_candlesBurningFrom_14 rfl ?_
        refine r_iadd C dX3_candlesBurningFrom_16 ?_
        refine r_cV C cwX3_64 (c_X3_roomAt hb (by omega)) dX3_candlesBurningFrom_17 rfl (by omega) sput_0 rfl rfl rfl (Nat.le_of_ble_eq_true rfl) ⟨Nat.le_of_ble_eq_true rfl, Nat.le_of_ble_eq_true rfl⟩ ⟨Nat.le_of_ble_eq_true rfl, Nat.le_of_ble_eq_true rfl⟩ ?_
        refine sr_get C flX3_56 dX3_candlesBurningFrom_20 hb (by omega) rfl ?_
        refine r_cSN C C.2.2.2.2.2.2.2.2.2.2.2.2.2 kasn (c_X4_asNumber (by omega)) dX3_candlesBurningFrom_23 rfl rfl rfl (Nat.le_of_ble_eq_true rfl) ⟨Nat.le_of_ble_eq_true rfl, Nat.le_of_ble_eq_true rfl⟩ ⟨Nat.le_of_ble_eq_true rfl, Nat.le_of_ble_eq_true rfl⟩ ?_
        refine r_iadd C dX3_candlesBurningFrom_26 ?_
        refine r_istore_n C dX3_candlesBurningFrom_27 rfl (Nat.le_of_ble_eq_true rfl) rfl ?_
        dsimp only [List.set]
        refine r_iinc C dX3_candlesBurningFrom_28 rfl rfl ?_
        dsimp only [List.set]
        refine r_goto (tgt := 5) C dX3_candlesBurningFrom_31 (by decide) ?_
        exact ih _ _ (by omega) (by omega) (by rw [← e]; simp only [sumF]; omega)
  exact lp count.toNat 0 0 (by omega) (by omega) (by unfold cbF; omega)

set_option maxRecDepth 100000 in
set_option maxHeartbeats 4000000 in
theorem c_X3_thingsInAll {l : Launch} {D : va_G} {ty : Nat → ClassId} {ad : Int → Nat} {N : Int} {σ : Int → va_E} {b : Int} {s : Int → Int} (hb : 0 ≤ b ∧ b + 20 ≤ N) (hs : okS s) : gM0 l yX3_thingsInAll cX3_thingsInAll 3 (some .int) 0 0 [.ref (ad b)] D ty ad N (sput ad ty σ b s) (some (.int (gI (thg s)))) (sput ad ty σ b s) := by
  refine gMet_of [some (.ref (ad b)), none, none] (by decide +kernel) rfl (Nat.le_of_ble_eq_true rfl) rfl ?_
  intro X hl hD hty C hini
  subst hl hD hty
  refine r_iconst C dX3_thingsInAll_0 ?_
  refine r_istore_n C dX3_thingsInAll_1 rfl (Nat.le_of_ble_eq_true rfl) rfl ?_
  dsimp only [List.set]
  refine r_iconst C dX3_thingsInAll_2 ?_
  refine r_istore_n C dX3_thingsInAll_3 rfl (Nat.le_of_ble_eq_true rfl) rfl ?_
  dsimp only [List.set]
  have lp : ∀ (n : Nat) (p a : Int), (0 ≤ p) → (p + n = 6) → (a + sumF (fun r => rm s r 6) n p = thg s) → V X 0 0 (gQ X (gD (some (.int (gI (thg s)))) ad N (sput ad (gty X) σ b s)) 0 0) 4 [some (.ref (ad b)), some (.int (gI a)), some (.int (gI p))] [] ad N (sput ad (gty X) σ b s) := by
    intro n
    induction n with
    | zero =>
      intro p a hp hpn e
      refine r_iload_n C dX3_thingsInAll_4 rfl rfl ?_
      refine r_bipush C dX3_thingsInAll_5 (by decide) ?_
      refine r_icmp_ge (tgt := 28) C dX3_thingsInAll_7 (by decide) (by omega) (by omega) (fun h7 => ?_) (fun h7 => ?_)
      · refine r_iload_n C dX3_thingsInAll_28 rfl rfl ?_
        exact r_iretD C dX3_thingsInAll_29 (by rw [← e]; simp only [sumF]; omega) rfl
      · exact absurd h7 (by omega)
    | succ n ih =>
      intro p a hp hpn e
      refine r_iload_n C dX3_thingsInAll_4 rfl rfl ?_
      refine r_bipush C dX3_thingsInAll_5 (by decide) ?_
      refine r_icmp_ge (tgt := 28) C dX3_thingsInAll_7 (by decide) (by omega) (by omega) (fun h7 => ?_) (fun h7 => ?_)
      · exact absurd h7 (by omega)
      · refine r_iload_n C dX3_thingsInAll_10 rfl rfl ?_
        refine r_aload_n C dX3_thingsInAll_11 rfl rfl ?_
        refine ss_get C flX3_11 dX3_thingsInAll_12 hb rfl ?_
        refine r_iload_n C dX3_thingsInAll_15 rfl rfl ?_
        refine ss_room C dX3_thingsInAll_16 hb (by omega) ?_
        refine sr_get C flX3_68 dX3_thingsInAll_17 hb (by omega) rfl ?_
        refine r_iadd C dX3_thingsInAll_20 ?_
        refine r_istore_n C dX3_thingsInAll_21 rfl (Nat.le_of_ble_eq_true rfl) rfl ?_
        dsimp only [List.set]
        refine r_iinc C dX3_thingsInAll_22 rfl rfl ?_
        dsimp only [List.set]
        refine r_goto (tgt := 4) C dX3_thingsInAll_25 (by decide) ?_
        exact ih _ _ (by omega) (by omega) (by rw [← e]; simp only [sumF]; omega)
  exact lp 6 0 0 (by omega) (by omega) (by unfold thg; omega)

set_option maxRecDepth 100000 in
set_option maxHeartbeats 4000000 in
theorem c_X3_roomOf {l : Launch} {D : va_G} {ty : Nat → ClassId} {ad : Int → Nat} {N : Int} {σ : Int → va_E} {b : Int} {s : Int → Int} {key : Int} (hb : 0 ≤ b ∧ b + 20 ≤ N) (hs : okS s) (hkey : -2147483648 ≤ key ∧ key < 2147483648) : gM0 l yX3_roomOf cX3_roomOf 3 (some .int) 1 22 [.ref (ad b), .int (gI key)] D ty ad N (sput ad ty σ b s) (some (.int (gI (rof s key)))) (sput ad ty σ b s) := by
  refine gMet_of [some (.ref (ad b)), some (.int (gI key)), none] (by decide +kernel) rfl (Nat.le_of_ble_eq_true rfl) rfl ?_
  intro X hl hD hty C hini
  subst hl hD hty
  refine r_iconst C dX3_roomOf_0 ?_
  refine r_istore_n C dX3_roomOf_1 rfl (Nat.le_of_ble_eq_true rfl) rfl ?_
  dsimp only [List.set]
  have lp : ∀ (n : Nat) (p : Int), (0 ≤ p) → (p + n = 6) → (rofN s key n p = rof s key) → V X 0 0 (gQ X (gD (some (.int (gI (rof s key)))) ad N (sput ad (gty X) σ b s)) 0 0) 2 [some (.ref (ad b)), some (.int (gI key)), some (.int (gI p))] [] ad N (sput ad (gty X) σ b s) := by
    intro n
    induction n with
    | zero =>
      intro p hp hpn e
      refine r_iload_n C dX3_roomOf_2 rfl rfl ?_
      refine r_bipush C dX3_roomOf_3 (by decide) ?_
      refine r_icmp_ge (tgt := 30) C dX3_roomOf_5 (by decide) (by omega) (by omega) (fun h5 => ?_) (fun h5 => ?_)
      · refine r_iconst C dX3_roomOf_30 ?_
        exact r_iretD C dX3_roomOf_31 (by rw [← e]; rfl) rfl
      · exact absurd h5 (by omega)
    | succ n ih =>
      intro p hp hpn e
      have hq := hs.rm (r := p) (by omega)
      have hqm := hq.many
      have hpl := plc_rng (key := key) hs (r := p) (by omega)
      refine r_iload_n C dX3_roomOf_2 rfl rfl ?_
      refine r_bipush C dX3_roomOf_3 (by decide) ?_
      refine r_icmp_ge (tgt := 30) C dX3_roomOf_5 (by decide) (by omega) (by omega) (fun h5 => ?_) (fun h5 => ?_)
      · exact absurd h5 (by omega)
      · refine r_aload_n C dX3_roomOf_8 rfl rfl ?_
        refine ss_get C flX3_11 dX3_roomOf_9 hb rfl ?_
        refine r_iload_n C dX3_roomOf_12 rfl rfl ?_
        refine ss_room C dX3_roomOf_13 hb (by omega) ?_
        refine r_iload_n C dX3_roomOf_14 rfl rfl ?_
        refine r_cV C cwX3_71 (lift0 (by omega) (c_X1_placeOf (by omega) hkey hqm hq.keyI)) dX3_roomOf_15 rfl (by omega) (sput_r (by omega)) rfl rfl rfl (Nat.le_of_ble_eq_true rfl) ⟨Nat.le_of_ble_eq_true rfl, Nat.le_of_ble_eq_true rfl⟩ ⟨Nat.le_of_ble_eq_true rfl, Nat.le_of_ble_eq_true rfl⟩ ?_
        refine r_iconst C dX3_roomOf_18 ?_
        refine r_icmp_eq (tgt := 24) C dX3_roomOf_19 (by decide) (by omega) (by omega) (fun h19 => ?_) (fun h19 => ?_)
        · refine r_iinc C dX3_roomOf_24 rfl rfl ?_
          dsimp only [List.set]
          refine r_goto (tgt := 2) C dX3_roomOf_27 (by decide) ?_
          exact ih _ (by omega) (by omega) (by rw [← e]; exact (if_pos (by omega)).symm)
        · refine r_iload_n C dX3_roomOf_22 rfl rfl ?_
          exact r_iretD C dX3_roomOf_23 (by rw [← e]; exact (if_neg (by omega)).symm) rfl
  exact lp 6 0 (by omega) (by omega) rfl

set_option maxRecDepth 100000 in
set_option maxHeartbeats 4000000 in
theorem c_X3_thingNumber {l : Launch} {D : va_G} {ty : Nat → ClassId} {ad : Int → Nat} {N : Int} {σ : Int → va_E} {b : Int} {s : Int → Int} {key w : Int} (hb : 0 ≤ b ∧ b + 20 ≤ N) (hs : okS s) (hkey : -2147483648 ≤ key ∧ key < 2147483648) (hw0 : 0 ≤ w ∧ w < 3) : gM0 l yX3_thingNumber cX3_thingNumber 6 (some .int) 2 44 [.ref (ad b), .int (gI key), .int (gI w)] D ty ad N (sput ad ty σ b s) (some (.int (gI (thn s key w)))) (sput ad ty σ b s) := by
  refine gMet_of [some (.ref (ad b)), some (.int (gI key)), some (.int (gI w)), none, none, none] (by decide +kernel) rfl (Nat.le_of_ble_eq_true rfl) rfl ?_
  intro X hl hD hty C hini
  subst hl hD hty
  have hrr := rof_rng s key
  refine r_aload_n C dX3_thingNumber_0 rfl rfl ?_
  refine r_iload_n C dX3_thingNumber_1 rfl rfl ?_
  refine r_cV C cwX3_75 (c_X3_roomOf hb hs (by omega)) dX3_thingNumber_2 rfl (by omega) sput_0 rfl rfl rfl (Nat.le_of_ble_eq_true rfl) ⟨Nat.le_of_ble_eq_true rfl, Nat.le_of_ble_eq_true rfl⟩ ⟨Nat.le_of_ble_eq_true rfl, Nat.le_of_ble_eq_true rfl⟩ ?_
  refine r_istore_n C dX3_thingNumber_5 rfl (Nat.le_of_ble_eq_true rfl) rfl ?_
  dsimp only [List.set]
  refine r_iload_n C dX3_thingNumber_6 rfl rfl ?_
  refine r_iconst C dX3_thingNumber_7 ?_
  refine r_icmp_ne (tgt := 13) C dX3_thingNumber_8 (by decide) (by omega) (by omega) (fun h8 => ?_) (fun h8 => ?_)
  · have hq := hs.rm (r := rof s key) (by omega)
    have hqm := hq.many
    have hpl := plc_rng (key := key) hs (r := rof s key) (by omega)
    refine r_aload_n C dX3_thingNumber_13 rfl rfl ?_
    refine r_iload_n C dX3_thingNumber_14 rfl rfl ?_
    refine r_cV C cwX3_64 (c_X3_roomAt0 hb (by omega)) dX3_thingNumber_15 rfl (by omega) sput_0 rfl rfl rfl (Nat.le_of_ble_eq_true rfl) ⟨Nat.le_of_ble_eq_true rfl, Nat.le_of_ble_eq_true rfl⟩ ⟨Nat.le_of_ble_eq_true rfl, Nat.le_of_ble_eq_true rfl⟩ ?_
    refine r_astore C dX3_thingNumber_18 (Nat.le_of_ble_eq_true rfl) rfl ?_
    dsimp only [List.set]
    refine r_aload C dX3_thingNumber_20 rfl ?_
    refine r_iload_n C dX3_thingNumber_22 rfl rfl ?_
    refine r_cV C cwX3_71 (lift0 (by omega) (c_X1_placeOf (by omega) hkey hqm hq.keyI)) dX3_thingNumber_23 rfl (by omega) (sput_r (by omega)) rfl rfl rfl (Nat.le_of_ble_eq_true rfl) ⟨Nat.le_of_ble_eq_true rfl, Nat.le_of_ble_eq_true rfl⟩ ⟨Nat.le_of_ble_eq_true rfl, Nat.le_of_ble_eq_true rfl⟩ ?_
    refine r_istore C dX3_thingNumber_26 (Nat.le_of_ble_eq_true rfl) rfl ?_
    dsimp only [List.set]
    refine r_iload_n C dX3_thingNumber_28 rfl rfl ?_
    rcases (show w = 0 ∨ w = 1 ∨ (w ≠ 0 ∧ w ≠ 1) by omega) with hw | hw | hw
    · refine r_look (tgt := 56) (off := 27) C dX3_thingNumber_29 (by omega) (by decide) (by rw [hw]; first | done | rfl) (by decide) ?_
      refine r_iload_n C dX3_thingNumber_56 rfl rfl ?_
      exact r_iretD C dX3_thingNumber_57 (by unfold thn; rw [if_neg (by omega)]; first | rw [if_pos (by omega)] | rw [if_neg (by omega), if_pos (by omega)] | rw [if_neg (by omega), if_neg (by omega)]) rfl
    · refine r_look (tgt := 58) (off := 29) C dX3_thingNumber_29 (by omega) (by decide) (by rw [hw]; first | done | rfl) (by decide) ?_
      refine r_aload C dX3_thingNumber_58 rfl ?_
      refine r_iload C dX3_thingNumber_60 rfl ?_
      refine r_cV C cwX3_78 (lift0 (by omega) (c_X1_darkAt (by omega) (by omega) hqm)) dX3_thingNumber_62 rfl (by omega) (sput_r (by omega)) rfl rfl rfl (Nat.le_of_ble_eq_true rfl) ⟨Nat.le_of_ble_eq_true rfl, Nat.le_of_ble_eq_true rfl⟩ ⟨Nat.le_of_ble_eq_true rfl, Nat.le_of_ble_eq_true rfl⟩ ?_
      exact r_iretD C dX3_thingNumber_65 (by unfold thn; rw [if_neg (by omega)]; first | rw [if_pos (by omega)] | rw [if_neg (by omega), if_pos (by omega)] | rw [if_neg (by omega), if_neg (by omega)]) rfl
    · refine r_look (tgt := 66) (off := 37) C dX3_thingNumber_29 (by omega) (by decide) (by simp [Op.lookupswitch.offset]; (repeat' split) <;> omega) (by decide) ?_
      refine r_iload C dX3_thingNumber_66 rfl ?_
      exact r_iretD C dX3_thingNumber_68 (by unfold thn; rw [if_neg (by omega)]; first | rw [if_pos (by omega)] | rw [if_neg (by omega), if_pos (by omega)] | rw [if_neg (by omega), if_neg (by omega)]) rfl
  · refine r_iconst C dX3_thingNumber_11 ?_
    exact r_iretD C dX3_thingNumber_12 (by unfold thn; rw [if_pos (by omega)]) rfl

set_option maxRecDepth 100000 in
set_option maxHeartbeats 4000000 in
theorem c_X3_canStrike {l : Launch} {D : va_G} {ty : Nat → ClassId} {ad : Int → Nat} {N : Int} {σ : Int → va_E} {b : Int} {s : Int → Int} {r : Int} (hb : 0 ≤ b ∧ b + 20 ≤ N) (hs : okS s) (hr : 0 ≤ r ∧ r < 6) : gM0 l yX3_canStrike cX3_canStrike 2 (some .boolean) 2 43 [.ref (ad b), .int (gI r)] D ty ad N (sput ad ty σ b s) (some (.int (gI (gB (mayS s r))))) (sput ad ty σ b s) := by
  refine gMet_of [some (.ref (ad b)), some (.int (gI r))] (by decide +kernel) rfl (Nat.le_of_ble_eq_true rfl) rfl ?_
  intro X hl hD hty C hini
  subst hl hD hty
  have hcb := cb_rng hs
  have hq := hs.rm hr
  have hql := hq.len
  have hqb := hq.bur
  have hqd := hq.door
  have hqm := hq.many
  have hqw := hq.wick
  have hqs := hq.shi
  refine r_aload_n C dX3_canStrike_0 rfl rfl ?_
  refine r_cV C cwX3_81 (c_X3_candlesBurning hb hs) dX3_canStrike_1 rfl (by omega) sput_0 rfl rfl rfl (Nat.le_of_ble_eq_true rfl) ⟨Nat.le_of_ble_eq_true rfl, Nat.le_of_ble_eq_true rfl⟩ ⟨Nat.le_of_ble_eq_true rfl, Nat.le_of_ble_eq_true rfl⟩ ?_
  refine r_if_ne (tgt := 22) C dX3_canStrike_4 (by decide) (by omega) (fun h4 => ?_) (fun h4 => ?_)
  · refine r_iconst C dX3_canStrike_22 ?_
    exact r_zretD C dX3_canStrike_23 (by omega) (by first | exact (gB_t (by unfold mayS; omega)).symm | exact (gB_f (by unfold mayS; omega)).symm) rfl
  · refine r_aload_n C dX3_canStrike_7 rfl rfl ?_
    refine r_iload_n C dX3_canStrike_8 rfl rfl ?_
    refine r_cV C cwX3_64 (c_X3_roomAt0 hb (by omega)) dX3_canStrike_9 rfl (by omega) sput_0 rfl rfl rfl (Nat.le_of_ble_eq_true rfl) ⟨Nat.le_of_ble_eq_true rfl, Nat.le_of_ble_eq_true rfl⟩ ⟨Nat.le_of_ble_eq_true rfl, Nat.le_of_ble_eq_true rfl⟩ ?_
    refine sr_get C flX3_85 dX3_canStrike_12 hb (by omega) rfl ?_
    refine r_if_le (tgt := 22) C dX3_canStrike_15 (by decide) (by omega) (fun h15 => ?_) (fun h15 => ?_)
    · refine r_iconst C dX3_canStrike_22 ?_
      exact r_zretD C dX3_canStrike_23 (by omega) (by first | exact (gB_t (by unfold mayS; omega)).symm | exact (gB_f (by unfold mayS; omega)).symm) rfl
    · refine r_iconst C dX3_canStrike_18 ?_
      refine r_goto (tgt := 23) C dX3_canStrike_19 (by decide) ?_
      exact r_zretD C dX3_canStrike_23 (by omega) (by first | exact (gB_t (by unfold mayS; omega)).symm | exact (gB_f (by unfold mayS; omega)).symm) rfl

set_option maxRecDepth 100000 in
set_option maxHeartbeats 4000000 in
theorem c_X3_areJoined {l : Launch} {D : va_G} {ty : Nat → ClassId} {ad : Int → Nat} {N : Int} {σ : Int → va_E} {b : Int} {s : Int → Int} {r o : Int} (hb : 0 ≤ b ∧ b + 20 ≤ N) (hs : okS s) (hr : 0 ≤ r ∧ r < 6) (ho : 0 ≤ o ∧ o < 6) : gM0 l yX3_areJoined cX3_areJoined 3 (some .boolean) 2 43 [.ref (ad b), .int (gI r), .int (gI o)] D ty ad N (sput ad ty σ b s) (some (.int (gI (gB (joined s r o))))) (sput ad ty σ b s) := by
  refine gMet_of [some (.ref (ad b)), some (.int (gI r)), some (.int (gI o))] (by decide +kernel) rfl (Nat.le_of_ble_eq_true rfl) rfl ?_
  intro X hl hD hty C hini
  subst hl hD hty
  have hqd := (hs.rm hr).door
  have hod := (hs.rm ho).door
  refine r_iload_n C dX3_areJoined_0 rfl rfl ?_
  refine r_iload_n C dX3_areJoined_1 rfl rfl ?_
  refine r_iconst C dX3_areJoined_2 ?_
  refine r_iadd C dX3_areJoined_3 ?_
  refine r_bipush C dX3_areJoined_4 (by decide) ?_
  refine r_cS C cwX3_50 (c_J9_floorMod_7cf53 (by omega) (by omega)) dX3_areJoined_6 rfl rfl rfl (Nat.le_of_ble_eq_true rfl) ⟨Nat.le_of_ble_eq_true rfl, Nat.le_of_ble_eq_true rfl⟩ ⟨Nat.le_of_ble_eq_true rfl, Nat.le_of_ble_eq_true rfl⟩ ?_
  refine r_icmp_ne (tgt := 21) C dX3_areJoined_9 (by decide) (by omega) (by omega) (fun h9 => ?_) (fun h9 => ?_)
  · refine r_iload_n C dX3_areJoined_21 rfl rfl ?_
    refine r_iload_n C dX3_areJoined_22 rfl rfl ?_
    refine r_iconst C dX3_areJoined_23 ?_
    refine r_iadd C dX3_areJoined_24 ?_
    refine r_bipush C dX3_areJoined_25 (by decide) ?_
    refine r_cS C cwX3_50 (c_J9_floorMod_7cf53 (by omega) (by omega)) dX3_areJoined_27 rfl rfl rfl (Nat.le_of_ble_eq_true rfl) ⟨Nat.le_of_ble_eq_true rfl, Nat.le_of_ble_eq_true rfl⟩ ⟨Nat.le_of_ble_eq_true rfl, Nat.le_of_ble_eq_true rfl⟩ ?_
    refine r_icmp_ne (tgt := 42) C dX3_areJoined_30 (by decide) (by omega) (by omega) (fun h30 => ?_) (fun h30 => ?_)
    · refine r_iconst C dX3_areJoined_42 ?_
      exact r_zretD C dX3_areJoined_43 (by omega) (by first | exact (gB_t (by unfold joined; omega)).symm | exact (gB_f (by unfold joined; omega)).symm) rfl
    · refine r_aload_n C dX3_areJoined_33 rfl rfl ?_
      refine r_iload_n C dX3_areJoined_34 rfl rfl ?_
      refine r_cV C cwX3_64 (c_X3_roomAt0 hb (by omega)) dX3_areJoined_35 rfl (by omega) sput_0 rfl rfl rfl (Nat.le_of_ble_eq_true rfl) ⟨Nat.le_of_ble_eq_true rfl, Nat.le_of_ble_eq_true rfl⟩ ⟨Nat.le_of_ble_eq_true rfl, Nat.le_of_ble_eq_true rfl⟩ ?_
      refine sr_get C flX3_92 dX3_areJoined_38 hb (by omega) rfl ?_
      exact r_zretD C dX3_areJoined_41 (by omega) (hod.elim (fun h => h.trans (gB_f (by unfold joined; omega)).symm) (fun h => h.trans (gB_t (by unfold joined; omega)).symm)) rfl
  · refine r_aload_n C dX3_areJoined_12 rfl rfl ?_
    refine r_iload_n C dX3_areJoined_13 rfl rfl ?_
    refine r_cV C cwX3_64 (c_X3_roomAt0 hb (by omega)) dX3_areJoined_14 rfl (by omega) sput_0 rfl rfl rfl (Nat.le_of_ble_eq_true rfl) ⟨Nat.le_of_ble_eq_true rfl, Nat.le_of_ble_eq_true rfl⟩ ⟨Nat.le_of_ble_eq_true rfl, Nat.le_of_ble_eq_true rfl⟩ ?_
    refine sr_get C flX3_92 dX3_areJoined_17 hb (by omega) rfl ?_
    exact r_zretD C dX3_areJoined_20 (by omega) (hqd.elim (fun h => h.trans (gB_f (by unfold joined; omega)).symm) (fun h => h.trans (gB_t (by unfold joined; omega)).symm)) rfl

set_option maxRecDepth 100000 in
set_option maxHeartbeats 4000000 in
theorem c_X3_canLight {l : Launch} {D : va_G} {ty : Nat → ClassId} {ad : Int → Nat} {N : Int} {σ : Int → va_E} {b : Int} {s : Int → Int} {r o : Int} (hb : 0 ≤ b ∧ b + 20 ≤ N) (hs : okS s) (hr : 0 ≤ r ∧ r < 6) (ho : 0 ≤ o ∧ o < 6) : gM0 l yX3_canLight cX3_canLight 4 (some .boolean) 3 65 [.ref (ad b), .int (gI r), .int (gI o)] D ty ad N (sput ad ty σ b s) (some (.int (gI (gB (mayL s r o))))) (sput ad ty σ b s) := by
  refine gMet_of [some (.ref (ad b)), some (.int (gI r)), some (.int (gI o)), none] (by decide +kernel) rfl (Nat.le_of_ble_eq_true rfl) rfl ?_
  intro X hl hD hty C hini
  subst hl hD hty
  have hq := hs.rm hr
  have hql := hq.len
  have hqb := hq.bur
  have hob := (hs.rm ho).bur
  refine r_aload_n C dX3_canLight_0 rfl rfl ?_
  refine r_iload_n C dX3_canLight_1 rfl rfl ?_
  refine r_cV C cwX3_64 (c_X3_roomAt0 hb (by omega)) dX3_canLight_2 rfl (by omega) sput_0 rfl rfl rfl (Nat.le_of_ble_eq_true rfl) ⟨Nat.le_of_ble_eq_true rfl, Nat.le_of_ble_eq_true rfl⟩ ⟨Nat.le_of_ble_eq_true rfl, Nat.le_of_ble_eq_true rfl⟩ ?_
  refine r_astore_n C dX3_canLight_5 rfl (Nat.le_of_ble_eq_true rfl) rfl ?_
  dsimp only [List.set]
  refine r_aload_n C dX3_canLight_6 rfl rfl ?_
  refine sr_get C flX3_56 dX3_canLight_7 hb (by omega) rfl ?_
  refine r_if_ne (tgt := 44) C dX3_canLight_10 (by decide) (by omega) (fun h10 => ?_) (fun h10 => ?_)
  · refine r_iconst C dX3_canLight_44 ?_
    exact r_zretD C dX3_canLight_45 (by omega) (by first | exact (gB_t ⟨by omega, by omega, by omega, h37⟩).symm | exact (gB_f (fun h => h37 h.2.2.2)).symm | exact (gB_f (fun h => by have := h.1; have := h.2.1; have := h.2.2.1; omega)).symm) rfl
  · refine r_aload_n C dX3_canLight_13 rfl rfl ?_
    refine sr_get C flX3_85 dX3_canLight_14 hb (by omega) rfl ?_
    refine r_if_le (tgt := 44) C dX3_canLight_17 (by decide) (by omega) (fun h17 => ?_) (fun h17 => ?_)
    · refine r_iconst C dX3_canLight_44 ?_
      exact r_zretD C dX3_canLight_45 (by omega) (by first | exact (gB_t ⟨by omega, by omega, by omega, h37⟩).symm | exact (gB_f (fun h => h37 h.2.2.2)).symm | exact (gB_f (fun h => by have := h.1; have := h.2.1; have := h.2.2.1; omega)).symm) rfl
    · refine r_aload_n C dX3_canLight_20 rfl rfl ?_
      refine r_iload_n C dX3_canLight_21 rfl rfl ?_
      refine r_cV C cwX3_64 (c_X3_roomAt0 hb (by omega)) dX3_canLight_22 rfl (by omega) sput_0 rfl rfl rfl (Nat.le_of_ble_eq_true rfl) ⟨Nat.le_of_ble_eq_true rfl, Nat.le_of_ble_eq_true rfl⟩ ⟨Nat.le_of_ble_eq_true rfl, Nat.le_of_ble_eq_true rfl⟩ ?_
      refine sr_get C flX3_56 dX3_canLight_25 hb (by omega) rfl ?_
      refine r_if_eq (tgt := 44) C dX3_canLight_28 (by decide) (by omega) (fun h28 => ?_) (fun h28 => ?_)
      · refine r_iconst C dX3_canLight_44 ?_
        exact r_zretD C dX3_canLight_45 (by omega) (by first | exact (gB_t ⟨by omega, by omega, by omega, h37⟩).symm | exact (gB_f (fun h => h37 h.2.2.2)).symm | exact (gB_f (fun h => by have := h.1; have := h.2.1; have := h.2.2.1; omega)).symm) rfl
      · refine r_aload_n C dX3_canLight_31 rfl rfl ?_
        refine r_iload_n C dX3_canLight_32 rfl rfl ?_
        refine r_iload_n C dX3_canLight_33 rfl rfl ?_
        refine r_cV C cwX3_88 (c_X3_areJoined hb hs (by omega) (by omega)) dX3_canLight_34 rfl (by omega) sput_0 rfl rfl rfl (Nat.le_of_ble_eq_true rfl) ⟨Nat.le_of_ble_eq_true rfl, Nat.le_of_ble_eq_true rfl⟩ ⟨Nat.le_of_ble_eq_true rfl, Nat.le_of_ble_eq_true rfl⟩ ?_
        refine r_ifb_eq (tgt := 44) C dX3_canLight_37 (by decide) (fun h37 => ?_) (fun h37 => ?_)
        · refine r_iconst C dX3_canLight_44 ?_
          exact r_zretD C dX3_canLight_45 (by omega) (by first | exact (gB_t ⟨by omega, by omega, by omega, h37⟩).symm | exact (gB_f (fun h => h37 h.2.2.2)).symm | exact (gB_f (fun h => by have := h.1; have := h.2.1; have := h.2.2.1; omega)).symm) rfl
        · refine r_iconst C dX3_canLight_40 ?_
          refine r_goto (tgt := 45) C dX3_canLight_41 (by decide) ?_
          exact r_zretD C dX3_canLight_45 (by omega) (by first | exact (gB_t ⟨by omega, by omega, by omega, h37⟩).symm | exact (gB_f (fun h => h37 h.2.2.2)).symm | exact (gB_f (fun h => by have := h.1; have := h.2.1; have := h.2.2.1; omega)).symm) rfl

set_option maxRecDepth 100000 in
set_option maxHeartbeats 4000000 in
theorem c_X3_kindle {l : Launch} {D : va_G} {ty : Nat → ClassId} {ad : Int → Nat} {N : Int} {σ : Int → va_E} {b : Int} {s : Int → Int} {r : Int} (hb : 0 ≤ b ∧ b + 20 ≤ N) (hr : 0 ≤ r ∧ r < 6) : gM0 l yX3_kindle cX3_kindle 3 (some .int) 2 43 [.ref (ad b), .int (gI r)] D ty ad N (sput ad ty σ b s) (some (.int (gI (rm s r 0)))) (sput ad ty σ b (light1 s r)) := by
  refine gMet_of [some (.ref (ad b)), some (.int (gI r)), none] (by decide +kernel) rfl (Nat.le_of_ble_eq_true rfl) rfl ?_
  intro X hl hD hty C hini
  subst hl hD hty
  refine r_aload_n C dX3_kindle_0 rfl rfl ?_
  refine r_iload_n C dX3_kindle_1 rfl rfl ?_
  refine r_cV C cwX3_64 (c_X3_roomAt0 hb (by omega)) dX3_kindle_2 rfl (by omega) sput_0 rfl rfl rfl (Nat.le_of_ble_eq_true rfl) ⟨Nat.le_of_ble_eq_true rfl, Nat.le_of_ble_eq_true rfl⟩ ⟨Nat.le_of_ble_eq_true rfl, Nat.le_of_ble_eq_true rfl⟩ ?_
  refine r_astore_n C dX3_kindle_5 rfl (Nat.le_of_ble_eq_true rfl) rfl ?_
  dsimp only [List.set]
  refine r_aload_n C dX3_kindle_6 rfl rfl ?_
  refine r_iconst C dX3_kindle_7 ?_
  refine sr_put (j := 1) C flX3_56 dX3_kindle_8 hb (by omega) (by decide) rfl (by decide) rfl (gI_z (by omega)) (gI_f (by omega)) ?_
  refine r_aload_n C dX3_kindle_11 rfl rfl ?_
  refine sr_get C flX3_85 dX3_kindle_12 hb (by omega) rfl ?_
  rw [rm_up (by decide), up_n (by decide)]
  exact r_iretD C dX3_kindle_15 rfl rfl

set_option maxRecDepth 100000 in
set_option maxHeartbeats 4000000 in
theorem c_X3_hasNewCandle {l : Launch} {D : va_G} {ty : Nat → ClassId} {ad : Int → Nat} {N : Int} {σ : Int → va_E} {b : Int} {s : Int → Int} (hb : 0 ≤ b ∧ b + 20 ≤ N) (hs : okS s) : gM0 l yX3_hasNewCandle cX3_hasNewCandle 1 (some .boolean) 0 0 [.ref (ad b)] D ty ad N (sput ad ty σ b s) (some (.int (gI (gB (0 < s 1))))) (sput ad ty σ b s) := by
  refine gMet_of [some (.ref (ad b))] (by decide +kernel) rfl (Nat.le_of_ble_eq_true rfl) rfl ?_
  intro X hl hD hty C hini
  subst hl hD hty
  have hx := hs.box
  refine r_aload_n C dX3_hasNewCandle_0 rfl rfl ?_
  refine ss_get C flX3_18 dX3_hasNewCandle_1 hb rfl ?_
  refine r_if_le (tgt := 11) C dX3_hasNewCandle_4 (by decide) (by omega) (fun h4 => ?_) (fun h4 => ?_)
  · refine r_iconst C dX3_hasNewCandle_11 ?_
    exact r_zretD C dX3_hasNewCandle_12 (by omega) (by first | exact (gB_t (by omega)).symm | exact (gB_f (by omega)).symm) rfl
  · refine r_iconst C dX3_hasNewCandle_7 ?_
    refine r_goto (tgt := 12) C dX3_hasNewCandle_8 (by decide) ?_
    exact r_zretD C dX3_hasNewCandle_12 (by omega) (by first | exact (gB_t (by omega)).symm | exact (gB_f (by omega)).symm) rfl

set_option maxRecDepth 100000 in
set_option maxHeartbeats 4000000 in
theorem c_X3_putNewCandle {l : Launch} {D : va_G} {ty : Nat → ClassId} {ad : Int → Nat} {N : Int} {σ : Int → va_E} {b : Int} {s : Int → Int} {r : Int} (hb : 0 ≤ b ∧ b + 20 ≤ N) (hr : 0 ≤ r ∧ r < 6) : gM0 l yX3_putNewCandle cX3_putNewCandle 2 (some .int) 2 43 [.ref (ad b), .int (gI r)] D ty ad N (sput ad ty σ b s) (some (.int (gI (s 1 - 1)))) (sput ad ty σ b (renew s r)) := by
  refine gMet_of [some (.ref (ad b)), some (.int (gI r))] (by decide +kernel) rfl (Nat.le_of_ble_eq_true rfl) rfl ?_
  intro X hl hD hty C hini
  subst hl hD hty
  refine r_aload_n C dX3_putNewCandle_0 rfl rfl ?_
  refine r_iload_n C dX3_putNewCandle_1 rfl rfl ?_
  refine r_cV C cwX3_64 (c_X3_roomAt0 hb (by omega)) dX3_putNewCandle_2 rfl (by omega) sput_0 rfl rfl rfl (Nat.le_of_ble_eq_true rfl) ⟨Nat.le_of_ble_eq_true rfl, Nat.le_of_ble_eq_true rfl⟩ ⟨Nat.le_of_ble_eq_true rfl, Nat.le_of_ble_eq_true rfl⟩ ?_
  refine r_cVv C cwX3_105 (lift (by omega) (c_X1_takeNewCandle (by omega))) dX3_putNewCandle_5 rfl (by omega) (sput_r (by omega)) rfl rfl rfl (Nat.le_of_ble_eq_true rfl) ⟨Nat.le_of_ble_eq_true rfl, Nat.le_of_ble_eq_true rfl⟩ ⟨Nat.le_of_ble_eq_true rfl, Nat.le_of_ble_eq_true rfl⟩ ?_
  refine r_aload_n C dX3_putNewCandle_8 rfl rfl ?_
  refine r_dup C dX3_putNewCandle_9 rfl ?_
  refine ss_get C flX3_18 dX3_putNewCandle_10 hb rfl ?_
  rw [srm_lo (by omega)]
  refine r_iconst C dX3_putNewCandle_13 ?_
  refine r_isub C dX3_putNewCandle_14 ?_
  refine ss_put (j := 1) C flX3_18 dX3_putNewCandle_15 hb (by decide) rfl rfl rfl rfl ?_
  refine r_aload_n C dX3_putNewCandle_18 rfl rfl ?_
  refine ss_get C flX3_18 dX3_putNewCandle_19 hb rfl ?_
  rw [up_s]
  exact r_iretD C dX3_putNewCandle_22 rfl rfl

set_option maxRecDepth 100000 in
set_option maxHeartbeats 4000000 in
theorem c_X3_canKeep {l : Launch} {D : va_G} {ty : Nat → ClassId} {ad : Int → Nat} {N : Int} {σ : Int → va_E} {b : Int} {s : Int → Int} {r key : Int} (hb : 0 ≤ b ∧ b + 20 ≤ N) (hs : okS s) (hr : 0 ≤ r ∧ r < 6) (hkey : -2147483648 ≤ key ∧ key < 2147483648) : gM0 l yX3_canKeep cX3_canKeep 3 (some .boolean) 2 44 [.ref (ad b), .int (gI r), .int (gI key)] D ty ad N (sput ad ty σ b s) (some (.int (gI (gB (mayK s r key))))) (sput ad ty σ b s) := by
  refine gMet_of [some (.ref (ad b)), some (.int (gI r)), some (.int (gI key))] (by decide +kernel) rfl (Nat.le_of_ble_eq_true rfl) rfl ?_
  intro X hl hD hty C hini
  subst hl hD hty
  have hqm := (hs.rm hr).many
  have hrr := rof_rng s key
  refine r_aload_n C dX3_canKeep_0 rfl rfl ?_
  refine r_iload_n C dX3_canKeep_1 rfl rfl ?_
  refine r_cV C cwX3_75 (c_X3_roomOf hb hs (by omega)) dX3_canKeep_2 rfl (by omega) sput_0 rfl rfl rfl (Nat.le_of_ble_eq_true rfl) ⟨Nat.le_of_ble_eq_true rfl, Nat.le_of_ble_eq_true rfl⟩ ⟨Nat.le_of_ble_eq_true rfl, Nat.le_of_ble_eq_true rfl⟩ ?_
  refine r_iconst C dX3_canKeep_5 ?_
  refine r_icmp_ne (tgt := 25) C dX3_canKeep_6 (by decide) (by omega) (by omega) (fun h6 => ?_) (fun h6 => ?_)
  · refine r_iconst C dX3_canKeep_25 ?_
    exact r_zretD C dX3_canKeep_26 (by omega) (by first | exact (gB_t (by unfold mayK; omega)).symm | exact (gB_f (by unfold mayK; omega)).symm) rfl
  · refine r_aload_n C dX3_canKeep_9 rfl rfl ?_
    refine r_iload_n C dX3_canKeep_10 rfl rfl ?_
    refine r_cV C cwX3_64 (c_X3_roomAt0 hb (by omega)) dX3_canKeep_11 rfl (by omega) sput_0 rfl rfl rfl (Nat.le_of_ble_eq_true rfl) ⟨Nat.le_of_ble_eq_true rfl, Nat.le_of_ble_eq_true rfl⟩ ⟨Nat.le_of_ble_eq_true rfl, Nat.le_of_ble_eq_true rfl⟩ ?_
    refine sr_get C flX3_68 dX3_canKeep_14 hb (by omega) rfl ?_
    refine r_iconst C dX3_canKeep_17 ?_
    refine r_icmp_ge (tgt := 25) C dX3_canKeep_18 (by decide) (by omega) (by omega) (fun h18 => ?_) (fun h18 => ?_)
    · refine r_iconst C dX3_canKeep_25 ?_
      exact r_zretD C dX3_canKeep_26 (by omega) (by first | exact (gB_t (by unfold mayK; omega)).symm | exact (gB_f (by unfold mayK; omega)).symm) rfl
    · refine r_iconst C dX3_canKeep_21 ?_
      refine r_goto (tgt := 26) C dX3_canKeep_22 (by decide) ?_
      exact r_zretD C dX3_canKeep_26 (by omega) (by first | exact (gB_t (by unfold mayK; omega)).symm | exact (gB_f (by unfold mayK; omega)).symm) rfl

set_option maxRecDepth 100000 in
set_option maxHeartbeats 4000000 in
theorem c_X3_putThing {l : Launch} {D : va_G} {ty : Nat → ClassId} {ad : Int → Nat} {N : Int} {σ : Int → va_E} {b : Int} {s : Int → Int} {r key : Int} (hb : 0 ≤ b ∧ b + 20 ≤ N) (hr : 0 ≤ r ∧ r < 6) (hm : 0 ≤ rm s r 6 ∧ rm s r 6 < 4) : gM0 l yX3_putThing cX3_putThing 4 (some .int) 2 43 [.ref (ad b), .int (gI r), .int (gI key)] D ty ad N (sput ad ty σ b s) (some (.int (gI (rm s r 6 + 1)))) (sput ad ty σ b (keepS s r key)) := by
  refine gMet_of [some (.ref (ad b)), some (.int (gI r)), some (.int (gI key)), none] (by decide +kernel) rfl (Nat.le_of_ble_eq_true rfl) rfl ?_
  intro X hl hD hty C hini
  subst hl hD hty
  refine r_aload_n C dX3_putThing_0 rfl rfl ?_
  refine r_iload_n C dX3_putThing_1 rfl rfl ?_
  refine r_cV C cwX3_64 (c_X3_roomAt0 hb (by omega)) dX3_putThing_2 rfl (by omega) sput_0 rfl rfl rfl (Nat.le_of_ble_eq_true rfl) ⟨Nat.le_of_ble_eq_true rfl, Nat.le_of_ble_eq_true rfl⟩ ⟨Nat.le_of_ble_eq_true rfl, Nat.le_of_ble_eq_true rfl⟩ ?_
  refine r_astore_n C dX3_putThing_5 rfl (Nat.le_of_ble_eq_true rfl) rfl ?_
  dsimp only [List.set]
  refine r_aload_n C dX3_putThing_6 rfl rfl ?_
  refine r_iload_n C dX3_putThing_7 rfl rfl ?_
  refine r_cVv C cwX3_115 (lift (by omega) (c_X1_addThing (by omega) hm)) dX3_putThing_8 rfl (by omega) (sput_r (by omega)) rfl rfl rfl (Nat.le_of_ble_eq_true rfl) ⟨Nat.le_of_ble_eq_true rfl, Nat.le_of_ble_eq_true rfl⟩ ⟨Nat.le_of_ble_eq_true rfl, Nat.le_of_ble_eq_true rfl⟩ ?_
  refine r_aload_n C dX3_putThing_11 rfl rfl ?_
  refine sr_get C flX3_68 dX3_putThing_12 hb (by omega) rfl ?_
  rw [rm_srm (show can (addR (rm s r) key) from can_up (can_up (can_up (can_rm s r) (by omega) _) (by omega) _) (by omega) _)]
  exact r_iretD C dX3_putThing_15 (by unfold addR; rw [up_s]) rfl

set_option maxRecDepth 100000 in
set_option maxHeartbeats 4000000 in
theorem c_X3_roomsBlown {l : Launch} {D : va_G} {ty : Nat → ClassId} {ad : Int → Nat} {N : Int} {σ : Int → va_E} {b : Int} {s : Int → Int} (hb : 0 ≤ b ∧ b + 20 ≤ N) (hs : okS s) : gM0 l yX3_roomsBlown cX3_roomsBlown 3 (some .int) 2 43 [.ref (ad b)] D ty ad N (sput ad ty σ b s) (some (.int (gI (blown s)))) (sput ad ty σ b s) := by
  refine gMet_of [some (.ref (ad b)), none, none] (by decide +kernel) rfl (Nat.le_of_ble_eq_true rfl) rfl ?_
  intro X hl hD hty C hini
  subst hl hD hty
  have hd := hs.dra
  refine r_iconst C dX3_roomsBlown_0 ?_
  refine r_istore_n C dX3_roomsBlown_1 rfl (Nat.le_of_ble_eq_true rfl) rfl ?_
  dsimp only [List.set]
  have lp : ∀ (n : Nat) (p : Int), (0 ≤ p) → (p + n = s 8) → (blN s n p = blown s) → V X 0 0 (gQ X (gD (some (.int (gI (blown s)))) ad N (sput ad (gty X) σ b s)) 0 0) 2 [some (.ref (ad b)), some (.int (gI p)), none] [] ad N (sput ad (gty X) σ b s) := by
    intro n
    induction n with
    | zero =>
      intro p hp hpn e
      refine r_iload_n C dX3_roomsBlown_2 rfl rfl ?_
      refine r_aload_n C dX3_roomsBlown_3 rfl rfl ?_
      refine ss_get C flX3_47 dX3_roomsBlown_4 hb rfl ?_
      refine r_icmp_ge (tgt := 47) C dX3_roomsBlown_7 (by decide) (by omega) (by omega) (fun h7 => ?_) (fun h7 => ?_)
      · refine r_aload_n C dX3_roomsBlown_47 rfl rfl ?_
        refine ss_get C flX3_47 dX3_roomsBlown_48 hb rfl ?_
        exact r_iretD C dX3_roomsBlown_51 (by rw [← e]; simp only [blN]; omega) rfl
      · exact absurd h7 (by omega)
    | succ n ih =>
      intro p hp hpn e
      have hq := hs.rm (r := (s 7 + p) % 6) (by omega)
      have hqs := hq.shi
      have hqd := hq.door
      refine r_iload_n C dX3_roomsBlown_2 rfl rfl ?_
      refine r_aload_n C dX3_roomsBlown_3 rfl rfl ?_
      refine ss_get C flX3_47 dX3_roomsBlown_4 hb rfl ?_
      refine r_icmp_ge (tgt := 47) C dX3_roomsBlown_7 (by decide) (by omega) (by omega) (fun h7 => ?_) (fun h7 => ?_)
      · exact absurd h7 (by omega)
      · refine r_aload_n C dX3_roomsBlown_10 rfl rfl ?_
        refine r_aload_n C dX3_roomsBlown_11 rfl rfl ?_
        refine ss_get C flX3_22 dX3_roomsBlown_12 hb rfl ?_
        refine r_iload_n C dX3_roomsBlown_15 rfl rfl ?_
        refine r_iadd C dX3_roomsBlown_16 ?_
        refine r_cV C cwX3_64 (c_X3_roomAt hb (by omega)) dX3_roomsBlown_17 rfl (by omega) sput_0 rfl rfl rfl (Nat.le_of_ble_eq_true rfl) ⟨Nat.le_of_ble_eq_true rfl, Nat.le_of_ble_eq_true rfl⟩ ⟨Nat.le_of_ble_eq_true rfl, Nat.le_of_ble_eq_true rfl⟩ ?_
        refine r_astore_n C dX3_roomsBlown_20 rfl (Nat.le_of_ble_eq_true rfl) rfl ?_
        dsimp only [List.set]
        refine r_aload_n C dX3_roomsBlown_21 rfl rfl ?_
        refine sr_get C flX3_131 dX3_roomsBlown_22 hb (by omega) rfl ?_
        refine r_if_eq (tgt := 30) C dX3_roomsBlown_25 (by decide) (by omega) (fun h25 => ?_) (fun h25 => ?_)
        · refine r_aload_n C dX3_roomsBlown_30 rfl rfl ?_
          refine sr_get C flX3_92 dX3_roomsBlown_31 hb (by omega) rfl ?_
          refine r_if_ne (tgt := 41) C dX3_roomsBlown_34 (by decide) (by omega) (fun h34 => ?_) (fun h34 => ?_)
          · refine r_iinc C dX3_roomsBlown_41 rfl rfl ?_
            dsimp only [List.set]
            refine r_goto (tgt := 2) C dX3_roomsBlown_44 (by decide) ?_
            refine V_sub (L' := [some (.ref (ad b)), some (.int (gI (p + 1))), none]) rfl (fun i v hv => by match i, hv with | 0, hv => exact hv | 1, hv => exact hv | 2, hv => simp at hv | i + 3, hv => simp at hv) ?_
            exact ih _ (by omega) (by omega) (by rw [← e]; simp only [blN]; rw [if_neg (by omega), if_neg (by omega)])
          · refine r_iload_n C dX3_roomsBlown_37 rfl rfl ?_
            refine r_iconst C dX3_roomsBlown_38 ?_
            refine r_iadd C dX3_roomsBlown_39 ?_
            exact r_iretD C dX3_roomsBlown_40 (by rw [← e]; simp only [blN]; rw [if_neg (by omega), if_pos (by omega)]) rfl
        · refine r_iload_n C dX3_roomsBlown_28 rfl rfl ?_
          exact r_iretD C dX3_roomsBlown_29 (by rw [← e]; simp only [blN]; rw [if_pos (by omega)]) rfl
  exact lp (s 8).toNat 0 (by omega) (by omega) rfl

set_option maxRecDepth 100000 in
set_option maxHeartbeats 4000000 in
theorem c_X3_isInDraught {l : Launch} {D : va_G} {ty : Nat → ClassId} {ad : Int → Nat} {N : Int} {σ : Int → va_E} {b : Int} {s : Int → Int} {r : Int} (hb : 0 ≤ b ∧ b + 20 ≤ N) (hs : okS s) (hr : 0 ≤ r ∧ r < 6) : gM0 l yX3_isInDraught cX3_isInDraught 2 (some .boolean) 3 65 [.ref (ad b), .int (gI r)] D ty ad N (sput ad ty σ b s) (some (.int (gI (gB ((r - s 7) % 6 < blown s))))) (sput ad ty σ b s) := by
  refine gMet_of [some (.ref (ad b)), some (.int (gI r))] (by decide +kernel) rfl (Nat.le_of_ble_eq_true rfl) rfl ?_
  intro X hl hD hty C hini
  subst hl hD hty
  have hbl := blown_rng hs
  have hd := hs.dra
  refine r_iload_n C dX3_isInDraught_0 rfl rfl ?_
  refine r_aload_n C dX3_isInDraught_1 rfl rfl ?_
  refine ss_get C flX3_22 dX3_isInDraught_2 hb rfl ?_
  refine r_isub C dX3_isInDraught_5 ?_
  refine r_bipush C dX3_isInDraught_6 (by decide) ?_
  refine r_cS C cwX3_50 (c_J9_floorMod_7cf53 (by omega) (by omega)) dX3_isInDraught_8 rfl rfl rfl (Nat.le_of_ble_eq_true rfl) ⟨Nat.le_of_ble_eq_true rfl, Nat.le_of_ble_eq_true rfl⟩ ⟨Nat.le_of_ble_eq_true rfl, Nat.le_of_ble_eq_true rfl⟩ ?_
  refine r_aload_n C dX3_isInDraught_11 rfl rfl ?_
  refine r_cV C cwX3_125 (c_X3_roomsBlown hb hs) dX3_isInDraught_12 rfl (by omega) sput_0 rfl rfl rfl (Nat.le_of_ble_eq_true rfl) ⟨Nat.le_of_ble_eq_true rfl, Nat.le_of_ble_eq_true rfl⟩ ⟨Nat.le_of_ble_eq_true rfl, Nat.le_of_ble_eq_true rfl⟩ ?_
  refine r_icmp_ge (tgt := 22) C dX3_isInDraught_15 (by decide) (by omega) (by omega) (fun h15 => ?_) (fun h15 => ?_)
  · refine r_iconst C dX3_isInDraught_22 ?_
    exact r_zretD C dX3_isInDraught_23 (by omega) (by first | exact (gB_t (by omega)).symm | exact (gB_f (by omega)).symm) rfl
  · refine r_iconst C dX3_isInDraught_18 ?_
    refine r_goto (tgt := 23) C dX3_isInDraught_19 (by decide) ?_
    exact r_zretD C dX3_isInDraught_23 (by omega) (by first | exact (gB_t (by omega)).symm | exact (gB_f (by omega)).symm) rfl
