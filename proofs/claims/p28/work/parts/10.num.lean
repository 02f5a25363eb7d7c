/-! numbers: an int as the integer that it stands for -/
def gI (z : Int) : Int32 := Int32.ofInt z
theorem gI_add (a b : Int) : gI a + gI b = gI (a + b) := (Int32.ofInt_add a b).symm
theorem gI_sub (a b : Int) : gI a - gI b = gI (a - b) := (Int32.ofInt_sub a b).symm
theorem gI_mul (a b : Int) : gI a * gI b = gI (a * b) := (Int32.ofInt_mul a b).symm
/-- the range of an int -/
def gR (z : Int) : Prop := -2147483648 ≤ z ∧ z < 2147483648
theorem gI_toInt {z : Int} (h : -2147483648 ≤ z ∧ z < 2147483648) : (gI z).toInt = z := Int32.toInt_ofInt_of_le (by omega) (by omega)
theorem gI_of (x : Int32) : gI x.toInt = x := Int32.ofInt_toInt x
theorem gI_rng (x : Int32) : -2147483648 ≤ x.toInt ∧ x.toInt < 2147483648 := ⟨by have := Int32.le_toInt x; omega, by have := Int32.toInt_lt x; omega⟩
theorem gI_ex (x : Int32) : ∃ z : Int, (-2147483648 ≤ z ∧ z < 2147483648) ∧ x = gI z := ⟨x.toInt, gI_rng x, (gI_of x).symm⟩
theorem gI_lt {a b : Int} (ha : -2147483648 ≤ a ∧ a < 2147483648) (hb : -2147483648 ≤ b ∧ b < 2147483648) : gI a < gI b ↔ a < b := by
  rw [Int32.lt_iff_toInt_lt, gI_toInt ha, gI_toInt hb]
theorem gI_le {a b : Int} (ha : -2147483648 ≤ a ∧ a < 2147483648) (hb : -2147483648 ≤ b ∧ b < 2147483648) : gI a ≤ gI b ↔ a ≤ b := by
  rw [Int32.le_iff_toInt_le, gI_toInt ha, gI_toInt hb]
theorem gI_eq {a b : Int} (ha : -2147483648 ≤ a ∧ a < 2147483648) (hb : -2147483648 ≤ b ∧ b < 2147483648) : gI a = gI b ↔ a = b := by
  rw [← Int32.toInt_inj, gI_toInt ha, gI_toInt hb]
/-- two ints that lie near each other: the same int, the same number -/
theorem gI_eqd {a b : Int} (h : a - b < 4294967296 ∧ b - a < 4294967296) : gI a = gI b ↔ a = b := by
  refine ⟨fun e => ?_, fun e => by rw [e]⟩
  have h1 : gI (a - b) = gI 0 := by rw [← gI_sub, e, gI_sub]; simp
  have h2 : (gI (a - b)).toInt = (gI 0).toInt := by rw [h1]
  have h3 : (a - b).bmod (2 ^ 32) = 0 := by
    have : (gI (a - b)).toInt = (a - b).bmod (2 ^ 32) := Int32.toInt_ofInt
    rw [← this, h2]; rfl
  have h4 : (a - b) % (4294967296 : Int) = 0 := by
    have := Int.dvd_of_bmod_eq_zero h3
    exact Int.emod_eq_zero_of_dvd this
  omega
theorem gI_0 : gI 0 = 0 := by decide +kernel
theorem gI_clamp {z : Int} (h : 0 ≤ z ∧ z < 2147483648) : (gI z).toNatClampNeg = z.toNat := by
  show (gI z).toInt.toNat = z.toNat
  rw [gI_toInt (by omega)]
theorem gI_in {z : Int} {n : Nat} (h : 0 ≤ z ∧ z < n) (hn : n < 2147483648) : vp_in (gI z) n := by
  rw [vp_in_iff, gI_toInt (by omega)]
  exact h
theorem gI_div {a b : Int} (ha : 0 ≤ a ∧ a < 2147483648) (hb : 0 < b ∧ b < 2147483648) : gI a / gI b = gI (a / b) := by
  apply Int32.toInt_inj.mp
  have hq : 0 ≤ a / b ∧ a / b < 2147483648 := ⟨Int.ediv_nonneg ha.1 (by omega), by
    have := Int.ediv_le_self b ha.1
    omega⟩
  rw [lg_idiv_nonneg (by rw [gI_toInt (by omega)]; exact ha.1) (by rw [gI_toInt (by omega)]; exact hb.1), gI_toInt (by omega), gI_toInt (by omega), gI_toInt (by omega)]
theorem gI_rem {a b : Int} (ha : 0 ≤ a ∧ a < 2147483648) (hb : 0 < b ∧ b < 2147483648) : gI a - gI a / gI b * gI b = gI (a % b) := by
  rw [gI_div ha hb, gI_mul, gI_sub, Int.emod_def, Int.mul_comm]
theorem gI_b (P : Prop) [Decidable P] : (if P then (gI 1) else gI 0) = gI (if P then 1 else 0) := by split <;> rfl
/-- a truth as a number -/
def gB (P : Prop) [Decidable P] : Int := if P then 1 else 0
theorem gB_t {P : Prop} [Decidable P] (h : P) : gB P = 1 := if_pos h
theorem gB_f {P : Prop} [Decidable P] (h : ¬ P) : gB P = 0 := if_neg h
theorem gB_rng (P : Prop) [Decidable P] : 0 ≤ gB P ∧ gB P ≤ 1 := by unfold gB; split <;> omega
theorem gB_0 (P : Prop) [Decidable P] : gB P = 0 ↔ ¬ P := by unfold gB; split <;> simp_all
theorem gB_1 (P : Prop) [Decidable P] : gB P = 1 ↔ P := by unfold gB; split <;> simp_all
theorem gB_cong {P Q : Prop} [Decidable P] [Decidable Q] (h : P ↔ Q) : gB P = gB Q := by unfold gB; simp only [h]
/-- a function changed at one place -/
def up {α : Type} (f : Int → α) (k : Int) (v : α) : Int → α := fun j => if j = k then v else f j
theorem up_s {α : Type} (f : Int → α) (k : Int) (v : α) : up f k v k = v := if_pos rfl
theorem up_n {α : Type} {f : Int → α} {k j : Int} {v : α} (h : j ≠ k) : up f k v j = f j := if_neg h
theorem up_up {α : Type} (f : Int → α) (k : Int) (v w : α) : up (up f k v) k w = up f k w := by
  funext j; unfold up; split <;> rfl
theorem up_id {α : Type} {f : Int → α} {k : Int} {v : α} (h : f k = v) : up f k v = f := by
  funext j; unfold up; split
  · subst_vars; rfl
  · rfl
theorem up_sw {α : Type} (f : Int → α) {i k : Int} (h : i ≠ k) (v w : α) : up (up f i v) k w = up (up f k w) i v := by
  funext j; unfold up
  by_cases h1 : j = k
  · subst h1; simp [Ne.symm h]
  · simp [h1]
