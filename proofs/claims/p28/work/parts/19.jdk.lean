/-! the JDK methods that are walked: contracts -/
set_option maxRecDepth 100000 in
set_option maxHeartbeats 4000000 in
theorem c_J9_max_7cf53 {l : Launch} {D : va_G} {ty : Nat → ClassId} {ad : Int → Nat} {N : Int} {σ : Int → va_E} {a b : Int} (ha : -2147483648 ≤ a ∧ a < 2147483648) (hb : -2147483648 ≤ b ∧ b < 2147483648) : gM0 l yJ9_max_7cf53 cJ9_max_7cf53 2 (some .int) 0 0 [.int (gI a), .int (gI b)] D ty ad N (σ) (some (.int (gI (max a b)))) (σ) := by
  refine gMet_of [some (.int (gI a)), some (.int (gI b))] (by decide +kernel) rfl (Nat.le_of_ble_eq_true rfl) rfl ?_
  intro X hl hD hty C hini
  subst hl hD hty
  refine r_iload_n C dJ9_max_7cf53_0 rfl rfl ?_
  refine r_iload_n C dJ9_max_7cf53_1 rfl rfl ?_
  refine r_icmp_lt (tgt := 9) C dJ9_max_7cf53_2 (by decide) ha hb (fun h2 => ?_) (fun h2 => ?_)
  · refine r_iload_n C dJ9_max_7cf53_9 rfl rfl ?_
    exact r_iretD C dJ9_max_7cf53_10 (by omega) rfl
  · refine r_iload_n C dJ9_max_7cf53_5 rfl rfl ?_
    refine r_goto (tgt := 10) C dJ9_max_7cf53_6 (by decide) ?_
    exact r_iretD C dJ9_max_7cf53_10 (by omega) rfl

set_option maxRecDepth 100000 in
set_option maxHeartbeats 4000000 in
theorem c_J9_min_7cf53 {l : Launch} {D : va_G} {ty : Nat → ClassId} {ad : Int → Nat} {N : Int} {σ : Int → va_E} {a b : Int} (ha : -2147483648 ≤ a ∧ a < 2147483648) (hb : -2147483648 ≤ b ∧ b < 2147483648) : gM0 l yJ9_min_7cf53 cJ9_min_7cf53 2 (some .int) 0 0 [.int (gI a), .int (gI b)] D ty ad N (σ) (some (.int (gI (min a b)))) (σ) := by
  refine gMet_of [some (.int (gI a)), some (.int (gI b))] (by decide +kernel) rfl (Nat.le_of_ble_eq_true rfl) rfl ?_
  intro X hl hD hty C hini
  subst hl hD hty
  refine r_iload_n C dJ9_min_7cf53_0 rfl rfl ?_
  refine r_iload_n C dJ9_min_7cf53_1 rfl rfl ?_
  refine r_icmp_gt (tgt := 9) C dJ9_min_7cf53_2 (by decide) ha hb (fun h2 => ?_) (fun h2 => ?_)
  · refine r_iload_n C dJ9_min_7cf53_9 rfl rfl ?_
    exact r_iretD C dJ9_min_7cf53_10 (by omega) rfl
  · refine r_iload_n C dJ9_min_7cf53_5 rfl rfl ?_
    refine r_goto (tgt := 10) C dJ9_min_7cf53_6 (by decide) ?_
    exact r_iretD C dJ9_min_7cf53_10 (by omega) rfl

theorem gI_rem0 {a b : Int} (ha : -2147483648 ≤ a ∧ a < 2147483648) (hb : 0 < b ∧ b < 2147483648) : gI a - gI a / gI b * gI b = gI (a.tmod b) := by
  have e : gI a / gI b = gI (a.tdiv b) := by
    apply Int32.toInt_inj.mp
    have h1 : gI b ≠ -1 := by
      intro h
      have h2 : (gI b).toInt = (-1 : Int32).toInt := by rw [h]
      rw [gI_toInt (by omega)] at h2
      have h3 : (-1 : Int32).toInt = -1 := by decide
      omega
    have h5 : -2147483648 ≤ a.tdiv b ∧ a.tdiv b < 2147483648 := by
      have h1 := Int.natAbs_tdiv_le_natAbs a b
      rcases Int.lt_or_le a 0 with h | h
      · have h2 := Int.tdiv_nonneg (a := -a) (b := b) (by omega) (by omega)
        rw [Int.neg_tdiv] at h2
        omega
      · have h2 := Int.tdiv_nonneg (a := a) (b := b) (by omega) (by omega)
        omega
    rw [Int32.toInt_div_of_ne_right _ _ h1, gI_toInt ha, gI_toInt (by omega), gI_toInt h5]
  rw [e, gI_mul, gI_sub]
  congr 1
  have := Int.tmod_add_tdiv_mul a b
  omega
theorem r_irem0 {X : gT} {cc : ByteArray} {nL : Nat} {own : String} {R : Room} {ret : Option FieldType} {kc kn : Nat} {Q : State → Prop} {pc : Nat} {L : List (Option Value)} {st : List Value} {ad : Int → Nat} {N : Int} {σ : Int → va_E} (C : gOk X cc nL own R ret) {a b : Int} (hd : decode cc pc = .ok (.irem, 1)) (ha : -2147483648 ≤ a ∧ a < 2147483648) (hb : 0 < b ∧ b < 2147483648) (k : V X kc kn Q (pc + 1) L (.int (gI (a.tmod b)) :: st) ad N σ) : V X kc kn Q pc L (.int (gI b) :: .int (gI a) :: st) ad N σ := fun ls H locs hl hw => lv_irem C.1 C.2.1 hd (fun h => by rw [← gI_0, gI_eq (by omega) (by omega)] at h; omega) (by rw [gI_rem0 ha hb]; exact k ls H locs hl hw)
theorem gI_xor_neg {a b : Int} (ha : -2147483648 ≤ a ∧ a < 2147483648) (hb : 0 ≤ b ∧ b < 2147483648) : (gI a ^^^ gI b) < 0 ↔ a < 0 := by
  have h1 : ∀ x : Int32, x < 0 ↔ x.toBitVec.msb = true := fun x => by
    rw [Int32.lt_iff_toInt_lt, Int32.toInt_zero]
    show x.toBitVec.toInt < 0 ↔ _
    rw [BitVec.msb_eq_toInt]
    simp
  rw [h1, Int32.toBitVec_xor, BitVec.msb_xor]
  have e1 : (gI a).toBitVec.msb = decide (a < 0) := by
    rw [BitVec.msb_eq_toInt]
    show decide ((gI a).toInt < 0) = _
    rw [gI_toInt ha]
  have e2 : (gI b).toBitVec.msb = false := by
    rw [BitVec.msb_eq_toInt]
    show decide ((gI b).toInt < 0) = _
    rw [gI_toInt (by omega)]
    exact decide_eq_false (by omega)
  rw [e1, e2]
  simp
theorem r_ixor {X : gT} {cc : ByteArray} {nL : Nat} {own : String} {R : Room} {ret : Option FieldType} {kc kn : Nat} {Q : State → Prop} {pc : Nat} {L : List (Option Value)} {st : List Value} {ad : Int → Nat} {N : Int} {σ : Int → va_E} (C : gOk X cc nL own R ret) {a b : Int32} (hd : decode cc pc = .ok (.ixor, 1)) (k : V X kc kn Q (pc + 1) L (.int (a ^^^ b) :: st) ad N σ) : V X kc kn Q pc L (.int b :: .int a :: st) ad N σ := fun ls H locs hl hw => lv_ixor C.1 C.2.1 hd (k ls H locs hl hw)
theorem r_ge32 {X : gT} {cc : ByteArray} {nL : Nat} {own : String} {R : Room} {ret : Option FieldType} {kc kn : Nat} {Q : State → Prop} {pc : Nat} {L : List (Option Value)} {st : List Value} {ad : Int → Nat} {N : Int} {σ : Int → va_E} (C : gOk X cc nL own R ret) {x : Int32} {off : Int} {tgt : Nat} (hd : decode cc pc = .ok (.ifCond .ge off, 3)) (ht : (pc : Int) + off = (tgt : Int)) (kt : ¬ x < 0 → V X kc kn Q tgt L st ad N σ) (kf : x < 0 → V X kc kn Q (pc + 3) L st ad N σ) : V X kc kn Q pc L (.int x :: st) ad N σ := fun ls H locs hl hw => lv_if_ge C.1 C.2.1 hd ht (fun h => kt (by rw [Int32.lt_iff_toInt_lt]; rw [Int32.le_iff_toInt_le] at h; omega) ls H locs hl hw) (fun h => kf (by rw [Int32.lt_iff_toInt_lt]; rw [Int32.le_iff_toInt_le] at h; omega) ls H locs hl hw)
theorem fmod_pos {a b : Int} (hb : 0 < b) (ha : a < 0) : (a.tmod b = 0 → a % b = a.tmod b) ∧ (a.tmod b ≠ 0 → a % b = a.tmod b + b) := by
  have h := Int.emod_eq_tmod (a := a) (b := b)
  have hn : ((b.natAbs : Nat) : Int) = b := by omega
  have hd : b ∣ a ↔ a.tmod b = 0 := Int.dvd_iff_tmod_eq_zero
  refine ⟨fun e => ?_, fun e => ?_⟩
  · rw [if_pos (Or.inr (hd.mpr e))] at h
    omega
  · rw [if_neg (fun q => q.elim (fun q => by omega) (fun q => e (hd.mp q)))] at h
    omega

set_option maxRecDepth 100000 in
set_option maxHeartbeats 4000000 in
/-- floorMod with a divisor above 0 -/
theorem c_J9_floorMod_7cf53 {l : Launch} {D : va_G} {ty : Nat → ClassId} {ad : Int → Nat} {N : Int} {σ : Int → va_E} {a b : Int} (ha : -2147483648 ≤ a ∧ a < 2147483648) (hb : 0 < b ∧ b < 2147483648) : gM0 l yJ9_floorMod_7cf53 cJ9_floorMod_7cf53 3 (some .int) 0 0 [.int (gI a), .int (gI b)] D ty ad N (σ) (some (.int (gI (a % b)))) (σ) := by
  refine gMet_of [some (.int (gI a)), some (.int (gI b)), none] (by decide +kernel) rfl (Nat.le_of_ble_eq_true rfl) rfl ?_
  intro X hl hD hty C hini
  subst hl hD hty
  have hx := gI_xor_neg (a := a) (b := b) ha (by omega)
  have hm := Int.emod_nonneg a (show b ≠ 0 by omega)
  have hm2 := Int.emod_lt_of_pos a hb.1
  have ht : a.tmod b = a % b ∨ a.tmod b = a % b - b := by
    rcases Int.lt_or_le a 0 with h | h
    · by_cases e : a.tmod b = 0
      · exact Or.inl ((fmod_pos hb.1 h).1 e).symm
      · have := (fmod_pos hb.1 h).2 e
        exact Or.inr (by omega)
    · exact Or.inl (Int.tmod_eq_emod_of_nonneg h)
  refine r_iload_n C dJ9_floorMod_7cf53_0 rfl rfl ?_
  refine r_iload_n C dJ9_floorMod_7cf53_1 rfl rfl ?_
  refine r_irem0 C dJ9_floorMod_7cf53_2 ha hb ?_
  refine r_istore_n C dJ9_floorMod_7cf53_3 rfl (Nat.le_of_ble_eq_true rfl) rfl ?_
  dsimp only [List.set]
  refine r_iload_n C dJ9_floorMod_7cf53_4 rfl rfl ?_
  refine r_iload_n C dJ9_floorMod_7cf53_5 rfl rfl ?_
  refine r_ixor C dJ9_floorMod_7cf53_6 ?_
  refine r_ge32 (tgt := 18) C dJ9_floorMod_7cf53_7 (by decide) (fun h7 => ?_) (fun h7 => ?_)
  · have h7 := mt hx.mpr h7
    have e := Int.tmod_eq_emod_of_nonneg (a := a) (b := b) (by omega)
    refine r_iload_n C dJ9_floorMod_7cf53_18 rfl rfl ?_
    exact r_iretD C dJ9_floorMod_7cf53_19 (by omega) rfl
  · have h7 := hx.mp h7
    have e := fmod_pos (a := a) hb.1 h7
    refine r_iload_n C dJ9_floorMod_7cf53_10 rfl rfl ?_
    refine r_if_eq (tgt := 18) C dJ9_floorMod_7cf53_11 (by decide) (by omega) (fun h11 => ?_) (fun h11 => ?_)
    · have e2 := e.1 h11
      refine r_iload_n C dJ9_floorMod_7cf53_18 rfl rfl ?_
      exact r_iretD C dJ9_floorMod_7cf53_19 (by omega) rfl
    · have e2 := e.2 h11
      refine r_iload_n C dJ9_floorMod_7cf53_14 rfl rfl ?_
      refine r_iload_n C dJ9_floorMod_7cf53_15 rfl rfl ?_
      refine r_iadd C dJ9_floorMod_7cf53_16 ?_
      exact r_iretD C dJ9_floorMod_7cf53_17 (by omega) rfl
