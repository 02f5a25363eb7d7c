/-! the constructor of the reference -/
def zF5 : List Value := [.null, .null, .null, .int 0, .null, .int 0, .int 0, .int 0, .int 0, .null, .int 0]
def z0 : Int → Int := fun _ => 0
/-- the array now, with i rooms laid -/
def nw (i : Int) : Int → Int := fun j => if j = 0 ∨ j = 1 then 12 else if j = 7 then -1 else if 9 ≤ j ∧ j < 9 + 15 * i ∧ (j - 9) % 15 = 0 then 10 else if 9 ≤ j ∧ j < 9 + 15 * i ∧ (j - 9) % 15 = 5 then 1 else 0
theorem nw_0 : up (up (up z0 0 12) 1 12) 7 (-1) = nw 0 := by
  funext j
  unfold nw up z0
  by_cases h7 : j = 7
  · rw [if_pos h7, if_neg (by omega), if_pos h7]
  · rw [if_neg h7]
    by_cases h1 : j = 1
    · rw [if_pos h1, if_pos (by omega)]
    · rw [if_neg h1]
      by_cases h0 : j = 0
      · rw [if_pos h0, if_pos (by omega)]
      · rw [if_neg h0, if_neg (by omega), if_neg h7, if_neg (by omega), if_neg (by omega)]
theorem nw_s {i : Int} (hi : 0 ≤ i) : up (up (nw i) (9 + 15 * i) 10) (9 + 15 * i + 5) 1 = nw (i + 1) := by
  funext j
  unfold nw up
  by_cases h5 : j = 9 + 15 * i + 5
  · rw [if_pos h5, if_neg (by omega), if_neg (by omega), if_neg (by omega), if_pos (by omega)]
  · rw [if_neg h5]
    by_cases h0 : j = 9 + 15 * i
    · rw [if_pos h0, if_neg (by omega), if_neg (by omega), if_pos (by omega)]
    · rw [if_neg h0]
      dsimp only
      by_cases h1 : j = 0 ∨ j = 1
      · rw [if_pos h1, if_pos h1]
      · rw [if_neg h1, if_neg h1]
        by_cases h7 : j = 7
        · rw [if_pos h7, if_pos h7]
        · rw [if_neg h7, if_neg h7]
          by_cases ha : 9 ≤ j ∧ j < 9 + 15 * i ∧ (j - 9) % 15 = 0
          · rw [if_pos ha, if_pos (by omega)]
          · rw [if_neg ha, if_neg (show ¬ (9 ≤ j ∧ j < 9 + 15 * (i + 1) ∧ (j - 9) % 15 = 0) by omega)]
            by_cases hb : 9 ≤ j ∧ j < 9 + 15 * i ∧ (j - 9) % 15 = 5
            · rw [if_pos hb, if_pos (by omega)]
            · rw [if_neg hb, if_neg (by omega)]
theorem nw_6 {ty : ClassId} : gAr ty 99 (nw 6) = gAr ty 99 store0 := gAr_ext fun j h1 h2 => by
  unfold nw store0 up rooms0
  try dsimp only
  by_cases h0 : j = 0
  · subst h0; rfl
  · by_cases h1 : j = 1
    · subst h1; rfl
    · by_cases h7 : j = 7
      · subst h7; rfl
      · rw [if_neg (show ¬ (j = 0 ∨ j = 1) by omega), if_neg h7, if_neg h0, if_neg h7, if_neg h1]
        by_cases ha : 9 ≤ j ∧ j < 9 + 15 * 6 ∧ (j - 9) % 15 = 0
        · rw [if_pos ha, if_pos (by omega)]
        · rw [if_neg ha, if_neg (show ¬ (9 ≤ j ∧ j < 99 ∧ (j - 9) % 15 = 0) by omega)]
          by_cases hb : 9 ≤ j ∧ j < 9 + 15 * 6 ∧ (j - 9) % 15 = 5
          · rw [if_pos hb, if_pos (by omega)]
          · rw [if_neg hb, if_neg (by omega)]
set_option maxRecDepth 100000 in
set_option maxHeartbeats 4000000 in
theorem c_X5_init {l : Launch} {D : va_G} {ty : Nat → ClassId} {ad : Int → Nat} {N : Int} {σ : Int → va_E} {m : Int} {h0 : Nat} (hm0 : 0 ≤ m ∧ m + 1 = N) (he : ad m = h0) (hσ : σ m = .inr (5, zF5)) : gMet l yX5_init cX5_init 2 none { frames := 1, cells := 5, slots := 915, locals := 20 } [.ref h0] D ty ad N σ (gMk N 5 ad (fun ad' => mput ad' ty σ m z0 store0 z0 z0 z0 z0)) := by
  refine gMet_of [some (.ref h0), none] (by decide +kernel) rfl (Nat.le_of_ble_eq_true rfl) rfl ?_
  intro X hl hD hty C hini
  subst hl hD hty
  obtain ⟨hm1, rfl⟩ := hm0
  refine r_aload_n C dX5_init_0 rfl rfl ?_
  refine r_objInit C koX5_1 dX5_init_1 rfl (by decide) ?_
  refine r_aload_n C dX5_init_4 rfl rfl ?_
  refine r_bipush C dX5_init_5 (by decide) ?_
  refine r_newI (n := 99) C kar_int dX5_init_7 (by decide) (by omega) ⟨Nat.le_of_ble_eq_true rfl, Nat.le_of_ble_eq_true rfl⟩ (fun q1 => ?_)
  refine ra_putF (a := m) C hini flX5_7 dX5_init_9 ((up_n (by omega)).trans he) (by omega) ((up_n (by omega)).trans hσ) rfl rfl rfl rfl (Nat.le_of_ble_eq_true rfl) ?_
  refine r_aload_n C dX5_init_12 rfl rfl ?_
  refine r_bipush C dX5_init_13 (by decide) ?_
  refine r_newI (n := 99) C kar_int dX5_init_15 (by decide) (by omega) ⟨Nat.le_of_ble_eq_true rfl, Nat.le_of_ble_eq_true rfl⟩ (fun q2 => ?_)
  refine ra_putF (a := m) C hini flX5_13 dX5_init_17 ((up_n (by omega)).trans ((up_n (by omega)).trans he)) (by omega) ((up_n (by omega)).trans (up_s _ _ _)) rfl rfl rfl rfl (Nat.le_of_ble_eq_true rfl) ?_
  refine r_aload_n C dX5_init_20 rfl rfl ?_
  refine r_sipush C dX5_init_21 (by decide) ?_
  refine r_newI (n := 594) C kar_int dX5_init_24 (by decide) (by omega) ⟨Nat.le_of_ble_eq_true rfl, Nat.le_of_ble_eq_true rfl⟩ (fun q3 => ?_)
  refine ra_putF (a := m) C hini flX5_16 dX5_init_26 ((up_n (by omega)).trans ((up_n (by omega)).trans ((up_n (by omega)).trans he))) (by omega) ((up_n (by omega)).trans (up_s _ _ _)) rfl rfl rfl rfl (Nat.le_of_ble_eq_true rfl) ?_
  refine r_aload_n C dX5_init_29 rfl rfl ?_
  refine r_bipush C dX5_init_30 (by decide) ?_
  refine r_newI (n := 60) C kar_int dX5_init_32 (by decide) (by omega) ⟨Nat.le_of_ble_eq_true rfl, Nat.le_of_ble_eq_true rfl⟩ (fun q4 => ?_)
  refine ra_putF (a := m) C hini flX5_19 dX5_init_34 ((up_n (by omega)).trans ((up_n (by omega)).trans ((up_n (by omega)).trans ((up_n (by omega)).trans he)))) (by omega) ((up_n (by omega)).trans (up_s _ _ _)) rfl rfl rfl rfl (Nat.le_of_ble_eq_true rfl) ?_
  refine r_aload_n C dX5_init_37 rfl rfl ?_
  refine r_bipush C dX5_init_38 (by decide) ?_
  refine r_newI (n := 63) C kar_int dX5_init_40 (by decide) (by omega) ⟨Nat.le_of_ble_eq_true rfl, Nat.le_of_ble_eq_true rfl⟩ (fun q5 => ?_)
  obtain ⟨ad5, hd5⟩ : ∃ a, a = up (up (up (up (up ad (m + 1) q1) (m + 1 + 1) q2) (m + 1 + 1 + 1) q3) (m + 1 + 1 + 1 + 1) q4) (m + 1 + 1 + 1 + 1 + 1) q5 := ⟨_, rfl⟩
  rw [← hd5]
  have hj : ∀ j, j < m + 1 → ad5 j = ad j := fun j hj => by rw [hd5, up_n (by omega), up_n (by omega), up_n (by omega), up_n (by omega), up_n (by omega)]
  have k1 : ad5 (m + 1) = q1 := by rw [hd5, up_n (by omega), up_n (by omega), up_n (by omega), up_n (by omega), up_s]
  have k2 : ad5 (m + 2) = q2 := by rw [hd5, up_n (by omega), up_n (by omega), up_n (by omega), show m + 2 = m + 1 + 1 by omega, up_s]
  have k3 : ad5 (m + 3) = q3 := by rw [hd5, up_n (by omega), up_n (by omega), show m + 3 = m + 1 + 1 + 1 by omega, up_s]
  have k4 : ad5 (m + 4) = q4 := by rw [hd5, up_n (by omega), show m + 4 = m + 1 + 1 + 1 + 1 by omega, up_s]
  have k5 : ad5 (m + 5) = q5 := by rw [hd5, show m + 5 = m + 1 + 1 + 1 + 1 + 1 by omega, up_s]
  have he5 : ad5 m = h0 := (hj m (by omega)).trans he
  refine ra_putF (a := m) C hini flX5_22 dX5_init_42 he5 (by omega) ((up_n (by omega)).trans (up_s _ _ _)) rfl rfl rfl rfl (Nat.le_of_ble_eq_true rfl) ?_
  subst he5
  have e0 : ∀ σ9 : Int → va_E, σ9 = mput ad5 (gty X) σ m z0 z0 z0 z0 z0 z0 → V X 5 915 (gQ X (gMk (m + 1) 5 ad (fun ad' => mput ad' (gty X) σ m z0 store0 z0 z0 z0 z0)) 5 915) 45 [some (.ref (ad5 m)), none] [] ad5 (m + 6) σ9 := by
    intro σ9 e9
    subst e9
    have hm : 0 ≤ m ∧ m + 6 ≤ m + 6 := by omega
    refine r_aload_n C dX5_init_45 rfl rfl ?_
    refine mm_get C flX5_7 dX5_init_46 hm rfl ?_
    refine r_iconst C dX5_init_49 ?_
    refine r_bipush C dX5_init_50 (by decide) ?_
    refine r_iast C dX5_init_52 (by omega) mput_1 (by omega) (by omega) ?_
    rw [mput_u1]
    refine r_aload_n C dX5_init_53 rfl rfl ?_
    refine mm_get C flX5_7 dX5_init_54 hm rfl ?_
    refine r_iconst C dX5_init_57 ?_
    refine r_bipush C dX5_init_58 (by decide) ?_
    refine r_iast C dX5_init_60 (by omega) mput_1 (by omega) (by omega) ?_
    rw [mput_u1]
    refine r_aload_n C dX5_init_61 rfl rfl ?_
    refine mm_get C flX5_7 dX5_init_62 hm rfl ?_
    refine r_bipush C dX5_init_65 (by decide) ?_
    refine r_iconst C dX5_init_67 ?_
    refine r_iast C dX5_init_68 (by omega) mput_1 (by omega) (by omega) ?_
    rw [mput_u1, nw_0]
    refine r_iconst C dX5_init_69 ?_
    refine r_istore_n C dX5_init_70 rfl (Nat.le_of_ble_eq_true rfl) rfl ?_
    dsimp only [List.set]
    have lp : ∀ (n : Nat) (i : Int), (0 ≤ i) → (i + n = 6) → V X 5 915 (gQ X (gMk (m + 1) 5 ad (fun ad' => mput ad' (gty X) σ m z0 store0 z0 z0 z0 z0)) 5 915) 71 [some (.ref (ad5 m)), some (.int (gI i))] [] ad5 (m + 6) (mput ad5 (gty X) σ m z0 (nw i) z0 z0 z0 z0) := by
      intro n
      induction n with
      | zero =>
        intro i hi hin
        have hi6 : i = 6 := by omega
        subst hi6
        refine r_iload_n C dX5_init_71 rfl rfl ?_
        refine r_bipush C dX5_init_72 (by decide) ?_
        refine r_icmp_ge (tgt := 112) C dX5_init_74 (by decide) (by omega) (by omega) (fun h74 => ?_) (fun h74 => ?_)
        · refine r_vret C dX5_init_112 ⟨rfl, by omega, hj, ?_⟩ (Nat.le_of_ble_eq_true rfl) (Nat.le_of_ble_eq_true rfl)
          show mput ad5 (gty X) σ m z0 (nw 6) z0 z0 z0 z0 = mput ad5 (gty X) σ m z0 store0 z0 z0 z0 z0
          rw [← mput_u1 (s := z0) (nw 6), nw_6, mput_u1]
        · exact absurd h74 (by omega)
      | succ n ih =>
        intro i hi hin
        refine r_iload_n C dX5_init_71 rfl rfl ?_
        refine r_bipush C dX5_init_72 (by decide) ?_
        refine r_icmp_ge (tgt := 112) C dX5_init_74 (by decide) (by omega) (by omega) (fun h74 => ?_) (fun h74 => ?_)
        · exact absurd h74 (by omega)
        · refine r_aload_n C dX5_init_77 rfl rfl ?_
          refine mm_get C flX5_7 dX5_init_78 hm rfl ?_
          refine r_bipush C dX5_init_81 (by decide) ?_
          refine r_bipush C dX5_init_83 (by decide) ?_
          refine r_iload_n C dX5_init_85 rfl rfl ?_
          refine r_imul C dX5_init_86 ?_
          refine r_iadd C dX5_init_87 ?_
          refine r_bipush C dX5_init_88 (by decide) ?_
          refine r_iast C dX5_init_90 (by omega) mput_1 (by omega) (by omega) ?_
          rw [mput_u1]
          refine r_aload_n C dX5_init_91 rfl rfl ?_
          refine mm_get C flX5_7 dX5_init_92 hm rfl ?_
          refine r_bipush C dX5_init_95 (by decide) ?_
          refine r_bipush C dX5_init_97 (by decide) ?_
          refine r_iload_n C dX5_init_99 rfl rfl ?_
          refine r_imul C dX5_init_100 ?_
          refine r_iadd C dX5_init_101 ?_
          refine r_iconst C dX5_init_102 ?_
          refine r_iadd C dX5_init_103 ?_
          refine r_iconst C dX5_init_104 ?_
          refine r_iast C dX5_init_105 (by omega) mput_1 (by omega) (by omega) ?_
          rw [mput_u1, nw_s hi]
          refine r_iinc C dX5_init_106 rfl rfl ?_
          dsimp only [List.set]
          refine r_goto (tgt := 71) C dX5_init_109 (by decide) ?_
          exact ih (i + 1) (by omega) (by omega)
    exact lp 6 0 (by omega) (by omega)
  rw [show m + 1 + 1 + 1 + 1 + 1 + 1 = m + 6 by omega]
  refine e0 _ ?_
  funext q
  unfold mput
  by_cases h1 : q = m
  · subst h1
    rw [up_s, if_pos rfl]
    unfold mF
    rw [k1, k2, k3, k4, k5]
    simp [zF5, z0, gI_0]
  · rw [up_n h1, if_neg h1]
    have hz : ∀ n : Nat, gAr (gty X 0) n z0 = gAr (gty X 0) n (fun _ => 0) := fun _ => rfl
    by_cases g5 : q = m + 5
    · rw [show q = m + 1 + 1 + 1 + 1 + 1 by omega, up_s, if_neg (by omega), if_neg (by omega), if_neg (by omega), if_neg (by omega), if_pos (by omega)]; rfl
    · rw [up_n (by omega), up_n h1]
      by_cases g4 : q = m + 4
      · rw [show q = m + 1 + 1 + 1 + 1 by omega, up_s, if_neg (by omega), if_neg (by omega), if_neg (by omega), if_pos (by omega)]; rfl
      · rw [up_n (by omega), up_n h1]
        by_cases g3 : q = m + 3
        · rw [show q = m + 1 + 1 + 1 by omega, up_s, if_neg (by omega), if_neg (by omega), if_pos (by omega)]; rfl
        · rw [up_n (by omega), up_n h1]
          by_cases g2 : q = m + 2
          · rw [show q = m + 1 + 1 by omega, up_s, if_neg (by omega), if_pos (by omega)]; rfl
          · rw [up_n (by omega), up_n h1]
            by_cases g1 : q = m + 1
            · rw [g1, up_s, if_pos rfl]; rfl
            · rw [up_n (by omega), if_neg g1, if_neg g2, if_neg g3, if_neg g4, if_neg g5]
