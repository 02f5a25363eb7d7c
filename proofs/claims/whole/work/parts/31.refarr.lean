/-! the reference: what its methods do to an array of 99 numbers -/
set_option maxRecDepth 100000 in
set_option maxHeartbeats 4000000 in
theorem c_X5_in {l : Launch} {D : va_G} {ty : Nat → ClassId} {ad : Int → Nat} {N : Int} {σ : Int → va_E} {z lo hi : Int} (hz : -2147483648 ≤ z ∧ z < 2147483648) (hlo : -2147483648 ≤ lo ∧ lo < 2147483648) (hhi : -2147483648 ≤ hi ∧ hi < 2147483648) : gM0 l yX5_in cX5_in 3 (some .boolean) 0 0 [.int (gI z), .int (gI lo), .int (gI hi)] D ty ad N (σ) (some (.int (gI (gB (lo ≤ z ∧ z ≤ hi))))) (σ) := by
  refine gMet_of [some (.int (gI z)), some (.int (gI lo)), some (.int (gI hi))] (by decide +kernel) rfl (Nat.le_of_ble_eq_true rfl) rfl ?_
  intro X hl hD hty C hini
  subst hl hD hty
  refine r_iload_n C dX5_in_0 rfl rfl ?_
  refine r_iload_n C dX5_in_1 rfl rfl ?_
  refine r_icmp_lt (tgt := 14) C dX5_in_2 (by decide) (by omega) (by omega) (fun h2 => ?_) (fun h2 => ?_)
  · refine r_iconst C dX5_in_14 ?_
    exact r_zretD C dX5_in_15 (by omega) (by first | exact (gB_t (by omega)).symm | exact (gB_f (by omega)).symm) rfl
  · refine r_iload_n C dX5_in_5 rfl rfl ?_
    refine r_iload_n C dX5_in_6 rfl rfl ?_
    refine r_icmp_gt (tgt := 14) C dX5_in_7 (by decide) (by omega) (by omega) (fun h7 => ?_) (fun h7 => ?_)
    · refine r_iconst C dX5_in_14 ?_
      exact r_zretD C dX5_in_15 (by omega) (by first | exact (gB_t (by omega)).symm | exact (gB_f (by omega)).symm) rfl
    · refine r_iconst C dX5_in_10 ?_
      refine r_goto (tgt := 15) C dX5_in_11 (by decide) ?_
      exact r_zretD C dX5_in_15 (by omega) (by first | exact (gB_t (by omega)).symm | exact (gB_f (by omega)).symm) rfl

set_option maxRecDepth 100000 in
set_option maxHeartbeats 4000000 in
theorem c_X5_isRoom {l : Launch} {D : va_G} {ty : Nat → ClassId} {ad : Int → Nat} {N : Int} {σ : Int → va_E} {r : Int} (hr : -2147483648 ≤ r ∧ r < 2147483648) : gM0 l yX5_isRoom cX5_isRoom 1 (some .boolean) 1 22 [.int (gI r)] D ty ad N (σ) (some (.int (gI (gB (0 ≤ r ∧ r ≤ 5))))) (σ) := by
  refine gMet_of [some (.int (gI r))] (by decide +kernel) rfl (Nat.le_of_ble_eq_true rfl) rfl ?_
  intro X hl hD hty C hini
  subst hl hD hty
  refine r_iload_n C dX5_isRoom_0 rfl rfl ?_
  refine r_iconst C dX5_isRoom_1 ?_
  refine r_iconst C dX5_isRoom_2 ?_
  refine r_cS C cwX5_29 (c_X5_in (by omega) (by omega) (by omega)) dX5_isRoom_3 rfl rfl rfl (Nat.le_of_ble_eq_true rfl) ⟨Nat.le_of_ble_eq_true rfl, Nat.le_of_ble_eq_true rfl⟩ ⟨Nat.le_of_ble_eq_true rfl, Nat.le_of_ble_eq_true rfl⟩ ?_
  exact r_zretD C dX5_isRoom_6 (by have := gB_rng (0 ≤ r ∧ r ≤ 5); omega) rfl rfl

set_option maxRecDepth 100000 in
set_option maxHeartbeats 4000000 in
theorem c_X5_of {l : Launch} {D : va_G} {ty : Nat → ClassId} {ad : Int → Nat} {N : Int} {σ : Int → va_E} {a : Int} {s : Int → Int} {r w : Int} (ha : 0 ≤ a ∧ a < N) (hg : σ a = gAr (ty 0) 99 s) (hr : 0 ≤ r ∧ r < 6) (hw : 0 ≤ w ∧ w < 15) : gM0 l yX5_of cX5_of 3 (some .int) 0 0 [.ref (ad a), .int (gI r), .int (gI w)] D ty ad N (σ) (some (.int (gI (rm s r w)))) (σ) := by
  refine gMet_of [some (.ref (ad a)), some (.int (gI r)), some (.int (gI w))] (by decide +kernel) rfl (Nat.le_of_ble_eq_true rfl) rfl ?_
  intro X hl hD hty C hini
  subst hl hD hty
  refine r_aload_n C dX5_of_0 rfl rfl ?_
  refine r_bipush C dX5_of_1 (by decide) ?_
  refine r_bipush C dX5_of_3 (by decide) ?_
  refine r_iload_n C dX5_of_5 rfl rfl ?_
  refine r_imul C dX5_of_6 ?_
  refine r_iadd C dX5_of_7 ?_
  refine r_iload_n C dX5_of_8 rfl rfl ?_
  refine r_iadd C dX5_of_9 ?_
  refine r_iald C dX5_of_10 ha hg (by omega) (by omega) ?_
  exact r_iretD C dX5_of_11 (rm_at s r hw).symm rfl

set_option maxRecDepth 100000 in
set_option maxHeartbeats 4000000 in
theorem c_X5_isLit {l : Launch} {D : va_G} {ty : Nat → ClassId} {ad : Int → Nat} {N : Int} {σ : Int → va_E} {a : Int} {s : Int → Int} {r : Int} (ha : 0 ≤ a ∧ a < N) (hg : σ a = gAr (ty 0) 99 s) (hs : okS s) (hr : 0 ≤ r ∧ r < 6) : gM0 l yX5_isLit cX5_isLit 2 (some .boolean) 1 22 [.ref (ad a), .int (gI r)] D ty ad N (σ) (some (.int (gI (gB (rm s r 1 = 1))))) (σ) := by
  refine gMet_of [some (.ref (ad a)), some (.int (gI r))] (by decide +kernel) rfl (Nat.le_of_ble_eq_true rfl) rfl ?_
  intro X hl hD hty C hini
  subst hl hD hty
  have hq := hs.rm hr
  have hql := hq.len
  have hqb := hq.bur
  have hqd := hq.door
  have hqm := hq.many
  have hqw := hq.wick
  have hqs := hq.shi
  refine r_aload_n C dX5_isLit_0 rfl rfl ?_
  refine r_iload_n C dX5_isLit_1 rfl rfl ?_
  refine r_iconst C dX5_isLit_2 ?_
  refine r_cS C cwX5_33 (c_X5_of (s := s) ha hg (by omega) (by omega)) dX5_isLit_3 rfl rfl rfl (Nat.le_of_ble_eq_true rfl) ⟨Nat.le_of_ble_eq_true rfl, Nat.le_of_ble_eq_true rfl⟩ ⟨Nat.le_of_ble_eq_true rfl, Nat.le_of_ble_eq_true rfl⟩ ?_
  refine r_iconst C dX5_isLit_6 ?_
  refine r_icmp_ne (tgt := 14) C dX5_isLit_7 (by decide) (by omega) (by omega) (fun h7 => ?_) (fun h7 => ?_)
  · refine r_iconst C dX5_isLit_14 ?_
    exact r_zretD C dX5_isLit_15 (by omega) (by first | exact (gB_t (by omega)).symm | exact (gB_f (by omega)).symm) rfl
  · refine r_iconst C dX5_isLit_10 ?_
    refine r_goto (tgt := 15) C dX5_isLit_11 (by decide) ?_
    exact r_zretD C dX5_isLit_15 (by omega) (by first | exact (gB_t (by omega)).symm | exact (gB_f (by omega)).symm) rfl

set_option maxRecDepth 100000 in
set_option maxHeartbeats 4000000 in
theorem c_X5_burning {l : Launch} {D : va_G} {ty : Nat → ClassId} {ad : Int → Nat} {N : Int} {σ : Int → va_E} {a : Int} {s : Int → Int} (ha : 0 ≤ a ∧ a < N) (hg : σ a = gAr (ty 0) 99 s) (hs : okS s) : gM0 l yX5_burning cX5_burning 3 (some .int) 1 22 [.ref (ad a)] D ty ad N (σ) (some (.int (gI (cb s)))) (σ) := by
  refine gMet_of [some (.ref (ad a)), none, none] (by decide +kernel) rfl (Nat.le_of_ble_eq_true rfl) rfl ?_
  intro X hl hD hty C hini
  subst hl hD hty
  refine r_iconst C dX5_burning_0 ?_
  refine r_istore_n C dX5_burning_1 rfl (Nat.le_of_ble_eq_true rfl) rfl ?_
  dsimp only [List.set]
  refine r_iconst C dX5_burning_2 ?_
  refine r_istore_n C dX5_burning_3 rfl (Nat.le_of_ble_eq_true rfl) rfl ?_
  dsimp only [List.set]
  have lp : ∀ (n : Nat) (p g : Int), (0 ≤ p) → (p + n = 6) → (g + sumF (fun r => rm s r 1) n p = cb s) → V X 0 0 (gQ X (gD (some (.int (gI (cb s)))) ad N (σ)) 0 0) 4 [some (.ref (ad a)), some (.int (gI g)), some (.int (gI p))] [] ad N (σ) := by
    intro n
    induction n with
    | zero =>
      intro p g hp hpn e
      refine r_iload_n C dX5_burning_4 rfl rfl ?_
      refine r_bipush C dX5_burning_5 (by decide) ?_
      refine r_icmp_ge (tgt := 25) C dX5_burning_7 (by decide) (by omega) (by omega) (fun h7 => ?_) (fun h7 => ?_)
      · refine r_iload_n C dX5_burning_25 rfl rfl ?_
        exact r_iretD C dX5_burning_26 (by rw [← e]; simp only [sumF]; omega) rfl
      · exact absurd h7 (by omega)
    | succ n ih =>
      intro p g hp hpn e
      have hq := (hs.rm (r := p) (by omega)).bur
      refine r_iload_n C dX5_burning_4 rfl rfl ?_
      refine r_bipush C dX5_burning_5 (by decide) ?_
      refine r_icmp_ge (tgt := 25) C dX5_burning_7 (by decide) (by omega) (by omega) (fun h7 => ?_) (fun h7 => ?_)
      · exact absurd h7 (by omega)
      · refine r_iload_n C dX5_burning_10 rfl rfl ?_
        refine r_aload_n C dX5_burning_11 rfl rfl ?_
        refine r_iload_n C dX5_burning_12 rfl rfl ?_
        refine r_iconst C dX5_burning_13 ?_
        refine r_cS C cwX5_33 (c_X5_of (s := s) ha hg (by omega) (by omega)) dX5_burning_14 rfl rfl rfl (Nat.le_of_ble_eq_true rfl) ⟨Nat.le_of_ble_eq_true rfl, Nat.le_of_ble_eq_true rfl⟩ ⟨Nat.le_of_ble_eq_true rfl, Nat.le_of_ble_eq_true rfl⟩ ?_
        refine r_iadd C dX5_burning_17 ?_
        refine r_istore_n C dX5_burning_18 rfl (Nat.le_of_ble_eq_true rfl) rfl ?_
        dsimp only [List.set]
        refine r_iinc C dX5_burning_19 rfl rfl ?_
        dsimp only [List.set]
        refine r_goto (tgt := 4) C dX5_burning_22 (by decide) ?_
        exact ih _ _ (by omega) (by omega) (by rw [← e]; simp only [sumF]; omega)
  exact lp 6 0 0 (by omega) (by omega) (by unfold cb; omega)

set_option maxRecDepth 100000 in
set_option maxHeartbeats 4000000 in
theorem c_X5_mayStrike {l : Launch} {D : va_G} {ty : Nat → ClassId} {ad : Int → Nat} {N : Int} {σ : Int → va_E} {a : Int} {s : Int → Int} {r : Int} (ha : 0 ≤ a ∧ a < N) (hg : σ a = gAr (ty 0) 99 s) (hs : okS s) (hr : 0 ≤ r ∧ r < 6) : gM0 l yX5_mayStrike cX5_mayStrike 2 (some .boolean) 2 44 [.ref (ad a), .int (gI r)] D ty ad N (σ) (some (.int (gI (gB (mayS s r))))) (σ) := by
  refine gMet_of [some (.ref (ad a)), some (.int (gI r))] (by decide +kernel) rfl (Nat.le_of_ble_eq_true rfl) rfl ?_
  intro X hl hD hty C hini
  subst hl hD hty
  have hcb := cb_rng hs
  have hq := hs.rm hr
  have hql := hq.len
  have hqb := hq.bur
  have hqd := hq.door
  have hqm := hq.many
  have hqw := hq.wick
  have hqs := hq.shi
  refine r_aload_n C dX5_mayStrike_0 rfl rfl ?_
  refine r_cS C cwX5_48 (c_X5_burning (s := s) ha hg hs) dX5_mayStrike_1 rfl rfl rfl (Nat.le_of_ble_eq_true rfl) ⟨Nat.le_of_ble_eq_true rfl, Nat.le_of_ble_eq_true rfl⟩ ⟨Nat.le_of_ble_eq_true rfl, Nat.le_of_ble_eq_true rfl⟩ ?_
  refine r_if_ne (tgt := 20) C dX5_mayStrike_4 (by decide) (by omega) (fun h4 => ?_) (fun h4 => ?_)
  · refine r_iconst C dX5_mayStrike_20 ?_
    exact r_zretD C dX5_mayStrike_21 (by omega) (by first | exact (gB_t (by unfold mayS; omega)).symm | exact (gB_f (by unfold mayS; omega)).symm) rfl
  · refine r_aload_n C dX5_mayStrike_7 rfl rfl ?_
    refine r_iload_n C dX5_mayStrike_8 rfl rfl ?_
    refine r_iconst C dX5_mayStrike_9 ?_
    refine r_cS C cwX5_33 (c_X5_of (s := s) ha hg (by omega) (by omega)) dX5_mayStrike_10 rfl rfl rfl (Nat.le_of_ble_eq_true rfl) ⟨Nat.le_of_ble_eq_true rfl, Nat.le_of_ble_eq_true rfl⟩ ⟨Nat.le_of_ble_eq_true rfl, Nat.le_of_ble_eq_true rfl⟩ ?_
    refine r_if_le (tgt := 20) C dX5_mayStrike_13 (by decide) (by omega) (fun h13 => ?_) (fun h13 => ?_)
    · refine r_iconst C dX5_mayStrike_20 ?_
      exact r_zretD C dX5_mayStrike_21 (by omega) (by first | exact (gB_t (by unfold mayS; omega)).symm | exact (gB_f (by unfold mayS; omega)).symm) rfl
    · refine r_iconst C dX5_mayStrike_16 ?_
      refine r_goto (tgt := 21) C dX5_mayStrike_17 (by decide) ?_
      exact r_zretD C dX5_mayStrike_21 (by omega) (by first | exact (gB_t (by unfold mayS; omega)).symm | exact (gB_f (by unfold mayS; omega)).symm) rfl

set_option maxRecDepth 100000 in
set_option maxHeartbeats 4000000 in
theorem c_X5_isOpen {l : Launch} {D : va_G} {ty : Nat → ClassId} {ad : Int → Nat} {N : Int} {σ : Int → va_E} {a : Int} {s : Int → Int} {r o : Int} (ha : 0 ≤ a ∧ a < N) (hg : σ a = gAr (ty 0) 99 s) (hs : okS s) (hr : 0 ≤ r ∧ r < 6) (ho : 0 ≤ o ∧ o < 6) : gM0 l yX5_isOpen cX5_isOpen 3 (some .boolean) 1 22 [.ref (ad a), .int (gI r), .int (gI o)] D ty ad N (σ) (some (.int (gI (gB (joined s r o))))) (σ) := by
  refine gMet_of [some (.ref (ad a)), some (.int (gI r)), some (.int (gI o))] (by decide +kernel) rfl (Nat.le_of_ble_eq_true rfl) rfl ?_
  intro X hl hD hty C hini
  subst hl hD hty
  have hqd := (hs.rm hr).door
  have hod := (hs.rm ho).door
  refine r_iload_n C dX5_isOpen_0 rfl rfl ?_
  refine r_iload_n C dX5_isOpen_1 rfl rfl ?_
  refine r_iconst C dX5_isOpen_2 ?_
  refine r_iadd C dX5_isOpen_3 ?_
  refine r_bipush C dX5_isOpen_4 (by decide) ?_
  refine r_irem C dX5_isOpen_6 (by omega) (by omega) ?_
  refine r_icmp_ne (tgt := 20) C dX5_isOpen_7 (by decide) (by omega) (by omega) (fun h7 => ?_) (fun h7 => ?_)
  · refine r_iload_n C dX5_isOpen_20 rfl rfl ?_
    refine r_iload_n C dX5_isOpen_21 rfl rfl ?_
    refine r_iconst C dX5_isOpen_22 ?_
    refine r_iadd C dX5_isOpen_23 ?_
    refine r_bipush C dX5_isOpen_24 (by decide) ?_
    refine r_irem C dX5_isOpen_26 (by omega) (by omega) ?_
    refine r_icmp_ne (tgt := 44) C dX5_isOpen_27 (by decide) (by omega) (by omega) (fun h27 => ?_) (fun h27 => ?_)
    · refine r_iconst C dX5_isOpen_44 ?_
      exact r_zretD C dX5_isOpen_45 (by omega) (by first | exact (gB_t (by unfold joined; omega)).symm | exact (gB_f (by unfold joined; omega)).symm) rfl
    · refine r_aload_n C dX5_isOpen_30 rfl rfl ?_
      refine r_iload_n C dX5_isOpen_31 rfl rfl ?_
      refine r_iconst C dX5_isOpen_32 ?_
      refine r_cS C cwX5_33 (c_X5_of (s := s) ha hg (by omega) (by omega)) dX5_isOpen_33 rfl rfl rfl (Nat.le_of_ble_eq_true rfl) ⟨Nat.le_of_ble_eq_true rfl, Nat.le_of_ble_eq_true rfl⟩ ⟨Nat.le_of_ble_eq_true rfl, Nat.le_of_ble_eq_true rfl⟩ ?_
      refine r_iconst C dX5_isOpen_36 ?_
      refine r_icmp_ne (tgt := 44) C dX5_isOpen_37 (by decide) (by omega) (by omega) (fun h37 => ?_) (fun h37 => ?_)
      · refine r_iconst C dX5_isOpen_44 ?_
        exact r_zretD C dX5_isOpen_45 (by omega) (by first | exact (gB_t (by unfold joined; omega)).symm | exact (gB_f (by unfold joined; omega)).symm) rfl
      · refine r_iconst C dX5_isOpen_40 ?_
        refine r_goto (tgt := 45) C dX5_isOpen_41 (by decide) ?_
        exact r_zretD C dX5_isOpen_45 (by omega) (by first | exact (gB_t (by unfold joined; omega)).symm | exact (gB_f (by unfold joined; omega)).symm) rfl
  · refine r_aload_n C dX5_isOpen_10 rfl rfl ?_
    refine r_iload_n C dX5_isOpen_11 rfl rfl ?_
    refine r_iconst C dX5_isOpen_12 ?_
    refine r_cS C cwX5_33 (c_X5_of (s := s) ha hg (by omega) (by omega)) dX5_isOpen_13 rfl rfl rfl (Nat.le_of_ble_eq_true rfl) ⟨Nat.le_of_ble_eq_true rfl, Nat.le_of_ble_eq_true rfl⟩ ⟨Nat.le_of_ble_eq_true rfl, Nat.le_of_ble_eq_true rfl⟩ ?_
    refine r_iconst C dX5_isOpen_16 ?_
    refine r_icmp_eq (tgt := 40) C dX5_isOpen_17 (by decide) (by omega) (by omega) (fun h17 => ?_) (fun h17 => ?_)
    · refine r_iconst C dX5_isOpen_40 ?_
      refine r_goto (tgt := 45) C dX5_isOpen_41 (by decide) ?_
      exact r_zretD C dX5_isOpen_45 (by omega) (by first | exact (gB_t (by unfold joined; omega)).symm | exact (gB_f (by unfold joined; omega)).symm) rfl
    · refine r_iload_n C dX5_isOpen_20 rfl rfl ?_
      refine r_iload_n C dX5_isOpen_21 rfl rfl ?_
      refine r_iconst C dX5_isOpen_22 ?_
      refine r_iadd C dX5_isOpen_23 ?_
      refine r_bipush C dX5_isOpen_24 (by decide) ?_
      refine r_irem C dX5_isOpen_26 (by omega) (by omega) ?_
      refine r_icmp_ne (tgt := 44) C dX5_isOpen_27 (by decide) (by omega) (by omega) (fun h27 => ?_) (fun h27 => ?_)
      · refine r_iconst C dX5_isOpen_44 ?_
        exact r_zretD C dX5_isOpen_45 (by omega) (by first | exact (gB_t (by unfold joined; omega)).symm | exact (gB_f (by unfold joined; omega)).symm) rfl
      · refine r_aload_n C dX5_isOpen_30 rfl rfl ?_
        refine r_iload_n C dX5_isOpen_31 rfl rfl ?_
        refine r_iconst C dX5_isOpen_32 ?_
        refine r_cS C cwX5_33 (c_X5_of (s := s) ha hg (by omega) (by omega)) dX5_isOpen_33 rfl rfl rfl (Nat.le_of_ble_eq_true rfl) ⟨Nat.le_of_ble_eq_true rfl, Nat.le_of_ble_eq_true rfl⟩ ⟨Nat.le_of_ble_eq_true rfl, Nat.le_of_ble_eq_true rfl⟩ ?_
        refine r_iconst C dX5_isOpen_36 ?_
        refine r_icmp_ne (tgt := 44) C dX5_isOpen_37 (by decide) (by omega) (by omega) (fun h37 => ?_) (fun h37 => ?_)
        · refine r_iconst C dX5_isOpen_44 ?_
          exact r_zretD C dX5_isOpen_45 (by omega) (by first | exact (gB_t (by unfold joined; omega)).symm | exact (gB_f (by unfold joined; omega)).symm) rfl
        · refine r_iconst C dX5_isOpen_40 ?_
          refine r_goto (tgt := 45) C dX5_isOpen_41 (by decide) ?_
          exact r_zretD C dX5_isOpen_45 (by omega) (by first | exact (gB_t (by unfold joined; omega)).symm | exact (gB_f (by unfold joined; omega)).symm) rfl

set_option maxRecDepth 100000 in
set_option maxHeartbeats 4000000 in
theorem c_X5_mayLight {l : Launch} {D : va_G} {ty : Nat → ClassId} {ad : Int → Nat} {N : Int} {σ : Int → va_E} {a : Int} {s : Int → Int} {r o : Int} (ha : 0 ≤ a ∧ a < N) (hg : σ a = gAr (ty 0) 99 s) (hs : okS s) (hr : 0 ≤ r ∧ r < 6) (ho : 0 ≤ o ∧ o < 6) : gM0 l yX5_mayLight cX5_mayLight 3 (some .boolean) 2 44 [.ref (ad a), .int (gI r), .int (gI o)] D ty ad N (σ) (some (.int (gI (gB (mayL s r o))))) (σ) := by
  refine gMet_of [some (.ref (ad a)), some (.int (gI r)), some (.int (gI o))] (by decide +kernel) rfl (Nat.le_of_ble_eq_true rfl) rfl ?_
  intro X hl hD hty C hini
  subst hl hD hty
  have hq := hs.rm hr
  have hql := hq.len
  have hqb := hq.bur
  have hqd := hq.door
  have hqm := hq.many
  have hqw := hq.wick
  have hqs := hq.shi
  have hob := (hs.rm ho).bur
  refine r_aload_n C dX5_mayLight_0 rfl rfl ?_
  refine r_iload_n C dX5_mayLight_1 rfl rfl ?_
  refine r_cS C cwX5_52 (c_X5_isLit (s := s) ha hg hs (by omega)) dX5_mayLight_2 rfl rfl rfl (Nat.le_of_ble_eq_true rfl) ⟨Nat.le_of_ble_eq_true rfl, Nat.le_of_ble_eq_true rfl⟩ ⟨Nat.le_of_ble_eq_true rfl, Nat.le_of_ble_eq_true rfl⟩ ?_
  refine r_ifb_ne (tgt := 38) C dX5_mayLight_5 (by decide) (fun h5 => ?_) (fun h5 => ?_)
  · refine r_iconst C dX5_mayLight_38 ?_
    exact r_zretD C dX5_mayLight_39 (by omega) (by first | exact (gB_t ⟨by omega, by omega, h22, h31⟩).symm | exact (gB_f (fun h => h31 h.2.2.2)).symm | exact (gB_f (fun h => h22 h.2.2.1)).symm | exact (gB_f (fun h => by have := h.1; have := h.2.1; omega)).symm) rfl
  · refine r_aload_n C dX5_mayLight_8 rfl rfl ?_
    refine r_iload_n C dX5_mayLight_9 rfl rfl ?_
    refine r_iconst C dX5_mayLight_10 ?_
    refine r_cS C cwX5_33 (c_X5_of (s := s) ha hg (by omega) (by omega)) dX5_mayLight_11 rfl rfl rfl (Nat.le_of_ble_eq_true rfl) ⟨Nat.le_of_ble_eq_true rfl, Nat.le_of_ble_eq_true rfl⟩ ⟨Nat.le_of_ble_eq_true rfl, Nat.le_of_ble_eq_true rfl⟩ ?_
    refine r_if_le (tgt := 38) C dX5_mayLight_14 (by decide) (by omega) (fun h14 => ?_) (fun h14 => ?_)
    · refine r_iconst C dX5_mayLight_38 ?_
      exact r_zretD C dX5_mayLight_39 (by omega) (by first | exact (gB_t ⟨by omega, by omega, h22, h31⟩).symm | exact (gB_f (fun h => h31 h.2.2.2)).symm | exact (gB_f (fun h => h22 h.2.2.1)).symm | exact (gB_f (fun h => by have := h.1; have := h.2.1; omega)).symm) rfl
    · refine r_aload_n C dX5_mayLight_17 rfl rfl ?_
      refine r_iload_n C dX5_mayLight_18 rfl rfl ?_
      refine r_cS C cwX5_52 (c_X5_isLit (s := s) ha hg hs (by omega)) dX5_mayLight_19 rfl rfl rfl (Nat.le_of_ble_eq_true rfl) ⟨Nat.le_of_ble_eq_true rfl, Nat.le_of_ble_eq_true rfl⟩ ⟨Nat.le_of_ble_eq_true rfl, Nat.le_of_ble_eq_true rfl⟩ ?_
      refine r_ifb_eq (tgt := 38) C dX5_mayLight_22 (by decide) (fun h22 => ?_) (fun h22 => ?_)
      · refine r_iconst C dX5_mayLight_38 ?_
        exact r_zretD C dX5_mayLight_39 (by omega) (by first | exact (gB_t ⟨by omega, by omega, h22, h31⟩).symm | exact (gB_f (fun h => h31 h.2.2.2)).symm | exact (gB_f (fun h => h22 h.2.2.1)).symm | exact (gB_f (fun h => by have := h.1; have := h.2.1; omega)).symm) rfl
      · refine r_aload_n C dX5_mayLight_25 rfl rfl ?_
        refine r_iload_n C dX5_mayLight_26 rfl rfl ?_
        refine r_iload_n C dX5_mayLight_27 rfl rfl ?_
        refine r_cS C cwX5_56 (c_X5_isOpen (s := s) ha hg hs (by omega) (by omega)) dX5_mayLight_28 rfl rfl rfl (Nat.le_of_ble_eq_true rfl) ⟨Nat.le_of_ble_eq_true rfl, Nat.le_of_ble_eq_true rfl⟩ ⟨Nat.le_of_ble_eq_true rfl, Nat.le_of_ble_eq_true rfl⟩ ?_
        refine r_ifb_eq (tgt := 38) C dX5_mayLight_31 (by decide) (fun h31 => ?_) (fun h31 => ?_)
        · refine r_iconst C dX5_mayLight_38 ?_
          exact r_zretD C dX5_mayLight_39 (by omega) (by first | exact (gB_t ⟨by omega, by omega, h22, h31⟩).symm | exact (gB_f (fun h => h31 h.2.2.2)).symm | exact (gB_f (fun h => h22 h.2.2.1)).symm | exact (gB_f (fun h => by have := h.1; have := h.2.1; omega)).symm) rfl
        · refine r_iconst C dX5_mayLight_34 ?_
          refine r_goto (tgt := 39) C dX5_mayLight_35 (by decide) ?_
          exact r_zretD C dX5_mayLight_39 (by omega) (by first | exact (gB_t ⟨by omega, by omega, h22, h31⟩).symm | exact (gB_f (fun h => h31 h.2.2.2)).symm | exact (gB_f (fun h => h22 h.2.2.1)).symm | exact (gB_f (fun h => by have := h.1; have := h.2.1; omega)).symm) rfl

set_option maxRecDepth 100000 in
set_option maxHeartbeats 4000000 in
theorem c_X5_lights {l : Launch} {D : va_G} {ty : Nat → ClassId} {ad : Int → Nat} {N : Int} {σ : Int → va_E} {a : Int} {s : Int → Int} {r : Int} (ha : 0 ≤ a ∧ a < N) (hr : 0 ≤ r ∧ r < 6) : gM0 l yX5_lights cX5_lights 2 none 0 0 [.ref (ad a), .int (gI r)] D ty ad N (up σ a (gAr (ty 0) 99 (s))) (none) (up σ a (gAr (ty 0) 99 (light1 s r))) := by
  refine gMet_of [some (.ref (ad a)), some (.int (gI r))] (by decide +kernel) rfl (Nat.le_of_ble_eq_true rfl) rfl ?_
  intro X hl hD hty C hini
  subst hl hD hty
  refine r_aload_n C dX5_lights_0 rfl rfl ?_
  refine r_bipush C dX5_lights_1 (by decide) ?_
  refine r_bipush C dX5_lights_3 (by decide) ?_
  refine r_iload_n C dX5_lights_5 rfl rfl ?_
  refine r_imul C dX5_lights_6 ?_
  refine r_iadd C dX5_lights_7 ?_
  refine r_iconst C dX5_lights_8 ?_
  refine r_iadd C dX5_lights_9 ?_
  refine r_iconst C dX5_lights_10 ?_
  refine r_iast C dX5_lights_11 ha (up_s _ _ _) (by omega) (by omega) ?_
  rw [up_up]
  exact r_vretD C dX5_lights_12 rfl

theorem srm_mv (s ρ : Int → Int) (r : Int) {j : Int} (h : 0 ≤ j ∧ j < 15) (z : Int) : up (srm s r ρ) (9 + 15 * r + j) z = srm s r (up ρ j z) := by
  funext i
  unfold srm
  by_cases e : i = 9 + 15 * r + j
  · rw [e, up_s, if_pos (by omega), show 9 + 15 * r + j - (9 + 15 * r) = j by omega, up_s]
  · rw [up_n e]
    split
    · rw [up_n (by omega)]
    · rfl
theorem srm_m0 (s ρ : Int → Int) (r : Int) (z : Int) : up (srm s r ρ) (9 + 15 * r) z = srm s r (up ρ 0 z) := by
  have h := srm_mv s ρ r (j := 0) (by omega) z
  rw [show 9 + 15 * r + 0 = 9 + 15 * r by omega] at h
  exact h
theorem srm_m2 (s ρ : Int → Int) (r : Int) {j i : Int} (h : 0 ≤ j + i ∧ j + i < 15) (z : Int) : up (srm s r ρ) (9 + 15 * r + j + i) z = srm s r (up ρ (j + i) z) := by
  have h := srm_mv s ρ r h z
  rw [← Int.add_assoc] at h
  exact h
theorem srm_at (s ρ : Int → Int) (r : Int) {j : Int} (h : 0 ≤ j ∧ j < 15) : srm s r ρ (9 + 15 * r + j) = ρ j := by
  unfold srm; rw [if_pos (by omega)]; congr 1; omega
theorem srm_a0 (s ρ : Int → Int) (r : Int) : srm s r ρ (9 + 15 * r) = ρ 0 := by
  unfold srm; rw [if_pos (by omega)]; congr 1; omega
theorem srm_a2 (s ρ : Int → Int) (r : Int) {j i : Int} (h : 0 ≤ j + i ∧ j + i < 15) : srm s r ρ (9 + 15 * r + j + i) = ρ (j + i) := by
  unfold srm; rw [if_pos (by omega)]; congr 1; omega
theorem srm_lw (s ρ : Int → Int) (r : Int) {j z : Int} (h : j < 9 + 15 * r) : up (srm s r ρ) j z = srm (up s j z) r ρ := by
  funext i
  unfold srm
  by_cases e : i = j
  · rw [e, up_s, if_neg (by omega), up_s]
  · rw [up_n e]
    split
    · rfl
    · rw [up_n e]
theorem renew_raw (s : Int → Int) {r : Int} (hr : 0 ≤ r ∧ r < 6) : up (up (up (up s 1 (s 1 - 1)) (9 + 15 * r) 20) (9 + 15 * r + 1) 0) (9 + 15 * r + 2) 0 = renew s r := by
  unfold renew newR
  have h := srm_rm (up s 1 (s 1 - 1)) r
  rw [srm_lw _ _ _ (by omega), ← h, srm_m0, srm_mv _ _ _ (by omega), srm_mv _ _ _ (by omega), h, up_sw _ (show (1 : Int) ≠ 2 by omega), rm_up_lo (by omega)]
theorem burn_a {ρ : Int → Int} {L B W : Int} (h1 : ρ 1 ≠ 0) (hl : L = max 0 (ρ 0 - lessR (ρ 2))) (hB : (0 < L ∧ B = 1 ∧ W = min 9 (ρ 2 + 1)) ∨ (L ≤ 0 ∧ B = 0 ∧ W = ρ 2)) : up (up (up (up ρ 4 (ρ 4 + 1)) 0 L) 1 B) 2 W = burnR ρ := by
  unfold burnR
  rw [if_neg h1]
  subst hl
  rcases hB with ⟨h, rfl, rfl⟩ | ⟨h, rfl, rfl⟩
  · rw [if_pos h]
  · rw [if_neg (by omega)]
    exact up_id (by rw [up_n (by omega), up_n (by omega), up_n (by omega)])
theorem blN_2 (s : Int → Int) (z : Int) : ∀ (n : Nat) (p : Int), blN (up s 2 z) n p = blN s n p
  | 0, p => rfl
  | n + 1, p => by
    unfold blN
    rw [up_n (by omega), rm_up_lo (by omega), blN_2 s z n (p + 1)]
theorem blown_2 (s : Int → Int) (z : Int) : blown (up s 2 z) = blown s := by
  unfold blown; rw [up_n (by omega), blN_2]
theorem mapR_2 (g : Int → (Int → Int) → (Int → Int)) (s : Int → Int) (z p : Int) : mapR g (up s 2 z) p = up (mapR g s p) 2 z := by
  funext j
  by_cases h : j = 2
  · rw [h, up_s, mapR_lo (by omega), up_s]
  · rw [up_n h]
    unfold mapR
    split
    · rw [rm_up_lo (by omega)]
    · rw [up_n h]
theorem offTo_2 (s : Int → Int) (z d p : Int) : offTo (up s 2 z) d p = up (offTo s d p) 2 z := by
  funext j
  by_cases h : j = 2
  · rw [h, up_s, offTo_lo (by omega), up_s]
  · rw [up_n h]
    unfold offTo
    rw [up_n h]
theorem cbF_2 (s : Int → Int) (z a b : Int) : cbF (up s 2 z) a b = cbF s a b := by
  unfold cbF
  exact sumF_cong _ _ fun i h1 h2 => by rw [rm_up_lo (by omega)]
theorem blow_2 (s : Int → Int) (z : Int) : blow (up s 2 z) = up (blow s) 2 z := by
  unfold blow
  rw [blown_2, up_n (show (6 : Int) ≠ 2 by omega), up_n (show (7 : Int) ≠ 2 by omega), cbF_2, up_sw _ (show (2 : Int) ≠ 6 by omega), offTo_2, up_sw _ (show (2 : Int) ≠ 7 by omega), up_sw _ (show (2 : Int) ≠ 8 by omega)]
theorem mid_2 (s : Int → Int) (z : Int) : mid (up s 2 z) = up (mid s) 2 z := by
  unfold mid burnAll; rw [mapR_2, blow_2]
theorem blow_none {s : Int → Int} (h7 : s 7 = -1) (h8 : s 8 = 0) : blow s = s := by
  have hb : blown s = 0 := by unfold blown; rw [h8]; rfl
  unfold blow
  rw [hb, h7, offTo_0, show cbF s (-1) 0 = 0 from rfl, up_id (show s 6 = s 6 + 0 by omega), up_id h7, up_id h8]
def ageA (s : Int → Int) (r : Int) : Int → Int := up (srm s r (ageR (rm s r) (s 0))) 3 (s 3 + (rm s r 6 - ageQ (rm s r) (s 0)))
theorem ageAll_2 (s : Int → Int) (z : Int) : ageAll (up s 2 z) = up (ageAll s) 2 z := by
  unfold ageAll; rw [up_n (show (0 : Int) ≠ 2 by omega), mapR_2]
theorem goneS_2 (s : Int → Int) (z : Int) : goneS (up s 2 z) = goneS s := by
  unfold goneS
  exact sumF_cong _ _ fun i h1 h2 => by rw [rm_up_lo (by omega), up_n (show (0 : Int) ≠ 2 by omega)]
theorem beat_raw (s : Int → Int) : up (ageAll (mid (up s 2 (s 2 + 1)))) 3 (s 3 + goneS (mid (up s 2 (s 2 + 1)))) = beat s := by
  unfold beat goneB
  rw [mid_2, ageAll_2, goneS_2, up_sw _ (show (2 : Int) ≠ 3 by omega)]
theorem ag_mv (s ρ : Int → Int) {r : Int} (hr : 0 ≤ r) {j i : Int} (h : 0 ≤ j + i ∧ j + i < 15) (z w : Int) : up (up (srm s r ρ) 3 z) (9 + 15 * r + j + i) w = up (srm s r (up ρ (j + i) w)) 3 z := by
  rw [up_sw _ (show (3 : Int) ≠ 9 + 15 * r + j + i by omega), srm_m2 _ _ _ h]
theorem ag_m1 (s ρ : Int → Int) {r : Int} (hr : 0 ≤ r) {j : Int} (h : 0 ≤ j ∧ j < 15) (z w : Int) : up (up (srm s r ρ) 3 z) (9 + 15 * r + j) w = up (srm s r (up ρ j w)) 3 z := by
  rw [up_sw _ (show (3 : Int) ≠ 9 + 15 * r + j by omega), srm_mv _ _ _ h]

set_option maxRecDepth 100000 in
set_option maxHeartbeats 4000000 in
theorem c_X5_renews {l : Launch} {D : va_G} {ty : Nat → ClassId} {ad : Int → Nat} {N : Int} {σ : Int → va_E} {a : Int} {s : Int → Int} {r : Int} (ha : 0 ≤ a ∧ a < N) (hr : 0 ≤ r ∧ r < 6) : gM0 l yX5_renews cX5_renews 2 none 0 0 [.ref (ad a), .int (gI r)] D ty ad N (up σ a (gAr (ty 0) 99 (s))) (none) (up σ a (gAr (ty 0) 99 (renew s r))) := by
  refine gMet_of [some (.ref (ad a)), some (.int (gI r))] (by decide +kernel) rfl (Nat.le_of_ble_eq_true rfl) rfl ?_
  intro X hl hD hty C hini
  subst hl hD hty
  refine r_aload_n C dX5_renews_0 rfl rfl ?_
  refine r_iconst C dX5_renews_1 ?_
  refine r_dup2 C dX5_renews_2 rfl rfl ?_
  refine r_iald C dX5_renews_3 ha (up_s _ _ _) (by omega) (by omega) ?_
  rw [show s 1 = s 1 from rfl]
  refine r_iconst C dX5_renews_4 ?_
  refine r_isub C dX5_renews_5 ?_
  refine r_iast C dX5_renews_6 ha (up_s _ _ _) (by omega) (by omega) ?_
  rw [up_up]
  refine r_aload_n C dX5_renews_7 rfl rfl ?_
  refine r_bipush C dX5_renews_8 (by decide) ?_
  refine r_bipush C dX5_renews_10 (by decide) ?_
  refine r_iload_n C dX5_renews_12 rfl rfl ?_
  refine r_imul C dX5_renews_13 ?_
  refine r_iadd C dX5_renews_14 ?_
  refine r_bipush C dX5_renews_15 (by decide) ?_
  refine r_iast C dX5_renews_17 ha (up_s _ _ _) (by omega) (by omega) ?_
  rw [up_up]
  refine r_aload_n C dX5_renews_18 rfl rfl ?_
  refine r_bipush C dX5_renews_19 (by decide) ?_
  refine r_bipush C dX5_renews_21 (by decide) ?_
  refine r_iload_n C dX5_renews_23 rfl rfl ?_
  refine r_imul C dX5_renews_24 ?_
  refine r_iadd C dX5_renews_25 ?_
  refine r_iconst C dX5_renews_26 ?_
  refine r_iadd C dX5_renews_27 ?_
  refine r_iconst C dX5_renews_28 ?_
  refine r_iast C dX5_renews_29 ha (up_s _ _ _) (by omega) (by omega) ?_
  rw [up_up]
  refine r_aload_n C dX5_renews_30 rfl rfl ?_
  refine r_bipush C dX5_renews_31 (by decide) ?_
  refine r_bipush C dX5_renews_33 (by decide) ?_
  refine r_iload_n C dX5_renews_35 rfl rfl ?_
  refine r_imul C dX5_renews_36 ?_
  refine r_iadd C dX5_renews_37 ?_
  refine r_iconst C dX5_renews_38 ?_
  refine r_iadd C dX5_renews_39 ?_
  refine r_iconst C dX5_renews_40 ?_
  refine r_iast C dX5_renews_41 ha (up_s _ _ _) (by omega) (by omega) ?_
  rw [up_up]
  exact r_vretD C dX5_renews_42 (by rw [renew_raw s hr])

set_option maxRecDepth 100000 in
set_option maxHeartbeats 4000000 in
theorem c_X5_reaches {l : Launch} {D : va_G} {ty : Nat → ClassId} {ad : Int → Nat} {N : Int} {σ : Int → va_E} {a : Int} {s : Int → Int} {d t : Int} (ha : 0 ≤ a ∧ a < N) (hg : σ a = gAr (ty 0) 99 s) (hs : okS s) (e7 : s 7 = d) (e8 : s 8 = t) (hd : 0 ≤ d) : gM0 l yX5_reaches cX5_reaches 5 (some .int) 1 22 [.ref (ad a), .int (gI d), .int (gI t)] D ty ad N (σ) (some (.int (gI (blown s)))) (σ) := by
  refine gMet_of [some (.ref (ad a)), some (.int (gI d)), some (.int (gI t)), none, none] (by decide +kernel) rfl (Nat.le_of_ble_eq_true rfl) rfl ?_
  intro X hl hD hty C hini
  subst hl hD hty
  subst e7 e8
  have hdr := hs.dra
  refine r_iconst C dX5_reaches_0 ?_
  refine r_istore_n C dX5_reaches_1 rfl (Nat.le_of_ble_eq_true rfl) rfl ?_
  dsimp only [List.set]
  refine r_iload_n C dX5_reaches_2 rfl rfl ?_
  refine r_istore C dX5_reaches_3 (Nat.le_of_ble_eq_true rfl) rfl ?_
  dsimp only [List.set]
  have lp : ∀ (n : Nat) (p : Int), (0 ≤ p) → (p + n = s 8) → (blN s n p = blown s) → V X 0 0 (gQ X (gD (some (.int (gI (blown s)))) ad N (σ)) 0 0) 5 [some (.ref (ad a)), some (.int (gI (s 7))), some (.int (gI (s 8))), some (.int (gI p)), some (.int (gI ((s 7 + p) % 6)))] [] ad N (σ) := by
    intro n
    induction n with
    | zero =>
      intro p hp hpn e
      refine r_iload_n C dX5_reaches_5 rfl rfl ?_
      refine r_iload_n C dX5_reaches_6 rfl rfl ?_
      refine r_icmp_ge (tgt := 47) C dX5_reaches_7 (by decide) (by omega) (by omega) (fun h7 => ?_) (fun h7 => ?_)
      · refine r_iload_n C dX5_reaches_47 rfl rfl ?_
        exact r_iretD C dX5_reaches_48 (by rw [← e]; simp only [blN]) rfl
      · exact absurd h7 (by omega)
    | succ n ih =>
      intro p hp hpn e
      have hq := hs.rm (r := (s 7 + p) % 6) (by omega)
      have hqs := hq.shi
      have hqd := hq.door
      refine r_iload_n C dX5_reaches_5 rfl rfl ?_
      refine r_iload_n C dX5_reaches_6 rfl rfl ?_
      refine r_icmp_ge (tgt := 47) C dX5_reaches_7 (by decide) (by omega) (by omega) (fun h7 => ?_) (fun h7 => ?_)
      · exact absurd h7 (by omega)
      · refine r_aload_n C dX5_reaches_10 rfl rfl ?_
        refine r_iload C dX5_reaches_11 rfl ?_
        refine r_iconst C dX5_reaches_13 ?_
        refine r_cS C cwX5_33 (c_X5_of (s := s) ha hg (by omega) (by omega)) dX5_reaches_14 rfl rfl rfl (Nat.le_of_ble_eq_true rfl) ⟨Nat.le_of_ble_eq_true rfl, Nat.le_of_ble_eq_true rfl⟩ ⟨Nat.le_of_ble_eq_true rfl, Nat.le_of_ble_eq_true rfl⟩ ?_
        refine r_if_ne (tgt := 47) C dX5_reaches_17 (by decide) (by omega) (fun h17 => ?_) (fun h17 => ?_)
        · refine r_iload_n C dX5_reaches_47 rfl rfl ?_
          exact r_iretD C dX5_reaches_48 (by rw [← e]; simp only [blN]; rw [if_pos (by omega)]) rfl
        · refine r_iinc C dX5_reaches_20 rfl rfl ?_
          dsimp only [List.set]
          refine r_aload_n C dX5_reaches_23 rfl rfl ?_
          refine r_iload C dX5_reaches_24 rfl ?_
          refine r_iconst C dX5_reaches_26 ?_
          refine r_cS C cwX5_33 (c_X5_of (s := s) ha hg (by omega) (by omega)) dX5_reaches_27 rfl rfl rfl (Nat.le_of_ble_eq_true rfl) ⟨Nat.le_of_ble_eq_true rfl, Nat.le_of_ble_eq_true rfl⟩ ⟨Nat.le_of_ble_eq_true rfl, Nat.le_of_ble_eq_true rfl⟩ ?_
          refine r_if_ne (tgt := 35) C dX5_reaches_30 (by decide) (by omega) (fun h30 => ?_) (fun h30 => ?_)
          · refine r_iload C dX5_reaches_35 rfl ?_
            refine r_iconst C dX5_reaches_37 ?_
            refine r_iadd C dX5_reaches_38 ?_
            refine r_bipush C dX5_reaches_39 (by decide) ?_
            refine r_irem C dX5_reaches_41 (by omega) (by omega) ?_
            rw [show ((s 7 + p) % 6 + 1) % 6 = (s 7 + (p + 1)) % 6 by omega]
            refine r_istore C dX5_reaches_42 (Nat.le_of_ble_eq_true rfl) rfl ?_
            dsimp only [List.set]
            refine r_goto (tgt := 5) C dX5_reaches_44 (by decide) ?_
            exact ih _ (by omega) (by omega) (by rw [← e]; simp only [blN]; rw [if_neg (by omega), if_neg (by omega)])
          · refine r_iload_n C dX5_reaches_33 rfl rfl ?_
            exact r_iretD C dX5_reaches_34 (by rw [← e]; simp only [blN]; rw [if_neg (by omega), if_pos (by omega)]) rfl
  have h0 := lp (s 8).toNat 0 (by omega) (by omega) rfl
  rw [show (s 7 + 0) % 6 = s 7 by omega] at h0
  exact h0

set_option maxRecDepth 100000 in
set_option maxHeartbeats 4000000 in
theorem c_X5_blows {l : Launch} {D : va_G} {ty : Nat → ClassId} {ad : Int → Nat} {N : Int} {σ : Int → va_E} {a : Int} {s : Int → Int} {d t : Int} (ha : 0 ≤ a ∧ a < N) (hg : σ a = gAr (ty 0) 99 s) (hs : okS s) (e7 : s 7 = d) (e8 : s 8 = t) (hd : 0 ≤ d) : gM0 l yX5_blows cX5_blows 5 (some .int) 2 46 [.ref (ad a), .int (gI d), .int (gI t)] D ty ad N (σ) (some (.int (gI (cbF s d (blown s))))) (σ) := by
  refine gMet_of [some (.ref (ad a)), some (.int (gI d)), some (.int (gI t)), none, none] (by decide +kernel) rfl (Nat.le_of_ble_eq_true rfl) rfl ?_
  intro X hl hD hty C hini
  subst hl hD hty
  subst e7 e8
  have hdr := hs.dra
  have hbl := blown_rng hs
  refine r_iconst C dX5_blows_0 ?_
  refine r_istore_n C dX5_blows_1 rfl (Nat.le_of_ble_eq_true rfl) rfl ?_
  dsimp only [List.set]
  refine r_iconst C dX5_blows_2 ?_
  refine r_istore C dX5_blows_3 (Nat.le_of_ble_eq_true rfl) rfl ?_
  dsimp only [List.set]
  have lp : ∀ (n : Nat) (p g : Int), (0 ≤ p) → (p + n = blown s) → (g + sumF (fun p => rm s ((s 7 + p) % 6) 1) n p = cbF s (s 7) (blown s)) → V X 0 0 (gQ X (gD (some (.int (gI (cbF s (s 7) (blown s))))) ad N (σ)) 0 0) 5 [some (.ref (ad a)), some (.int (gI (s 7))), some (.int (gI (s 8))), some (.int (gI g)), some (.int (gI p))] [] ad N (σ) := by
    intro n
    induction n with
    | zero =>
      intro p g hp hpn e
      refine r_iload C dX5_blows_5 rfl ?_
      refine r_aload_n C dX5_blows_7 rfl rfl ?_
      refine r_iload_n C dX5_blows_8 rfl rfl ?_
      refine r_iload_n C dX5_blows_9 rfl rfl ?_
      refine r_cS C cwX5_60 (c_X5_reaches (s := s) ha hg hs rfl rfl (by omega)) dX5_blows_10 rfl rfl rfl (Nat.le_of_ble_eq_true rfl) ⟨Nat.le_of_ble_eq_true rfl, Nat.le_of_ble_eq_true rfl⟩ ⟨Nat.le_of_ble_eq_true rfl, Nat.le_of_ble_eq_true rfl⟩ ?_
      refine r_icmp_ge (tgt := 37) C dX5_blows_13 (by decide) (by omega) (by omega) (fun h13 => ?_) (fun h13 => ?_)
      · refine r_iload_n C dX5_blows_37 rfl rfl ?_
        exact r_iretD C dX5_blows_38 (by rw [← e]; simp only [sumF]; omega) rfl
      · exact absurd h13 (by omega)
    | succ n ih =>
      intro p g hp hpn e
      refine r_iload C dX5_blows_5 rfl ?_
      refine r_aload_n C dX5_blows_7 rfl rfl ?_
      refine r_iload_n C dX5_blows_8 rfl rfl ?_
      refine r_iload_n C dX5_blows_9 rfl rfl ?_
      refine r_cS C cwX5_60 (c_X5_reaches (s := s) ha hg hs rfl rfl (by omega)) dX5_blows_10 rfl rfl rfl (Nat.le_of_ble_eq_true rfl) ⟨Nat.le_of_ble_eq_true rfl, Nat.le_of_ble_eq_true rfl⟩ ⟨Nat.le_of_ble_eq_true rfl, Nat.le_of_ble_eq_true rfl⟩ ?_
      refine r_icmp_ge (tgt := 37) C dX5_blows_13 (by decide) (by omega) (by omega) (fun h13 => ?_) (fun h13 => ?_)
      · exact absurd h13 (by omega)
      · refine r_iload_n C dX5_blows_16 rfl rfl ?_
        refine r_aload_n C dX5_blows_17 rfl rfl ?_
        refine r_iload_n C dX5_blows_18 rfl rfl ?_
        refine r_iload C dX5_blows_19 rfl ?_
        refine r_iadd C dX5_blows_21 ?_
        refine r_bipush C dX5_blows_22 (by decide) ?_
        refine r_irem C dX5_blows_24 (by omega) (by omega) ?_
        refine r_iconst C dX5_blows_25 ?_
        refine r_cS C cwX5_33 (c_X5_of (s := s) ha hg (by omega) (by omega)) dX5_blows_26 rfl rfl rfl (Nat.le_of_ble_eq_true rfl) ⟨Nat.le_of_ble_eq_true rfl, Nat.le_of_ble_eq_true rfl⟩ ⟨Nat.le_of_ble_eq_true rfl, Nat.le_of_ble_eq_true rfl⟩ ?_
        refine r_iadd C dX5_blows_29 ?_
        refine r_istore_n C dX5_blows_30 rfl (Nat.le_of_ble_eq_true rfl) rfl ?_
        dsimp only [List.set]
        refine r_iinc C dX5_blows_31 rfl rfl ?_
        dsimp only [List.set]
        refine r_goto (tgt := 5) C dX5_blows_34 (by decide) ?_
        exact ih _ _ (by omega) (by omega) (by rw [← e]; simp only [sumF]; omega)
  exact lp (blown s).toNat 0 0 (by omega) (by omega) (by unfold cbF; omega)

set_option maxRecDepth 100000 in
set_option maxHeartbeats 4000000 in
theorem c_X5_burns0 {l : Launch} {D : va_G} {ty : Nat → ClassId} {ad : Int → Nat} {N : Int} {σ : Int → va_E} {a : Int} {s : Int → Int} {r : Int} (ha : 0 ≤ a ∧ a < N) (hr : 0 ≤ r ∧ r < 6) (hl : 0 ≤ rm s r 0 ∧ rm s r 0 ≤ 60) (hb : rm s r 1 = 0 ∨ rm s r 1 = 1) (hwk : 0 ≤ rm s r 2 ∧ rm s r 2 ≤ 9) : gM0 l yX5_burns cX5_burns 4 none 0 0 [.ref (ad a), .int (gI r)] D ty ad N (up σ a (gAr (ty 0) 99 (srm s r (rm s r)))) (none) (up σ a (gAr (ty 0) 99 (srm s r (burnR (rm s r))))) := by
  refine gMet_of [some (.ref (ad a)), some (.int (gI r)), none, none] (by decide +kernel) rfl (Nat.le_of_ble_eq_true rfl) rfl ?_
  intro X hl hD hty C hini
  subst hl hD hty
  refine r_bipush C dX5_burns_0 (by decide) ?_
  refine r_bipush C dX5_burns_2 (by decide) ?_
  refine r_iload_n C dX5_burns_4 rfl rfl ?_
  refine r_imul C dX5_burns_5 ?_
  refine r_iadd C dX5_burns_6 ?_
  refine r_istore_n C dX5_burns_7 rfl (Nat.le_of_ble_eq_true rfl) rfl ?_
  dsimp only [List.set]
  refine r_aload_n C dX5_burns_8 rfl rfl ?_
  refine r_iload_n C dX5_burns_9 rfl rfl ?_
  refine r_iconst C dX5_burns_10 ?_
  refine r_iadd C dX5_burns_11 ?_
  refine r_iald C dX5_burns_12 ha (up_s _ _ _) (by omega) (by omega) ?_
  first | rw [srm_at _ _ _ (by omega)] | rw [srm_a0]
  try simp only [up_ap, Int.reduceEq, reduceIte]
  refine r_if_ne (tgt := 17) C dX5_burns_13 (by decide) (by omega) (fun h13 => ?_) (fun h13 => ?_)
  · refine r_iconst C dX5_burns_17 ?_
    refine r_aload_n C dX5_burns_18 rfl rfl ?_
    refine r_iload_n C dX5_burns_19 rfl rfl ?_
    refine r_iconst C dX5_burns_20 ?_
    refine r_iadd C dX5_burns_21 ?_
    refine r_iald C dX5_burns_22 ha (up_s _ _ _) (by omega) (by omega) ?_
    first | rw [srm_at _ _ _ (by omega)] | rw [srm_a0]
    try simp only [up_ap, Int.reduceEq, reduceIte]
    refine r_iconst C dX5_burns_23 ?_
    refine r_icmp_le (tgt := 31) C dX5_burns_24 (by decide) (by omega) (by omega) (fun h24 => ?_) (fun h24 => ?_)
    · refine r_iconst C dX5_burns_31 ?_
      refine r_iadd C dX5_burns_32 ?_
      refine r_aload_n C dX5_burns_33 rfl rfl ?_
      refine r_iload_n C dX5_burns_34 rfl rfl ?_
      refine r_iconst C dX5_burns_35 ?_
      refine r_iadd C dX5_burns_36 ?_
      refine r_iald C dX5_burns_37 ha (up_s _ _ _) (by omega) (by omega) ?_
      first | rw [srm_at _ _ _ (by omega)] | rw [srm_a0]
      try simp only [up_ap, Int.reduceEq, reduceIte]
      refine r_iconst C dX5_burns_38 ?_
      refine r_icmp_le (tgt := 46) C dX5_burns_39 (by decide) (by omega) (by omega) (fun h39 => ?_) (fun h39 => ?_)
      · refine r_iconst C dX5_burns_46 ?_
        refine r_iadd C dX5_burns_47 ?_
        refine r_istore_n C dX5_burns_48 rfl (Nat.le_of_ble_eq_true rfl) rfl ?_
        dsimp only [List.set]
        refine r_aload_n C dX5_burns_49 rfl rfl ?_
        refine r_iload_n C dX5_burns_50 rfl rfl ?_
        refine r_iconst C dX5_burns_51 ?_
        refine r_iadd C dX5_burns_52 ?_
        refine r_dup2 C dX5_burns_53 rfl rfl ?_
        refine r_iald C dX5_burns_54 ha (up_s _ _ _) (by omega) (by omega) ?_
        first | rw [srm_at _ _ _ (by omega)] | rw [srm_a0]
        try simp only [up_ap, Int.reduceEq, reduceIte]
        refine r_iconst C dX5_burns_55 ?_
        refine r_iadd C dX5_burns_56 ?_
        refine r_iast C dX5_burns_57 ha (up_s _ _ _) (by omega) (by omega) ?_
        rw [up_up]
        first | rw [srm_mv _ _ _ (by omega)] | rw [srm_m0]
        refine r_aload_n C dX5_burns_58 rfl rfl ?_
        refine r_iload_n C dX5_burns_59 rfl rfl ?_
        refine r_aload_n C dX5_burns_60 rfl rfl ?_
        refine r_iload_n C dX5_burns_61 rfl rfl ?_
        refine r_iald C dX5_burns_62 ha (up_s _ _ _) (by omega) (by omega) ?_
        first | rw [srm_at _ _ _ (by omega)] | rw [srm_a0]
        try simp only [up_ap, Int.reduceEq, reduceIte]
        refine r_iload_n C dX5_burns_63 rfl rfl ?_
        refine r_icmp_le (tgt := 75) C dX5_burns_64 (by decide) (by omega) (by omega) (fun h64 => ?_) (fun h64 => ?_)
        · refine r_iconst C dX5_burns_75 ?_
          refine r_iast C dX5_burns_76 ha (up_s _ _ _) (by omega) (by omega) ?_
          rw [up_up]
          first | rw [srm_mv _ _ _ (by omega)] | rw [srm_m0]
          refine r_aload_n C dX5_burns_77 rfl rfl ?_
          refine r_iload_n C dX5_burns_78 rfl rfl ?_
          refine r_iconst C dX5_burns_79 ?_
          refine r_iadd C dX5_burns_80 ?_
          refine r_aload_n C dX5_burns_81 rfl rfl ?_
          refine r_iload_n C dX5_burns_82 rfl rfl ?_
          refine r_iald C dX5_burns_83 ha (up_s _ _ _) (by omega) (by omega) ?_
          first | rw [srm_at _ _ _ (by omega)] | rw [srm_a0]
          try simp only [up_ap, Int.reduceEq, reduceIte]
          refine r_if_le (tgt := 91) C dX5_burns_84 (by decide) (by omega) (fun h84 => ?_) (fun h84 => ?_)
          · refine r_iconst C dX5_burns_91 ?_
            refine r_iast C dX5_burns_92 ha (up_s _ _ _) (by omega) (by omega) ?_
            rw [up_up]
            first | rw [srm_mv _ _ _ (by omega)] | rw [srm_m0]
            refine r_aload_n C dX5_burns_93 rfl rfl ?_
            refine r_iload_n C dX5_burns_94 rfl rfl ?_
            refine r_iconst C dX5_burns_95 ?_
            refine r_iadd C dX5_burns_96 ?_
            refine r_dup2 C dX5_burns_97 rfl rfl ?_
            refine r_iald C dX5_burns_98 ha (up_s _ _ _) (by omega) (by omega) ?_
            first | rw [srm_at _ _ _ (by omega)] | rw [srm_a0]
            try simp only [up_ap, Int.reduceEq, reduceIte]
            refine r_aload_n C dX5_burns_99 rfl rfl ?_
            refine r_iload_n C dX5_burns_100 rfl rfl ?_
            refine r_iald C dX5_burns_101 ha (up_s _ _ _) (by omega) (by omega) ?_
            first | rw [srm_at _ _ _ (by omega)] | rw [srm_a0]
            try simp only [up_ap, Int.reduceEq, reduceIte]
            refine r_if_le (tgt := 119) C dX5_burns_102 (by decide) (by omega) (fun h102 => ?_) (fun h102 => ?_)
            · refine r_iconst C dX5_burns_119 ?_
              refine r_iadd C dX5_burns_120 ?_
              refine r_iast C dX5_burns_121 ha (up_s _ _ _) (by omega) (by omega) ?_
              rw [up_up]
              first | rw [srm_mv _ _ _ (by omega)] | rw [srm_m0]
              exact r_vretD C dX5_burns_122 (congrArg (fun z => up σ a (gAr (gty X 0) 99 (srm s r z))) (burn_a (by omega) (by unfold lessR; (repeat' split) <;> omega) (by omega)))
            · refine r_aload_n C dX5_burns_105 rfl rfl ?_
              refine r_iload_n C dX5_burns_106 rfl rfl ?_
              refine r_iconst C dX5_burns_107 ?_
              refine r_iadd C dX5_burns_108 ?_
              refine r_iald C dX5_burns_109 ha (up_s _ _ _) (by omega) (by omega) ?_
              first | rw [srm_at _ _ _ (by omega)] | rw [srm_a0]
              try simp only [up_ap, Int.reduceEq, reduceIte]
              refine r_bipush C dX5_burns_110 (by decide) ?_
              refine r_icmp_ge (tgt := 119) C dX5_burns_112 (by decide) (by omega) (by omega) (fun h112 => ?_) (fun h112 => ?_)
              · refine r_iconst C dX5_burns_119 ?_
                refine r_iadd C dX5_burns_120 ?_
                refine r_iast C dX5_burns_121 ha (up_s _ _ _) (by omega) (by omega) ?_
                rw [up_up]
                first | rw [srm_mv _ _ _ (by omega)] | rw [srm_m0]
                exact r_vretD C dX5_burns_122 (congrArg (fun z => up σ a (gAr (gty X 0) 99 (srm s r z))) (burn_a (by omega) (by unfold lessR; (repeat' split) <;> omega) (by omega)))
              · refine r_iconst C dX5_burns_115 ?_
                refine r_goto (tgt := 120) C dX5_burns_116 (by decide) ?_
                refine r_iadd C dX5_burns_120 ?_
                refine r_iast C dX5_burns_121 ha (up_s _ _ _) (by omega) (by omega) ?_
                rw [up_up]
                first | rw [srm_mv _ _ _ (by omega)] | rw [srm_m0]
                exact r_vretD C dX5_burns_122 (congrArg (fun z => up σ a (gAr (gty X 0) 99 (srm s r z))) (burn_a (by omega) (by unfold lessR; (repeat' split) <;> omega) (by omega)))
          · refine r_iconst C dX5_burns_87 ?_
            refine r_goto (tgt := 92) C dX5_burns_88 (by decide) ?_
            refine r_iast C dX5_burns_92 ha (up_s _ _ _) (by omega) (by omega) ?_
            rw [up_up]
            first | rw [srm_mv _ _ _ (by omega)] | rw [srm_m0]
            refine r_aload_n C dX5_burns_93 rfl rfl ?_
            refine r_iload_n C dX5_burns_94 rfl rfl ?_
            refine r_iconst C dX5_burns_95 ?_
            refine r_iadd C dX5_burns_96 ?_
            refine r_dup2 C dX5_burns_97 rfl rfl ?_
            refine r_iald C dX5_burns_98 ha (up_s _ _ _) (by omega) (by omega) ?_
            first | rw [srm_at _ _ _ (by omega)] | rw [srm_a0]
            try simp only [up_ap, Int.reduceEq, reduceIte]
            refine r_aload_n C dX5_burns_99 rfl rfl ?_
            refine r_iload_n C dX5_burns_100 rfl rfl ?_
            refine r_iald C dX5_burns_101 ha (up_s _ _ _) (by omega) (by omega) ?_
            first | rw [srm_at _ _ _ (by omega)] | rw [srm_a0]
            try simp only [up_ap, Int.reduceEq, reduceIte]
            refine r_if_le (tgt := 119) C dX5_burns_102 (by decide) (by omega) (fun h102 => ?_) (fun h102 => ?_)
            · refine r_iconst C dX5_burns_119 ?_
              refine r_iadd C dX5_burns_120 ?_
              refine r_iast C dX5_burns_121 ha (up_s _ _ _) (by omega) (by omega) ?_
              rw [up_up]
              first | rw [srm_mv _ _ _ (by omega)] | rw [srm_m0]
              exact r_vretD C dX5_burns_122 (congrArg (fun z => up σ a (gAr (gty X 0) 99 (srm s r z))) (burn_a (by omega) (by unfold lessR; (repeat' split) <;> omega) (by omega)))
            · refine r_aload_n C dX5_burns_105 rfl rfl ?_
              refine r_iload_n C dX5_burns_106 rfl rfl ?_
              refine r_iconst C dX5_burns_107 ?_
              refine r_iadd C dX5_burns_108 ?_
              refine r_iald C dX5_burns_109 ha (up_s _ _ _) (by omega) (by omega) ?_
              first | rw [srm_at _ _ _ (by omega)] | rw [srm_a0]
              try simp only [up_ap, Int.reduceEq, reduceIte]
              refine r_bipush C dX5_burns_110 (by decide) ?_
              refine r_icmp_ge (tgt := 119) C dX5_burns_112 (by decide) (by omega) (by omega) (fun h112 => ?_) (fun h112 => ?_)
              · refine r_iconst C dX5_burns_119 ?_
                refine r_iadd C dX5_burns_120 ?_
                refine r_iast C dX5_burns_121 ha (up_s _ _ _) (by omega) (by omega) ?_
                rw [up_up]
                first | rw [srm_mv _ _ _ (by omega)] | rw [srm_m0]
                exact r_vretD C dX5_burns_122 (congrArg (fun z => up σ a (gAr (gty X 0) 99 (srm s r z))) (burn_a (by omega) (by unfold lessR; (repeat' split) <;> omega) (by omega)))
              · refine r_iconst C dX5_burns_115 ?_
                refine r_goto (tgt := 120) C dX5_burns_116 (by decide) ?_
                refine r_iadd C dX5_burns_120 ?_
                refine r_iast C dX5_burns_121 ha (up_s _ _ _) (by omega) (by omega) ?_
                rw [up_up]
                first | rw [srm_mv _ _ _ (by omega)] | rw [srm_m0]
                exact r_vretD C dX5_burns_122 (congrArg (fun z => up σ a (gAr (gty X 0) 99 (srm s r z))) (burn_a (by omega) (by unfold lessR; (repeat' split) <;> omega) (by omega)))
        · refine r_aload_n C dX5_burns_67 rfl rfl ?_
          refine r_iload_n C dX5_burns_68 rfl rfl ?_
          refine r_iald C dX5_burns_69 ha (up_s _ _ _) (by omega) (by omega) ?_
          first | rw [srm_at _ _ _ (by omega)] | rw [srm_a0]
          try simp only [up_ap, Int.reduceEq, reduceIte]
          refine r_iload_n C dX5_burns_70 rfl rfl ?_
          refine r_isub C dX5_burns_71 ?_
          refine r_goto (tgt := 76) C dX5_burns_72 (by decide) ?_
          refine r_iast C dX5_burns_76 ha (up_s _ _ _) (by omega) (by omega) ?_
          rw [up_up]
          first | rw [srm_mv _ _ _ (by omega)] | rw [srm_m0]
          refine r_aload_n C dX5_burns_77 rfl rfl ?_
          refine r_iload_n C dX5_burns_78 rfl rfl ?_
          refine r_iconst C dX5_burns_79 ?_
          refine r_iadd C dX5_burns_80 ?_
          refine r_aload_n C dX5_burns_81 rfl rfl ?_
          refine r_iload_n C dX5_burns_82 rfl rfl ?_
          refine r_iald C dX5_burns_83 ha (up_s _ _ _) (by omega) (by omega) ?_
          first | rw [srm_at _ _ _ (by omega)] | rw [srm_a0]
          try simp only [up_ap, Int.reduceEq, reduceIte]
          refine r_if_le (tgt := 91) C dX5_burns_84 (by decide) (by omega) (fun h84 => ?_) (fun h84 => ?_)
          · refine r_iconst C dX5_burns_91 ?_
            refine r_iast C dX5_burns_92 ha (up_s _ _ _) (by omega) (by omega) ?_
            rw [up_up]
            first | rw [srm_mv _ _ _ (by omega)] | rw [srm_m0]
            refine r_aload_n C dX5_burns_93 rfl rfl ?_
            refine r_iload_n C dX5_burns_94 rfl rfl ?_
            refine r_iconst C dX5_burns_95 ?_
            refine r_iadd C dX5_burns_96 ?_
            refine r_dup2 C dX5_burns_97 rfl rfl ?_
            refine r_iald C dX5_burns_98 ha (up_s _ _ _) (by omega) (by omega) ?_
            first | rw [srm_at _ _ _ (by omega)] | rw [srm_a0]
            try simp only [up_ap, Int.reduceEq, reduceIte]
            refine r_aload_n C dX5_burns_99 rfl rfl ?_
            refine r_iload_n C dX5_burns_100 rfl rfl ?_
            refine r_iald C dX5_burns_101 ha (up_s _ _ _) (by omega) (by omega) ?_
            first | rw [srm_at _ _ _ (by omega)] | rw [srm_a0]
            try simp only [up_ap, Int.reduceEq, reduceIte]
            refine r_if_le (tgt := 119) C dX5_burns_102 (by decide) (by omega) (fun h102 => ?_) (fun h102 => ?_)
            · refine r_iconst C dX5_burns_119 ?_
              refine r_iadd C dX5_burns_120 ?_
              refine r_iast C dX5_burns_121 ha (up_s _ _ _) (by omega) (by omega) ?_
              rw [up_up]
              first | rw [srm_mv _ _ _ (by omega)] | rw [srm_m0]
              exact r_vretD C dX5_burns_122 (congrArg (fun z => up σ a (gAr (gty X 0) 99 (srm s r z))) (burn_a (by omega) (by unfold lessR; (repeat' split) <;> omega) (by omega)))
            · refine r_aload_n C dX5_burns_105 rfl rfl ?_
              refine r_iload_n C dX5_burns_106 rfl rfl ?_
              refine r_iconst C dX5_burns_107 ?_
              refine r_iadd C dX5_burns_108 ?_
              refine r_iald C dX5_burns_109 ha (up_s _ _ _) (by omega) (by omega) ?_
              first | rw [srm_at _ _ _ (by omega)] | rw [srm_a0]
              try simp only [up_ap, Int.reduceEq, reduceIte]
              refine r_bipush C dX5_burns_110 (by decide) ?_
              refine r_icmp_ge (tgt := 119) C dX5_burns_112 (by decide) (by omega) (by omega) (fun h112 => ?_) (fun h112 => ?_)
              · refine r_iconst C dX5_burns_119 ?_
                refine r_iadd C dX5_burns_120 ?_
                refine r_iast C dX5_burns_121 ha (up_s _ _ _) (by omega) (by omega) ?_
                rw [up_up]
                first | rw [srm_mv _ _ _ (by omega)] | rw [srm_m0]
                exact r_vretD C dX5_burns_122 (congrArg (fun z => up σ a (gAr (gty X 0) 99 (srm s r z))) (burn_a (by omega) (by unfold lessR; (repeat' split) <;> omega) (by omega)))
              · refine r_iconst C dX5_burns_115 ?_
                refine r_goto (tgt := 120) C dX5_burns_116 (by decide) ?_
                refine r_iadd C dX5_burns_120 ?_
                refine r_iast C dX5_burns_121 ha (up_s _ _ _) (by omega) (by omega) ?_
                rw [up_up]
                first | rw [srm_mv _ _ _ (by omega)] | rw [srm_m0]
                exact r_vretD C dX5_burns_122 (congrArg (fun z => up σ a (gAr (gty X 0) 99 (srm s r z))) (burn_a (by omega) (by unfold lessR; (repeat' split) <;> omega) (by omega)))
          · refine r_iconst C dX5_burns_87 ?_
            refine r_goto (tgt := 92) C dX5_burns_88 (by decide) ?_
            refine r_iast C dX5_burns_92 ha (up_s _ _ _) (by omega) (by omega) ?_
            rw [up_up]
            first | rw [srm_mv _ _ _ (by omega)] | rw [srm_m0]
            refine r_aload_n C dX5_burns_93 rfl rfl ?_
            refine r_iload_n C dX5_burns_94 rfl rfl ?_
            refine r_iconst C dX5_burns_95 ?_
            refine r_iadd C dX5_burns_96 ?_
            refine r_dup2 C dX5_burns_97 rfl rfl ?_
            refine r_iald C dX5_burns_98 ha (up_s _ _ _) (by omega) (by omega) ?_
            first | rw [srm_at _ _ _ (by omega)] | rw [srm_a0]
            try simp only [up_ap, Int.reduceEq, reduceIte]
            refine r_aload_n C dX5_burns_99 rfl rfl ?_
            refine r_iload_n C dX5_burns_100 rfl rfl ?_
            refine r_iald C dX5_burns_101 ha (up_s _ _ _) (by omega) (by omega) ?_
            first | rw [srm_at _ _ _ (by omega)] | rw [srm_a0]
            try simp only [up_ap, Int.reduceEq, reduceIte]
            refine r_if_le (tgt := 119) C dX5_burns_102 (by decide) (by omega) (fun h102 => ?_) (fun h102 => ?_)
            · refine r_iconst C dX5_burns_119 ?_
              refine r_iadd C dX5_burns_120 ?_
              refine r_iast C dX5_burns_121 ha (up_s _ _ _) (by omega) (by omega) ?_
              rw [up_up]
              first | rw [srm_mv _ _ _ (by omega)] | rw [srm_m0]
              exact r_vretD C dX5_burns_122 (congrArg (fun z => up σ a (gAr (gty X 0) 99 (srm s r z))) (burn_a (by omega) (by unfold lessR; (repeat' split) <;> omega) (by omega)))
            · refine r_aload_n C dX5_burns_105 rfl rfl ?_
              refine r_iload_n C dX5_burns_106 rfl rfl ?_
              refine r_iconst C dX5_burns_107 ?_
              refine r_iadd C dX5_burns_108 ?_
              refine r_iald C dX5_burns_109 ha (up_s _ _ _) (by omega) (by omega) ?_
              first | rw [srm_at _ _ _ (by omega)] | rw [srm_a0]
              try simp only [up_ap, Int.reduceEq, reduceIte]
              refine r_bipush C dX5_burns_110 (by decide) ?_
              refine r_icmp_ge (tgt := 119) C dX5_burns_112 (by decide) (by omega) (by omega) (fun h112 => ?_) (fun h112 => ?_)
              · refine r_iconst C dX5_burns_119 ?_
                refine r_iadd C dX5_burns_120 ?_
                refine r_iast C dX5_burns_121 ha (up_s _ _ _) (by omega) (by omega) ?_
                rw [up_up]
                first | rw [srm_mv _ _ _ (by omega)] | rw [srm_m0]
                exact r_vretD C dX5_burns_122 (congrArg (fun z => up σ a (gAr (gty X 0) 99 (srm s r z))) (burn_a (by omega) (by unfold lessR; (repeat' split) <;> omega) (by omega)))
              · refine r_iconst C dX5_burns_115 ?_
                refine r_goto (tgt := 120) C dX5_burns_116 (by decide) ?_
                refine r_iadd C dX5_burns_120 ?_
                refine r_iast C dX5_burns_121 ha (up_s _ _ _) (by omega) (by omega) ?_
                rw [up_up]
                first | rw [srm_mv _ _ _ (by omega)] | rw [srm_m0]
                exact r_vretD C dX5_burns_122 (congrArg (fun z => up σ a (gAr (gty X 0) 99 (srm s r z))) (burn_a (by omega) (by unfold lessR; (repeat' split) <;> omega) (by omega)))
      · refine r_iconst C dX5_burns_42 ?_
        refine r_goto (tgt := 47) C dX5_burns_43 (by decide) ?_
        refine r_iadd C dX5_burns_47 ?_
        refine r_istore_n C dX5_burns_48 rfl (Nat.le_of_ble_eq_true rfl) rfl ?_
        dsimp only [List.set]
        refine r_aload_n C dX5_burns_49 rfl rfl ?_
        refine r_iload_n C dX5_burns_50 rfl rfl ?_
        refine r_iconst C dX5_burns_51 ?_
        refine r_iadd C dX5_burns_52 ?_
        refine r_dup2 C dX5_burns_53 rfl rfl ?_
        refine r_iald C dX5_burns_54 ha (up_s _ _ _) (by omega) (by omega) ?_
        first | rw [srm_at _ _ _ (by omega)] | rw [srm_a0]
        try simp only [up_ap, Int.reduceEq, reduceIte]
        refine r_iconst C dX5_burns_55 ?_
        refine r_iadd C dX5_burns_56 ?_
        refine r_iast C dX5_burns_57 ha (up_s _ _ _) (by omega) (by omega) ?_
        rw [up_up]
        first | rw [srm_mv _ _ _ (by omega)] | rw [srm_m0]
        refine r_aload_n C dX5_burns_58 rfl rfl ?_
        refine r_iload_n C dX5_burns_59 rfl rfl ?_
        refine r_aload_n C dX5_burns_60 rfl rfl ?_
        refine r_iload_n C dX5_burns_61 rfl rfl ?_
        refine r_iald C dX5_burns_62 ha (up_s _ _ _) (by omega) (by omega) ?_
        first | rw [srm_at _ _ _ (by omega)] | rw [srm_a0]
        try simp only [up_ap, Int.reduceEq, reduceIte]
        refine r_iload_n C dX5_burns_63 rfl rfl ?_
        refine r_icmp_le (tgt := 75) C dX5_burns_64 (by decide) (by omega) (by omega) (fun h64 => ?_) (fun h64 => ?_)
        · refine r_iconst C dX5_burns_75 ?_
          refine r_iast C dX5_burns_76 ha (up_s _ _ _) (by omega) (by omega) ?_
          rw [up_up]
          first | rw [srm_mv _ _ _ (by omega)] | rw [srm_m0]
          refine r_aload_n C dX5_burns_77 rfl rfl ?_
          refine r_iload_n C dX5_burns_78 rfl rfl ?_
          refine r_iconst C dX5_burns_79 ?_
          refine r_iadd C dX5_burns_80 ?_
          refine r_aload_n C dX5_burns_81 rfl rfl ?_
          refine r_iload_n C dX5_burns_82 rfl rfl ?_
          refine r_iald C dX5_burns_83 ha (up_s _ _ _) (by omega) (by omega) ?_
          first | rw [srm_at _ _ _ (by omega)] | rw [srm_a0]
          try simp only [up_ap, Int.reduceEq, reduceIte]
          refine r_if_le (tgt := 91) C dX5_burns_84 (by decide) (by omega) (fun h84 => ?_) (fun h84 => ?_)
          · refine r_iconst C dX5_burns_91 ?_
            refine r_iast C dX5_burns_92 ha (up_s _ _ _) (by omega) (by omega) ?_
            rw [up_up]
            first | rw [srm_mv _ _ _ (by omega)] | rw [srm_m0]
            refine r_aload_n C dX5_burns_93 rfl rfl ?_
            refine r_iload_n C dX5_burns_94 rfl rfl ?_
            refine r_iconst C dX5_burns_95 ?_
            refine r_iadd C dX5_burns_96 ?_
            refine r_dup2 C dX5_burns_97 rfl rfl ?_
            refine r_iald C dX5_burns_98 ha (up_s _ _ _) (by omega) (by omega) ?_
            first | rw [srm_at _ _ _ (by omega)] | rw [srm_a0]
            try simp only [up_ap, Int.reduceEq, reduceIte]
            refine r_aload_n C dX5_burns_99 rfl rfl ?_
            refine r_iload_n C dX5_burns_100 rfl rfl ?_
            refine r_iald C dX5_burns_101 ha (up_s _ _ _) (by omega) (by omega) ?_
            first | rw [srm_at _ _ _ (by omega)] | rw [srm_a0]
            try simp only [up_ap, Int.reduceEq, reduceIte]
            refine r_if_le (tgt := 119) C dX5_burns_102 (by decide) (by omega) (fun h102 => ?_) (fun h102 => ?_)
            · refine r_iconst C dX5_burns_119 ?_
              refine r_iadd C dX5_burns_120 ?_
              refine r_iast C dX5_burns_121 ha (up_s _ _ _) (by omega) (by omega) ?_
              rw [up_up]
              first | rw [srm_mv _ _ _ (by omega)] | rw [srm_m0]
              exact r_vretD C dX5_burns_122 (congrArg (fun z => up σ a (gAr (gty X 0) 99 (srm s r z))) (burn_a (by omega) (by unfold lessR; (repeat' split) <;> omega) (by omega)))
            · refine r_aload_n C dX5_burns_105 rfl rfl ?_
              refine r_iload_n C dX5_burns_106 rfl rfl ?_
              refine r_iconst C dX5_burns_107 ?_
              refine r_iadd C dX5_burns_108 ?_
              refine r_iald C dX5_burns_109 ha (up_s _ _ _) (by omega) (by omega) ?_
              first | rw [srm_at _ _ _ (by omega)] | rw [srm_a0]
              try simp only [up_ap, Int.reduceEq, reduceIte]
              refine r_bipush C dX5_burns_110 (by decide) ?_
              refine r_icmp_ge (tgt := 119) C dX5_burns_112 (by decide) (by omega) (by omega) (fun h112 => ?_) (fun h112 => ?_)
              · refine r_iconst C dX5_burns_119 ?_
                refine r_iadd C dX5_burns_120 ?_
                refine r_iast C dX5_burns_121 ha (up_s _ _ _) (by omega) (by omega) ?_
                rw [up_up]
                first | rw [srm_mv _ _ _ (by omega)] | rw [srm_m0]
                exact r_vretD C dX5_burns_122 (congrArg (fun z => up σ a (gAr (gty X 0) 99 (srm s r z))) (burn_a (by omega) (by unfold lessR; (repeat' split) <;> omega) (by omega)))
              · refine r_iconst C dX5_burns_115 ?_
                refine r_goto (tgt := 120) C dX5_burns_116 (by decide) ?_
                refine r_iadd C dX5_burns_120 ?_
                refine r_iast C dX5_burns_121 ha (up_s _ _ _) (by omega) (by omega) ?_
                rw [up_up]
                first | rw [srm_mv _ _ _ (by omega)] | rw [srm_m0]
                exact r_vretD C dX5_burns_122 (congrArg (fun z => up σ a (gAr (gty X 0) 99 (srm s r z))) (burn_a (by omega) (by unfold lessR; (repeat' split) <;> omega) (by omega)))
          · refine r_iconst C dX5_burns_87 ?_
            refine r_goto (tgt := 92) C dX5_burns_88 (by decide) ?_
            refine r_iast C dX5_burns_92 ha (up_s _ _ _) (by omega) (by omega) ?_
            rw [up_up]
            first | rw [srm_mv _ _ _ (by omega)] | rw [srm_m0]
            refine r_aload_n C dX5_burns_93 rfl rfl ?_
            refine r_iload_n C dX5_burns_94 rfl rfl ?_
            refine r_iconst C dX5_burns_95 ?_
            refine r_iadd C dX5_burns_96 ?_
            refine r_dup2 C dX5_burns_97 rfl rfl ?_
            refine r_iald C dX5_burns_98 ha (up_s _ _ _) (by omega) (by omega) ?_
            first | rw [srm_at _ _ _ (by omega)] | rw [srm_a0]
            try simp only [up_ap, Int.reduceEq, reduceIte]
            refine r_aload_n C dX5_burns_99 rfl rfl ?_
            refine r_iload_n C dX5_burns_100 rfl rfl ?_
            refine r_iald C dX5_burns_101 ha (up_s _ _ _) (by omega) (by omega) ?_
            first | rw [srm_at _ _ _ (by omega)] | rw [srm_a0]
            try simp only [up_ap, Int.reduceEq, reduceIte]
            refine r_if_le (tgt := 119) C dX5_burns_102 (by decide) (by omega) (fun h102 => ?_) (fun h102 => ?_)
            · refine r_iconst C dX5_burns_119 ?_
              refine r_iadd C dX5_burns_120 ?_
              refine r_iast C dX5_burns_121 ha (up_s _ _ _) (by omega) (by omega) ?_
              rw [up_up]
              first | rw [srm_mv _ _ _ (by omega)] | rw [srm_m0]
              exact r_vretD C dX5_burns_122 (congrArg (fun z => up σ a (gAr (gty X 0) 99 (srm s r z))) (burn_a (by omega) (by unfold lessR; (repeat' split) <;> omega) (by omega)))
            · refine r_aload_n C dX5_burns_105 rfl rfl ?_
              refine r_iload_n C dX5_burns_106 rfl rfl ?_
              refine r_iconst C dX5_burns_107 ?_
              refine r_iadd C dX5_burns_108 ?_
              refine r_iald C dX5_burns_109 ha (up_s _ _ _) (by omega) (by omega) ?_
              first | rw [srm_at _ _ _ (by omega)] | rw [srm_a0]
              try simp only [up_ap, Int.reduceEq, reduceIte]
              refine r_bipush C dX5_burns_110 (by decide) ?_
              refine r_icmp_ge (tgt := 119) C dX5_burns_112 (by decide) (by omega) (by omega) (fun h112 => ?_) (fun h112 => ?_)
              · refine r_iconst C dX5_burns_119 ?_
                refine r_iadd C dX5_burns_120 ?_
                refine r_iast C dX5_burns_121 ha (up_s _ _ _) (by omega) (by omega) ?_
                rw [up_up]
                first | rw [srm_mv _ _ _ (by omega)] | rw [srm_m0]
                exact r_vretD C dX5_burns_122 (congrArg (fun z => up σ a (gAr (gty X 0) 99 (srm s r z))) (burn_a (by omega) (by unfold lessR; (repeat' split) <;> omega) (by omega)))
              · refine r_iconst C dX5_burns_115 ?_
                refine r_goto (tgt := 120) C dX5_burns_116 (by decide) ?_
                refine r_iadd C dX5_burns_120 ?_
                refine r_iast C dX5_burns_121 ha (up_s _ _ _) (by omega) (by omega) ?_
                rw [up_up]
                first | rw [srm_mv _ _ _ (by omega)] | rw [srm_m0]
                exact r_vretD C dX5_burns_122 (congrArg (fun z => up σ a (gAr (gty X 0) 99 (srm s r z))) (burn_a (by omega) (by unfold lessR; (repeat' split) <;> omega) (by omega)))
        · refine r_aload_n C dX5_burns_67 rfl rfl ?_
          refine r_iload_n C dX5_burns_68 rfl rfl ?_
          refine r_iald C dX5_burns_69 ha (up_s _ _ _) (by omega) (by omega) ?_
          first | rw [srm_at _ _ _ (by omega)] | rw [srm_a0]
          try simp only [up_ap, Int.reduceEq, reduceIte]
          refine r_iload_n C dX5_burns_70 rfl rfl ?_
          refine r_isub C dX5_burns_71 ?_
          refine r_goto (tgt := 76) C dX5_burns_72 (by decide) ?_
          refine r_iast C dX5_burns_76 ha (up_s _ _ _) (by omega) (by omega) ?_
          rw [up_up]
          first | rw [srm_mv _ _ _ (by omega)] | rw [srm_m0]
          refine r_aload_n C dX5_burns_77 rfl rfl ?_
          refine r_iload_n C dX5_burns_78 rfl rfl ?_
          refine r_iconst C dX5_burns_79 ?_
          refine r_iadd C dX5_burns_80 ?_
          refine r_aload_n C dX5_burns_81 rfl rfl ?_
          refine r_iload_n C dX5_burns_82 rfl rfl ?_
          refine r_iald C dX5_burns_83 ha (up_s _ _ _) (by omega) (by omega) ?_
          first | rw [srm_at _ _ _ (by omega)] | rw [srm_a0]
          try simp only [up_ap, Int.reduceEq, reduceIte]
          refine r_if_le (tgt := 91) C dX5_burns_84 (by decide) (by omega) (fun h84 => ?_) (fun h84 => ?_)
          · refine r_iconst C dX5_burns_91 ?_
            refine r_iast C dX5_burns_92 ha (up_s _ _ _) (by omega) (by omega) ?_
            rw [up_up]
            first | rw [srm_mv _ _ _ (by omega)] | rw [srm_m0]
            refine r_aload_n C dX5_burns_93 rfl rfl ?_
            refine r_iload_n C dX5_burns_94 rfl rfl ?_
            refine r_iconst C dX5_burns_95 ?_
            refine r_iadd C dX5_burns_96 ?_
            refine r_dup2 C dX5_burns_97 rfl rfl ?_
            refine r_iald C dX5_burns_98 ha (up_s _ _ _) (by omega) (by omega) ?_
            first | rw [srm_at _ _ _ (by omega)] | rw [srm_a0]
            try simp only [up_ap, Int.reduceEq, reduceIte]
            refine r_aload_n C dX5_burns_99 rfl rfl ?_
            refine r_iload_n C dX5_burns_100 rfl rfl ?_
            refine r_iald C dX5_burns_101 ha (up_s _ _ _) (by omega) (by omega) ?_
            first | rw [srm_at _ _ _ (by omega)] | rw [srm_a0]
            try simp only [up_ap, Int.reduceEq, reduceIte]
            refine r_if_le (tgt := 119) C dX5_burns_102 (by decide) (by omega) (fun h102 => ?_) (fun h102 => ?_)
            · refine r_iconst C dX5_burns_119 ?_
              refine r_iadd C dX5_burns_120 ?_
              refine r_iast C dX5_burns_121 ha (up_s _ _ _) (by omega) (by omega) ?_
              rw [up_up]
              first | rw [srm_mv _ _ _ (by omega)] | rw [srm_m0]
              exact r_vretD C dX5_burns_122 (congrArg (fun z => up σ a (gAr (gty X 0) 99 (srm s r z))) (burn_a (by omega) (by unfold lessR; (repeat' split) <;> omega) (by omega)))
            · refine r_aload_n C dX5_burns_105 rfl rfl ?_
              refine r_iload_n C dX5_burns_106 rfl rfl ?_
              refine r_iconst C dX5_burns_107 ?_
              refine r_iadd C dX5_burns_108 ?_
              refine r_iald C dX5_burns_109 ha (up_s _ _ _) (by omega) (by omega) ?_
              first | rw [srm_at _ _ _ (by omega)] | rw [srm_a0]
              try simp only [up_ap, Int.reduceEq, reduceIte]
              refine r_bipush C dX5_burns_110 (by decide) ?_
              refine r_icmp_ge (tgt := 119) C dX5_burns_112 (by decide) (by omega) (by omega) (fun h112 => ?_) (fun h112 => ?_)
              · refine r_iconst C dX5_burns_119 ?_
                refine r_iadd C dX5_burns_120 ?_
                refine r_iast C dX5_burns_121 ha (up_s _ _ _) (by omega) (by omega) ?_
                rw [up_up]
                first | rw [srm_mv _ _ _ (by omega)] | rw [srm_m0]
                exact r_vretD C dX5_burns_122 (congrArg (fun z => up σ a (gAr (gty X 0) 99 (srm s r z))) (burn_a (by omega) (by unfold lessR; (repeat' split) <;> omega) (by omega)))
              · refine r_iconst C dX5_burns_115 ?_
                refine r_goto (tgt := 120) C dX5_burns_116 (by decide) ?_
                refine r_iadd C dX5_burns_120 ?_
                refine r_iast C dX5_burns_121 ha (up_s _ _ _) (by omega) (by omega) ?_
                rw [up_up]
                first | rw [srm_mv _ _ _ (by omega)] | rw [srm_m0]
                exact r_vretD C dX5_burns_122 (congrArg (fun z => up σ a (gAr (gty X 0) 99 (srm s r z))) (burn_a (by omega) (by unfold lessR; (repeat' split) <;> omega) (by omega)))
          · refine r_iconst C dX5_burns_87 ?_
            refine r_goto (tgt := 92) C dX5_burns_88 (by decide) ?_
            refine r_iast C dX5_burns_92 ha (up_s _ _ _) (by omega) (by omega) ?_
            rw [up_up]
            first | rw [srm_mv _ _ _ (by omega)] | rw [srm_m0]
            refine r_aload_n C dX5_burns_93 rfl rfl ?_
            refine r_iload_n C dX5_burns_94 rfl rfl ?_
            refine r_iconst C dX5_burns_95 ?_
            refine r_iadd C dX5_burns_96 ?_
            refine r_dup2 C dX5_burns_97 rfl rfl ?_
            refine r_iald C dX5_burns_98 ha (up_s _ _ _) (by omega) (by omega) ?_
            first | rw [srm_at _ _ _ (by omega)] | rw [srm_a0]
            try simp only [up_ap, Int.reduceEq, reduceIte]
            refine r_aload_n C dX5_burns_99 rfl rfl ?_
            refine r_iload_n C dX5_burns_100 rfl rfl ?_
            refine r_iald C dX5_burns_101 ha (up_s _ _ _) (by omega) (by omega) ?_
            first | rw [srm_at _ _ _ (by omega)] | rw [srm_a0]
            try simp only [up_ap, Int.reduceEq, reduceIte]
            refine r_if_le (tgt := 119) C dX5_burns_102 (by decide) (by omega) (fun h102 => ?_) (fun h102 => ?_)
            · refine r_iconst C dX5_burns_119 ?_
              refine r_iadd C dX5_burns_120 ?_
              refine r_iast C dX5_burns_121 ha (up_s _ _ _) (by omega) (by omega) ?_
              rw [up_up]
              first | rw [srm_mv _ _ _ (by omega)] | rw [srm_m0]
              exact r_vretD C dX5_burns_122 (congrArg (fun z => up σ a (gAr (gty X 0) 99 (srm s r z))) (burn_a (by omega) (by unfold lessR; (repeat' split) <;> omega) (by omega)))
            · refine r_aload_n C dX5_burns_105 rfl rfl ?_
              refine r_iload_n C dX5_burns_106 rfl rfl ?_
              refine r_iconst C dX5_burns_107 ?_
              refine r_iadd C dX5_burns_108 ?_
              refine r_iald C dX5_burns_109 ha (up_s _ _ _) (by omega) (by omega) ?_
              first | rw [srm_at _ _ _ (by omega)] | rw [srm_a0]
              try simp only [up_ap, Int.reduceEq, reduceIte]
              refine r_bipush C dX5_burns_110 (by decide) ?_
              refine r_icmp_ge (tgt := 119) C dX5_burns_112 (by decide) (by omega) (by omega) (fun h112 => ?_) (fun h112 => ?_)
              · refine r_iconst C dX5_burns_119 ?_
                refine r_iadd C dX5_burns_120 ?_
                refine r_iast C dX5_burns_121 ha (up_s _ _ _) (by omega) (by omega) ?_
                rw [up_up]
                first | rw [srm_mv _ _ _ (by omega)] | rw [srm_m0]
                exact r_vretD C dX5_burns_122 (congrArg (fun z => up σ a (gAr (gty X 0) 99 (srm s r z))) (burn_a (by omega) (by unfold lessR; (repeat' split) <;> omega) (by omega)))
              · refine r_iconst C dX5_burns_115 ?_
                refine r_goto (tgt := 120) C dX5_burns_116 (by decide) ?_
                refine r_iadd C dX5_burns_120 ?_
                refine r_iast C dX5_burns_121 ha (up_s _ _ _) (by omega) (by omega) ?_
                rw [up_up]
                first | rw [srm_mv _ _ _ (by omega)] | rw [srm_m0]
                exact r_vretD C dX5_burns_122 (congrArg (fun z => up σ a (gAr (gty X 0) 99 (srm s r z))) (burn_a (by omega) (by unfold lessR; (repeat' split) <;> omega) (by omega)))
    · refine r_iconst C dX5_burns_27 ?_
      refine r_goto (tgt := 32) C dX5_burns_28 (by decide) ?_
      refine r_iadd C dX5_burns_32 ?_
      refine r_aload_n C dX5_burns_33 rfl rfl ?_
      refine r_iload_n C dX5_burns_34 rfl rfl ?_
      refine r_iconst C dX5_burns_35 ?_
      refine r_iadd C dX5_burns_36 ?_
      refine r_iald C dX5_burns_37 ha (up_s _ _ _) (by omega) (by omega) ?_
      first | rw [srm_at _ _ _ (by omega)] | rw [srm_a0]
      try simp only [up_ap, Int.reduceEq, reduceIte]
      refine r_iconst C dX5_burns_38 ?_
      refine r_icmp_le (tgt := 46) C dX5_burns_39 (by decide) (by omega) (by omega) (fun h39 => ?_) (fun h39 => ?_)
      · refine r_iconst C dX5_burns_46 ?_
        refine r_iadd C dX5_burns_47 ?_
        refine r_istore_n C dX5_burns_48 rfl (Nat.le_of_ble_eq_true rfl) rfl ?_
        dsimp only [List.set]
        refine r_aload_n C dX5_burns_49 rfl rfl ?_
        refine r_iload_n C dX5_burns_50 rfl rfl ?_
        refine r_iconst C dX5_burns_51 ?_
        refine r_iadd C dX5_burns_52 ?_
        refine r_dup2 C dX5_burns_53 rfl rfl ?_
        refine r_iald C dX5_burns_54 ha (up_s _ _ _) (by omega) (by omega) ?_
        first | rw [srm_at _ _ _ (by omega)] | rw [srm_a0]
        try simp only [up_ap, Int.reduceEq, reduceIte]
        refine r_iconst C dX5_burns_55 ?_
        refine r_iadd C dX5_burns_56 ?_
        refine r_iast C dX5_burns_57 ha (up_s _ _ _) (by omega) (by omega) ?_
        rw [up_up]
        first | rw [srm_mv _ _ _ (by omega)] | rw [srm_m0]
        refine r_aload_n C dX5_burns_58 rfl rfl ?_
        refine r_iload_n C dX5_burns_59 rfl rfl ?_
        refine r_aload_n C dX5_burns_60 rfl rfl ?_
        refine r_iload_n C dX5_burns_61 rfl rfl ?_
        refine r_iald C dX5_burns_62 ha (up_s _ _ _) (by omega) (by omega) ?_
        first | rw [srm_at _ _ _ (by omega)] | rw [srm_a0]
        try simp only [up_ap, Int.reduceEq, reduceIte]
        refine r_iload_n C dX5_burns_63 rfl rfl ?_
        refine r_icmp_le (tgt := 75) C dX5_burns_64 (by decide) (by omega) (by omega) (fun h64 => ?_) (fun h64 => ?_)
        · refine r_iconst C dX5_burns_75 ?_
          refine r_iast C dX5_burns_76 ha (up_s _ _ _) (by omega) (by omega) ?_
          rw [up_up]
          first | rw [srm_mv _ _ _ (by omega)] | rw [srm_m0]
          refine r_aload_n C dX5_burns_77 rfl rfl ?_
          refine r_iload_n C dX5_burns_78 rfl rfl ?_
          refine r_iconst C dX5_burns_79 ?_
          refine r_iadd C dX5_burns_80 ?_
          refine r_aload_n C dX5_burns_81 rfl rfl ?_
          refine r_iload_n C dX5_burns_82 rfl rfl ?_
          refine r_iald C dX5_burns_83 ha (up_s _ _ _) (by omega) (by omega) ?_
          first | rw [srm_at _ _ _ (by omega)] | rw [srm_a0]
          try simp only [up_ap, Int.reduceEq, reduceIte]
          refine r_if_le (tgt := 91) C dX5_burns_84 (by decide) (by omega) (fun h84 => ?_) (fun h84 => ?_)
          · refine r_iconst C dX5_burns_91 ?_
            refine r_iast C dX5_burns_92 ha (up_s _ _ _) (by omega) (by omega) ?_
            rw [up_up]
            first | rw [srm_mv _ _ _ (by omega)] | rw [srm_m0]
            refine r_aload_n C dX5_burns_93 rfl rfl ?_
            refine r_iload_n C dX5_burns_94 rfl rfl ?_
            refine r_iconst C dX5_burns_95 ?_
            refine r_iadd C dX5_burns_96 ?_
            refine r_dup2 C dX5_burns_97 rfl rfl ?_
            refine r_iald C dX5_burns_98 ha (up_s _ _ _) (by omega) (by omega) ?_
            first | rw [srm_at _ _ _ (by omega)] | rw [srm_a0]
            try simp only [up_ap, Int.reduceEq, reduceIte]
            refine r_aload_n C dX5_burns_99 rfl rfl ?_
            refine r_iload_n C dX5_burns_100 rfl rfl ?_
            refine r_iald C dX5_burns_101 ha (up_s _ _ _) (by omega) (by omega) ?_
            first | rw [srm_at _ _ _ (by omega)] | rw [srm_a0]
            try simp only [up_ap, Int.reduceEq, reduceIte]
            refine r_if_le (tgt := 119) C dX5_burns_102 (by decide) (by omega) (fun h102 => ?_) (fun h102 => ?_)
            · refine r_iconst C dX5_burns_119 ?_
              refine r_iadd C dX5_burns_120 ?_
              refine r_iast C dX5_burns_121 ha (up_s _ _ _) (by omega) (by omega) ?_
              rw [up_up]
              first | rw [srm_mv _ _ _ (by omega)] | rw [srm_m0]
              exact r_vretD C dX5_burns_122 (congrArg (fun z => up σ a (gAr (gty X 0) 99 (srm s r z))) (burn_a (by omega) (by unfold lessR; (repeat' split) <;> omega) (by omega)))
            · refine r_aload_n C dX5_burns_105 rfl rfl ?_
              refine r_iload_n C dX5_burns_106 rfl rfl ?_
              refine r_iconst C dX5_burns_107 ?_
              refine r_iadd C dX5_burns_108 ?_
              refine r_iald C dX5_burns_109 ha (up_s _ _ _) (by omega) (by omega) ?_
              first | rw [srm_at _ _ _ (by omega)] | rw [srm_a0]
              try simp only [up_ap, Int.reduceEq, reduceIte]
              refine r_bipush C dX5_burns_110 (by decide) ?_
              refine r_icmp_ge (tgt := 119) C dX5_burns_112 (by decide) (by omega) (by omega) (fun h112 => ?_) (fun h112 => ?_)
              · refine r_iconst C dX5_burns_119 ?_
                refine r_iadd C dX5_burns_120 ?_
                refine r_iast C dX5_burns_121 ha (up_s _ _ _) (by omega) (by omega) ?_
                rw [up_up]
                first | rw [srm_mv _ _ _ (by omega)] | rw [srm_m0]
                exact r_vretD C dX5_burns_122 (congrArg (fun z => up σ a (gAr (gty X 0) 99 (srm s r z))) (burn_a (by omega) (by unfold lessR; (repeat' split) <;> omega) (by omega)))
              · refine r_iconst C dX5_burns_115 ?_
                refine r_goto (tgt := 120) C dX5_burns_116 (by decide) ?_
                refine r_iadd C dX5_burns_120 ?_
                refine r_iast C dX5_burns_121 ha (up_s _ _ _) (by omega) (by omega) ?_
                rw [up_up]
                first | rw [srm_mv _ _ _ (by omega)] | rw [srm_m0]
                exact r_vretD C dX5_burns_122 (congrArg (fun z => up σ a (gAr (gty X 0) 99 (srm s r z))) (burn_a (by omega) (by unfold lessR; (repeat' split) <;> omega) (by omega)))
          · refine r_iconst C dX5_burns_87 ?_
            refine r_goto (tgt := 92) C dX5_burns_88 (by decide) ?_
            refine r_iast C dX5_burns_92 ha (up_s _ _ _) (by omega) (by omega) ?_
            rw [up_up]
            first | rw [srm_mv _ _ _ (by omega)] | rw [srm_m0]
            refine r_aload_n C dX5_burns_93 rfl rfl ?_
            refine r_iload_n C dX5_burns_94 rfl rfl ?_
            refine r_iconst C dX5_burns_95 ?_
            refine r_iadd C dX5_burns_96 ?_
            refine r_dup2 C dX5_burns_97 rfl rfl ?_
            refine r_iald C dX5_burns_98 ha (up_s _ _ _) (by omega) (by omega) ?_
            first | rw [srm_at _ _ _ (by omega)] | rw [srm_a0]
            try simp only [up_ap, Int.reduceEq, reduceIte]
            refine r_aload_n C dX5_burns_99 rfl rfl ?_
            refine r_iload_n C dX5_burns_100 rfl rfl ?_
            refine r_iald C dX5_burns_101 ha (up_s _ _ _) (by omega) (by omega) ?_
            first | rw [srm_at _ _ _ (by omega)] | rw [srm_a0]
            try simp only [up_ap, Int.reduceEq, reduceIte]
            refine r_if_le (tgt := 119) C dX5_burns_102 (by decide) (by omega) (fun h102 => ?_) (fun h102 => ?_)
            · refine r_iconst C dX5_burns_119 ?_
              refine r_iadd C dX5_burns_120 ?_
              refine r_iast C dX5_burns_121 ha (up_s _ _ _) (by omega) (by omega) ?_
              rw [up_up]
              first | rw [srm_mv _ _ _ (by omega)] | rw [srm_m0]
              exact r_vretD C dX5_burns_122 (congrArg (fun z => up σ a (gAr (gty X 0) 99 (srm s r z))) (burn_a (by omega) (by unfold lessR; (repeat' split) <;> omega) (by omega)))
            · refine r_aload_n C dX5_burns_105 rfl rfl ?_
              refine r_iload_n C dX5_burns_106 rfl rfl ?_
              refine r_iconst C dX5_burns_107 ?_
              refine r_iadd C dX5_burns_108 ?_
              refine r_iald C dX5_burns_109 ha (up_s _ _ _) (by omega) (by omega) ?_
              first | rw [srm_at _ _ _ (by omega)] | rw [srm_a0]
              try simp only [up_ap, Int.reduceEq, reduceIte]
              refine r_bipush C dX5_burns_110 (by decide) ?_
              refine r_icmp_ge (tgt := 119) C dX5_burns_112 (by decide) (by omega) (by omega) (fun h112 => ?_) (fun h112 => ?_)
              · refine r_iconst C dX5_burns_119 ?_
                refine r_iadd C dX5_burns_120 ?_
                refine r_iast C dX5_burns_121 ha (up_s _ _ _) (by omega) (by omega) ?_
                rw [up_up]
                first | rw [srm_mv _ _ _ (by omega)] | rw [srm_m0]
                exact r_vretD C dX5_burns_122 (congrArg (fun z => up σ a (gAr (gty X 0) 99 (srm s r z))) (burn_a (by omega) (by unfold lessR; (repeat' split) <;> omega) (by omega)))
              · refine r_iconst C dX5_burns_115 ?_
                refine r_goto (tgt := 120) C dX5_burns_116 (by decide) ?_
                refine r_iadd C dX5_burns_120 ?_
                refine r_iast C dX5_burns_121 ha (up_s _ _ _) (by omega) (by omega) ?_
                rw [up_up]
                first | rw [srm_mv _ _ _ (by omega)] | rw [srm_m0]
                exact r_vretD C dX5_burns_122 (congrArg (fun z => up σ a (gAr (gty X 0) 99 (srm s r z))) (burn_a (by omega) (by unfold lessR; (repeat' split) <;> omega) (by omega)))
        · refine r_aload_n C dX5_burns_67 rfl rfl ?_
          refine r_iload_n C dX5_burns_68 rfl rfl ?_
          refine r_iald C dX5_burns_69 ha (up_s _ _ _) (by omega) (by omega) ?_
          first | rw [srm_at _ _ _ (by omega)] | rw [srm_a0]
          try simp only [up_ap, Int.reduceEq, reduceIte]
          refine r_iload_n C dX5_burns_70 rfl rfl ?_
          refine r_isub C dX5_burns_71 ?_
          refine r_goto (tgt := 76) C dX5_burns_72 (by decide) ?_
          refine r_iast C dX5_burns_76 ha (up_s _ _ _) (by omega) (by omega) ?_
          rw [up_up]
          first | rw [srm_mv _ _ _ (by omega)] | rw [srm_m0]
          refine r_aload_n C dX5_burns_77 rfl rfl ?_
          refine r_iload_n C dX5_burns_78 rfl rfl ?_
          refine r_iconst C dX5_burns_79 ?_
          refine r_iadd C dX5_burns_80 ?_
          refine r_aload_n C dX5_burns_81 rfl rfl ?_
          refine r_iload_n C dX5_burns_82 rfl rfl ?_
          refine r_iald C dX5_burns_83 ha (up_s _ _ _) (by omega) (by omega) ?_
          first | rw [srm_at _ _ _ (by omega)] | rw [srm_a0]
          try simp only [up_ap, Int.reduceEq, reduceIte]
          refine r_if_le (tgt := 91) C dX5_burns_84 (by decide) (by omega) (fun h84 => ?_) (fun h84 => ?_)
          · refine r_iconst C dX5_burns_91 ?_
            refine r_iast C dX5_burns_92 ha (up_s _ _ _) (by omega) (by omega) ?_
            rw [up_up]
            first | rw [srm_mv _ _ _ (by omega)] | rw [srm_m0]
            refine r_aload_n C dX5_burns_93 rfl rfl ?_
            refine r_iload_n C dX5_burns_94 rfl rfl ?_
            refine r_iconst C dX5_burns_95 ?_
            refine r_iadd C dX5_burns_96 ?_
            refine r_dup2 C dX5_burns_97 rfl rfl ?_
            refine r_iald C dX5_burns_98 ha (up_s _ _ _) (by omega) (by omega) ?_
            first | rw [srm_at _ _ _ (by omega)] | rw [srm_a0]
            try simp only [up_ap, Int.reduceEq, reduceIte]
            refine r_aload_n C dX5_burns_99 rfl rfl ?_
            refine r_iload_n C dX5_burns_100 rfl rfl ?_
            refine r_iald C dX5_burns_101 ha (up_s _ _ _) (by omega) (by omega) ?_
            first | rw [srm_at _ _ _ (by omega)] | rw [srm_a0]
            try simp only [up_ap, Int.reduceEq, reduceIte]
            refine r_if_le (tgt := 119) C dX5_burns_102 (by decide) (by omega) (fun h102 => ?_) (fun h102 => ?_)
            · refine r_iconst C dX5_burns_119 ?_
              refine r_iadd C dX5_burns_120 ?_
              refine r_iast C dX5_burns_121 ha (up_s _ _ _) (by omega) (by omega) ?_
              rw [up_up]
              first | rw [srm_mv _ _ _ (by omega)] | rw [srm_m0]
              exact r_vretD C dX5_burns_122 (congrArg (fun z => up σ a (gAr (gty X 0) 99 (srm s r z))) (burn_a (by omega) (by unfold lessR; (repeat' split) <;> omega) (by omega)))
            · refine r_aload_n C dX5_burns_105 rfl rfl ?_
              refine r_iload_n C dX5_burns_106 rfl rfl ?_
              refine r_iconst C dX5_burns_107 ?_
              refine r_iadd C dX5_burns_108 ?_
              refine r_iald C dX5_burns_109 ha (up_s _ _ _) (by omega) (by omega) ?_
              first | rw [srm_at _ _ _ (by omega)] | rw [srm_a0]
              try simp only [up_ap, Int.reduceEq, reduceIte]
              refine r_bipush C dX5_burns_110 (by decide) ?_
              refine r_icmp_ge (tgt := 119) C dX5_burns_112 (by decide) (by omega) (by omega) (fun h112 => ?_) (fun h112 => ?_)
              · refine r_iconst C dX5_burns_119 ?_
                refine r_iadd C dX5_burns_120 ?_
                refine r_iast C dX5_burns_121 ha (up_s _ _ _) (by omega) (by omega) ?_
                rw [up_up]
                first | rw [srm_mv _ _ _ (by omega)] | rw [srm_m0]
                exact r_vretD C dX5_burns_122 (congrArg (fun z => up σ a (gAr (gty X 0) 99 (srm s r z))) (burn_a (by omega) (by unfold lessR; (repeat' split) <;> omega) (by omega)))
              · refine r_iconst C dX5_burns_115 ?_
                refine r_goto (tgt := 120) C dX5_burns_116 (by decide) ?_
                refine r_iadd C dX5_burns_120 ?_
                refine r_iast C dX5_burns_121 ha (up_s _ _ _) (by omega) (by omega) ?_
                rw [up_up]
                first | rw [srm_mv _ _ _ (by omega)] | rw [srm_m0]
                exact r_vretD C dX5_burns_122 (congrArg (fun z => up σ a (gAr (gty X 0) 99 (srm s r z))) (burn_a (by omega) (by unfold lessR; (repeat' split) <;> omega) (by omega)))
          · refine r_iconst C dX5_burns_87 ?_
            refine r_goto (tgt := 92) C dX5_burns_88 (by decide) ?_
            refine r_iast C dX5_burns_92 ha (up_s _ _ _) (by omega) (by omega) ?_
            rw [up_up]
            first | rw [srm_mv _ _ _ (by omega)] | rw [srm_m0]
            refine r_aload_n C dX5_burns_93 rfl rfl ?_
            refine r_iload_n C dX5_burns_94 rfl rfl ?_
            refine r_iconst C dX5_burns_95 ?_
            refine r_iadd C dX5_burns_96 ?_
            refine r_dup2 C dX5_burns_97 rfl rfl ?_
            refine r_iald C dX5_burns_98 ha (up_s _ _ _) (by omega) (by omega) ?_
            first | rw [srm_at _ _ _ (by omega)] | rw [srm_a0]
            try simp only [up_ap, Int.reduceEq, reduceIte]
            refine r_aload_n C dX5_burns_99 rfl rfl ?_
            refine r_iload_n C dX5_burns_100 rfl rfl ?_
            refine r_iald C dX5_burns_101 ha (up_s _ _ _) (by omega) (by omega) ?_
            first | rw [srm_at _ _ _ (by omega)] | rw [srm_a0]
            try simp only [up_ap, Int.reduceEq, reduceIte]
            refine r_if_le (tgt := 119) C dX5_burns_102 (by decide) (by omega) (fun h102 => ?_) (fun h102 => ?_)
            · refine r_iconst C dX5_burns_119 ?_
              refine r_iadd C dX5_burns_120 ?_
              refine r_iast C dX5_burns_121 ha (up_s _ _ _) (by omega) (by omega) ?_
              rw [up_up]
              first | rw [srm_mv _ _ _ (by omega)] | rw [srm_m0]
              exact r_vretD C dX5_burns_122 (congrArg (fun z => up σ a (gAr (gty X 0) 99 (srm s r z))) (burn_a (by omega) (by unfold lessR; (repeat' split) <;> omega) (by omega)))
            · refine r_aload_n C dX5_burns_105 rfl rfl ?_
              refine r_iload_n C dX5_burns_106 rfl rfl ?_
              refine r_iconst C dX5_burns_107 ?_
              refine r_iadd C dX5_burns_108 ?_
              refine r_iald C dX5_burns_109 ha (up_s _ _ _) (by omega) (by omega) ?_
              first | rw [srm_at _ _ _ (by omega)] | rw [srm_a0]
              try simp only [up_ap, Int.reduceEq, reduceIte]
              refine r_bipush C dX5_burns_110 (by decide) ?_
              refine r_icmp_ge (tgt := 119) C dX5_burns_112 (by decide) (by omega) (by omega) (fun h112 => ?_) (fun h112 => ?_)
              · refine r_iconst C dX5_burns_119 ?_
                refine r_iadd C dX5_burns_120 ?_
                refine r_iast C dX5_burns_121 ha (up_s _ _ _) (by omega) (by omega) ?_
                rw [up_up]
                first | rw [srm_mv _ _ _ (by omega)] | rw [srm_m0]
                exact r_vretD C dX5_burns_122 (congrArg (fun z => up σ a (gAr (gty X 0) 99 (srm s r z))) (burn_a (by omega) (by unfold lessR; (repeat' split) <;> omega) (by omega)))
              · refine r_iconst C dX5_burns_115 ?_
                refine r_goto (tgt := 120) C dX5_burns_116 (by decide) ?_
                refine r_iadd C dX5_burns_120 ?_
                refine r_iast C dX5_burns_121 ha (up_s _ _ _) (by omega) (by omega) ?_
                rw [up_up]
                first | rw [srm_mv _ _ _ (by omega)] | rw [srm_m0]
                exact r_vretD C dX5_burns_122 (congrArg (fun z => up σ a (gAr (gty X 0) 99 (srm s r z))) (burn_a (by omega) (by unfold lessR; (repeat' split) <;> omega) (by omega)))
      · refine r_iconst C dX5_burns_42 ?_
        refine r_goto (tgt := 47) C dX5_burns_43 (by decide) ?_
        refine r_iadd C dX5_burns_47 ?_
        refine r_istore_n C dX5_burns_48 rfl (Nat.le_of_ble_eq_true rfl) rfl ?_
        dsimp only [List.set]
        refine r_aload_n C dX5_burns_49 rfl rfl ?_
        refine r_iload_n C dX5_burns_50 rfl rfl ?_
        refine r_iconst C dX5_burns_51 ?_
        refine r_iadd C dX5_burns_52 ?_
        refine r_dup2 C dX5_burns_53 rfl rfl ?_
        refine r_iald C dX5_burns_54 ha (up_s _ _ _) (by omega) (by omega) ?_
        first | rw [srm_at _ _ _ (by omega)] | rw [srm_a0]
        try simp only [up_ap, Int.reduceEq, reduceIte]
        refine r_iconst C dX5_burns_55 ?_
        refine r_iadd C dX5_burns_56 ?_
        refine r_iast C dX5_burns_57 ha (up_s _ _ _) (by omega) (by omega) ?_
        rw [up_up]
        first | rw [srm_mv _ _ _ (by omega)] | rw [srm_m0]
        refine r_aload_n C dX5_burns_58 rfl rfl ?_
        refine r_iload_n C dX5_burns_59 rfl rfl ?_
        refine r_aload_n C dX5_burns_60 rfl rfl ?_
        refine r_iload_n C dX5_burns_61 rfl rfl ?_
        refine r_iald C dX5_burns_62 ha (up_s _ _ _) (by omega) (by omega) ?_
        first | rw [srm_at _ _ _ (by omega)] | rw [srm_a0]
        try simp only [up_ap, Int.reduceEq, reduceIte]
        refine r_iload_n C dX5_burns_63 rfl rfl ?_
        refine r_icmp_le (tgt := 75) C dX5_burns_64 (by decide) (by omega) (by omega) (fun h64 => ?_) (fun h64 => ?_)
        · refine r_iconst C dX5_burns_75 ?_
          refine r_iast C dX5_burns_76 ha (up_s _ _ _) (by omega) (by omega) ?_
          rw [up_up]
          first | rw [srm_mv _ _ _ (by omega)] | rw [srm_m0]
          refine r_aload_n C dX5_burns_77 rfl rfl ?_
          refine r_iload_n C dX5_burns_78 rfl rfl ?_
          refine r_iconst C dX5_burns_79 ?_
          refine r_iadd C dX5_burns_80 ?_
          refine r_aload_n C dX5_burns_81 rfl rfl ?_
          refine r_iload_n C dX5_burns_82 rfl rfl ?_
          refine r_iald C dX5_burns_83 ha (up_s _ _ _) (by omega) (by omega) ?_
          first | rw [srm_at _ _ _ (by omega)] | rw [srm_a0]
          try simp only [up_ap, Int.reduceEq, reduceIte]
          refine r_if_le (tgt := 91) C dX5_burns_84 (by decide) (by omega) (fun h84 => ?_) (fun h84 => ?_)
          · refine r_iconst C dX5_burns_91 ?_
            refine r_iast C dX5_burns_92 ha (up_s _ _ _) (by omega) (by omega) ?_
            rw [up_up]
            first | rw [srm_mv _ _ _ (by omega)] | rw [srm_m0]
            refine r_aload_n C dX5_burns_93 rfl rfl ?_
            refine r_iload_n C dX5_burns_94 rfl rfl ?_
            refine r_iconst C dX5_burns_95 ?_
            refine r_iadd C dX5_burns_96 ?_
            refine r_dup2 C dX5_burns_97 rfl rfl ?_
            refine r_iald C dX5_burns_98 ha (up_s _ _ _) (by omega) (by omega) ?_
            first | rw [srm_at _ _ _ (by omega)] | rw [srm_a0]
            try simp only [up_ap, Int.reduceEq, reduceIte]
            refine r_aload_n C dX5_burns_99 rfl rfl ?_
            refine r_iload_n C dX5_burns_100 rfl rfl ?_
            refine r_iald C dX5_burns_101 ha (up_s _ _ _) (by omega) (by omega) ?_
            first | rw [srm_at _ _ _ (by omega)] | rw [srm_a0]
            try simp only [up_ap, Int.reduceEq, reduceIte]
            refine r_if_le (tgt := 119) C dX5_burns_102 (by decide) (by omega) (fun h102 => ?_) (fun h102 => ?_)
            · refine r_iconst C dX5_burns_119 ?_
              refine r_iadd C dX5_burns_120 ?_
              refine r_iast C dX5_burns_121 ha (up_s _ _ _) (by omega) (by omega) ?_
              rw [up_up]
              first | rw [srm_mv _ _ _ (by omega)] | rw [srm_m0]
              exact r_vretD C dX5_burns_122 (congrArg (fun z => up σ a (gAr (gty X 0) 99 (srm s r z))) (burn_a (by omega) (by unfold lessR; (repeat' split) <;> omega) (by omega)))
            · refine r_aload_n C dX5_burns_105 rfl rfl ?_
              refine r_iload_n C dX5_burns_106 rfl rfl ?_
              refine r_iconst C dX5_burns_107 ?_
              refine r_iadd C dX5_burns_108 ?_
              refine r_iald C dX5_burns_109 ha (up_s _ _ _) (by omega) (by omega) ?_
              first | rw [srm_at _ _ _ (by omega)] | rw [srm_a0]
              try simp only [up_ap, Int.reduceEq, reduceIte]
              refine r_bipush C dX5_burns_110 (by decide) ?_
              refine r_icmp_ge (tgt := 119) C dX5_burns_112 (by decide) (by omega) (by omega) (fun h112 => ?_) (fun h112 => ?_)
              · refine r_iconst C dX5_burns_119 ?_
                refine r_iadd C dX5_burns_120 ?_
                refine r_iast C dX5_burns_121 ha (up_s _ _ _) (by omega) (by omega) ?_
                rw [up_up]
                first | rw [srm_mv _ _ _ (by omega)] | rw [srm_m0]
                exact r_vretD C dX5_burns_122 (congrArg (fun z => up σ a (gAr (gty X 0) 99 (srm s r z))) (burn_a (by omega) (by unfold lessR; (repeat' split) <;> omega) (by omega)))
              · refine r_iconst C dX5_burns_115 ?_
                refine r_goto (tgt := 120) C dX5_burns_116 (by decide) ?_
                refine r_iadd C dX5_burns_120 ?_
                refine r_iast C dX5_burns_121 ha (up_s _ _ _) (by omega) (by omega) ?_
                rw [up_up]
                first | rw [srm_mv _ _ _ (by omega)] | rw [srm_m0]
                exact r_vretD C dX5_burns_122 (congrArg (fun z => up σ a (gAr (gty X 0) 99 (srm s r z))) (burn_a (by omega) (by unfold lessR; (repeat' split) <;> omega) (by omega)))
          · refine r_iconst C dX5_burns_87 ?_
            refine r_goto (tgt := 92) C dX5_burns_88 (by decide) ?_
            refine r_iast C dX5_burns_92 ha (up_s _ _ _) (by omega) (by omega) ?_
            rw [up_up]
            first | rw [srm_mv _ _ _ (by omega)] | rw [srm_m0]
            refine r_aload_n C dX5_burns_93 rfl rfl ?_
            refine r_iload_n C dX5_burns_94 rfl rfl ?_
            refine r_iconst C dX5_burns_95 ?_
            refine r_iadd C dX5_burns_96 ?_
            refine r_dup2 C dX5_burns_97 rfl rfl ?_
            refine r_iald C dX5_burns_98 ha (up_s _ _ _) (by omega) (by omega) ?_
            first | rw [srm_at _ _ _ (by omega)] | rw [srm_a0]
            try simp only [up_ap, Int.reduceEq, reduceIte]
            refine r_aload_n C dX5_burns_99 rfl rfl ?_
            refine r_iload_n C dX5_burns_100 rfl rfl ?_
            refine r_iald C dX5_burns_101 ha (up_s _ _ _) (by omega) (by omega) ?_
            first | rw [srm_at _ _ _ (by omega)] | rw [srm_a0]
            try simp only [up_ap, Int.reduceEq, reduceIte]
            refine r_if_le (tgt := 119) C dX5_burns_102 (by decide) (by omega) (fun h102 => ?_) (fun h102 => ?_)
            · refine r_iconst C dX5_burns_119 ?_
              refine r_iadd C dX5_burns_120 ?_
              refine r_iast C dX5_burns_121 ha (up_s _ _ _) (by omega) (by omega) ?_
              rw [up_up]
              first | rw [srm_mv _ _ _ (by omega)] | rw [srm_m0]
              exact r_vretD C dX5_burns_122 (congrArg (fun z => up σ a (gAr (gty X 0) 99 (srm s r z))) (burn_a (by omega) (by unfold lessR; (repeat' split) <;> omega) (by omega)))
            · refine r_aload_n C dX5_burns_105 rfl rfl ?_
              refine r_iload_n C dX5_burns_106 rfl rfl ?_
              refine r_iconst C dX5_burns_107 ?_
              refine r_iadd C dX5_burns_108 ?_
              refine r_iald C dX5_burns_109 ha (up_s _ _ _) (by omega) (by omega) ?_
              first | rw [srm_at _ _ _ (by omega)] | rw [srm_a0]
              try simp only [up_ap, Int.reduceEq, reduceIte]
              refine r_bipush C dX5_burns_110 (by decide) ?_
              refine r_icmp_ge (tgt := 119) C dX5_burns_112 (by decide) (by omega) (by omega) (fun h112 => ?_) (fun h112 => ?_)
              · refine r_iconst C dX5_burns_119 ?_
                refine r_iadd C dX5_burns_120 ?_
                refine r_iast C dX5_burns_121 ha (up_s _ _ _) (by omega) (by omega) ?_
                rw [up_up]
                first | rw [srm_mv _ _ _ (by omega)] | rw [srm_m0]
                exact r_vretD C dX5_burns_122 (congrArg (fun z => up σ a (gAr (gty X 0) 99 (srm s r z))) (burn_a (by omega) (by unfold lessR; (repeat' split) <;> omega) (by omega)))
              · refine r_iconst C dX5_burns_115 ?_
                refine r_goto (tgt := 120) C dX5_burns_116 (by decide) ?_
                refine r_iadd C dX5_burns_120 ?_
                refine r_iast C dX5_burns_121 ha (up_s _ _ _) (by omega) (by omega) ?_
                rw [up_up]
                first | rw [srm_mv _ _ _ (by omega)] | rw [srm_m0]
                exact r_vretD C dX5_burns_122 (congrArg (fun z => up σ a (gAr (gty X 0) 99 (srm s r z))) (burn_a (by omega) (by unfold lessR; (repeat' split) <;> omega) (by omega)))
        · refine r_aload_n C dX5_burns_67 rfl rfl ?_
          refine r_iload_n C dX5_burns_68 rfl rfl ?_
          refine r_iald C dX5_burns_69 ha (up_s _ _ _) (by omega) (by omega) ?_
          first | rw [srm_at _ _ _ (by omega)] | rw [srm_a0]
          try simp only [up_ap, Int.reduceEq, reduceIte]
          refine r_iload_n C dX5_burns_70 rfl rfl ?_
          refine r_isub C dX5_burns_71 ?_
          refine r_goto (tgt := 76) C dX5_burns_72 (by decide) ?_
          refine r_iast C dX5_burns_76 ha (up_s _ _ _) (by omega) (by omega) ?_
          rw [up_up]
          first | rw [srm_mv _ _ _ (by omega)] | rw [srm_m0]
          refine r_aload_n C dX5_burns_77 rfl rfl ?_
          refine r_iload_n C dX5_burns_78 rfl rfl ?_
          refine r_iconst C dX5_burns_79 ?_
          refine r_iadd C dX5_burns_80 ?_
          refine r_aload_n C dX5_burns_81 rfl rfl ?_
          refine r_iload_n C dX5_burns_82 rfl rfl ?_
          refine r_iald C dX5_burns_83 ha (up_s _ _ _) (by omega) (by omega) ?_
          first | rw [srm_at _ _ _ (by omega)] | rw [srm_a0]
          try simp only [up_ap, Int.reduceEq, reduceIte]
          refine r_if_le (tgt := 91) C dX5_burns_84 (by decide) (by omega) (fun h84 => ?_) (fun h84 => ?_)
          · refine r_iconst C dX5_burns_91 ?_
            refine r_iast C dX5_burns_92 ha (up_s _ _ _) (by omega) (by omega) ?_
            rw [up_up]
            first | rw [srm_mv _ _ _ (by omega)] | rw [srm_m0]
            refine r_aload_n C dX5_burns_93 rfl rfl ?_
            refine r_iload_n C dX5_burns_94 rfl rfl ?_
            refine r_iconst C dX5_burns_95 ?_
            refine r_iadd C dX5_burns_96 ?_
            refine r_dup2 C dX5_burns_97 rfl rfl ?_
            refine r_iald C dX5_burns_98 ha (up_s _ _ _) (by omega) (by omega) ?_
            first | rw [srm_at _ _ _ (by omega)] | rw [srm_a0]
            try simp only [up_ap, Int.reduceEq, reduceIte]
            refine r_aload_n C dX5_burns_99 rfl rfl ?_
            refine r_iload_n C dX5_burns_100 rfl rfl ?_
            refine r_iald C dX5_burns_101 ha (up_s _ _ _) (by omega) (by omega) ?_
            first | rw [srm_at _ _ _ (by omega)] | rw [srm_a0]
            try simp only [up_ap, Int.reduceEq, reduceIte]
            refine r_if_le (tgt := 119) C dX5_burns_102 (by decide) (by omega) (fun h102 => ?_) (fun h102 => ?_)
            · refine r_iconst C dX5_burns_119 ?_
              refine r_iadd C dX5_burns_120 ?_
              refine r_iast C dX5_burns_121 ha (up_s _ _ _) (by omega) (by omega) ?_
              rw [up_up]
              first | rw [srm_mv _ _ _ (by omega)] | rw [srm_m0]
              exact r_vretD C dX5_burns_122 (congrArg (fun z => up σ a (gAr (gty X 0) 99 (srm s r z))) (burn_a (by omega) (by unfold lessR; (repeat' split) <;> omega) (by omega)))
            · refine r_aload_n C dX5_burns_105 rfl rfl ?_
              refine r_iload_n C dX5_burns_106 rfl rfl ?_
              refine r_iconst C dX5_burns_107 ?_
              refine r_iadd C dX5_burns_108 ?_
              refine r_iald C dX5_burns_109 ha (up_s _ _ _) (by omega) (by omega) ?_
              first | rw [srm_at _ _ _ (by omega)] | rw [srm_a0]
              try simp only [up_ap, Int.reduceEq, reduceIte]
              refine r_bipush C dX5_burns_110 (by decide) ?_
              refine r_icmp_ge (tgt := 119) C dX5_burns_112 (by decide) (by omega) (by omega) (fun h112 => ?_) (fun h112 => ?_)
              · refine r_iconst C dX5_burns_119 ?_
                refine r_iadd C dX5_burns_120 ?_
                refine r_iast C dX5_burns_121 ha (up_s _ _ _) (by omega) (by omega) ?_
                rw [up_up]
                first | rw [srm_mv _ _ _ (by omega)] | rw [srm_m0]
                exact r_vretD C dX5_burns_122 (congrArg (fun z => up σ a (gAr (gty X 0) 99 (srm s r z))) (burn_a (by omega) (by unfold lessR; (repeat' split) <;> omega) (by omega)))
              · refine r_iconst C dX5_burns_115 ?_
                refine r_goto (tgt := 120) C dX5_burns_116 (by decide) ?_
                refine r_iadd C dX5_burns_120 ?_
                refine r_iast C dX5_burns_121 ha (up_s _ _ _) (by omega) (by omega) ?_
                rw [up_up]
                first | rw [srm_mv _ _ _ (by omega)] | rw [srm_m0]
                exact r_vretD C dX5_burns_122 (congrArg (fun z => up σ a (gAr (gty X 0) 99 (srm s r z))) (burn_a (by omega) (by unfold lessR; (repeat' split) <;> omega) (by omega)))
          · refine r_iconst C dX5_burns_87 ?_
            refine r_goto (tgt := 92) C dX5_burns_88 (by decide) ?_
            refine r_iast C dX5_burns_92 ha (up_s _ _ _) (by omega) (by omega) ?_
            rw [up_up]
            first | rw [srm_mv _ _ _ (by omega)] | rw [srm_m0]
            refine r_aload_n C dX5_burns_93 rfl rfl ?_
            refine r_iload_n C dX5_burns_94 rfl rfl ?_
            refine r_iconst C dX5_burns_95 ?_
            refine r_iadd C dX5_burns_96 ?_
            refine r_dup2 C dX5_burns_97 rfl rfl ?_
            refine r_iald C dX5_burns_98 ha (up_s _ _ _) (by omega) (by omega) ?_
            first | rw [srm_at _ _ _ (by omega)] | rw [srm_a0]
            try simp only [up_ap, Int.reduceEq, reduceIte]
            refine r_aload_n C dX5_burns_99 rfl rfl ?_
            refine r_iload_n C dX5_burns_100 rfl rfl ?_
            refine r_iald C dX5_burns_101 ha (up_s _ _ _) (by omega) (by omega) ?_
            first | rw [srm_at _ _ _ (by omega)] | rw [srm_a0]
            try simp only [up_ap, Int.reduceEq, reduceIte]
            refine r_if_le (tgt := 119) C dX5_burns_102 (by decide) (by omega) (fun h102 => ?_) (fun h102 => ?_)
            · refine r_iconst C dX5_burns_119 ?_
              refine r_iadd C dX5_burns_120 ?_
              refine r_iast C dX5_burns_121 ha (up_s _ _ _) (by omega) (by omega) ?_
              rw [up_up]
              first | rw [srm_mv _ _ _ (by omega)] | rw [srm_m0]
              exact r_vretD C dX5_burns_122 (congrArg (fun z => up σ a (gAr (gty X 0) 99 (srm s r z))) (burn_a (by omega) (by unfold lessR; (repeat' split) <;> omega) (by omega)))
            · refine r_aload_n C dX5_burns_105 rfl rfl ?_
              refine r_iload_n C dX5_burns_106 rfl rfl ?_
              refine r_iconst C dX5_burns_107 ?_
              refine r_iadd C dX5_burns_108 ?_
              refine r_iald C dX5_burns_109 ha (up_s _ _ _) (by omega) (by omega) ?_
              first | rw [srm_at _ _ _ (by omega)] | rw [srm_a0]
              try simp only [up_ap, Int.reduceEq, reduceIte]
              refine r_bipush C dX5_burns_110 (by decide) ?_
              refine r_icmp_ge (tgt := 119) C dX5_burns_112 (by decide) (by omega) (by omega) (fun h112 => ?_) (fun h112 => ?_)
              · refine r_iconst C dX5_burns_119 ?_
                refine r_iadd C dX5_burns_120 ?_
                refine r_iast C dX5_burns_121 ha (up_s _ _ _) (by omega) (by omega) ?_
                rw [up_up]
                first | rw [srm_mv _ _ _ (by omega)] | rw [srm_m0]
                exact r_vretD C dX5_burns_122 (congrArg (fun z => up σ a (gAr (gty X 0) 99 (srm s r z))) (burn_a (by omega) (by unfold lessR; (repeat' split) <;> omega) (by omega)))
              · refine r_iconst C dX5_burns_115 ?_
                refine r_goto (tgt := 120) C dX5_burns_116 (by decide) ?_
                refine r_iadd C dX5_burns_120 ?_
                refine r_iast C dX5_burns_121 ha (up_s _ _ _) (by omega) (by omega) ?_
                rw [up_up]
                first | rw [srm_mv _ _ _ (by omega)] | rw [srm_m0]
                exact r_vretD C dX5_burns_122 (congrArg (fun z => up σ a (gAr (gty X 0) 99 (srm s r z))) (burn_a (by omega) (by unfold lessR; (repeat' split) <;> omega) (by omega)))
  · exact r_vretD C dX5_burns_16 (by unfold burnR; rw [if_pos (by omega)])

theorem c_X5_burns {l : Launch} {D : va_G} {ty : Nat → ClassId} {ad : Int → Nat} {N : Int} {σ : Int → va_E} {a : Int} {s : Int → Int} {r : Int} (ha : 0 ≤ a ∧ a < N) (hr : 0 ≤ r ∧ r < 6) (hl : 0 ≤ rm s r 0 ∧ rm s r 0 ≤ 60) (hb : rm s r 1 = 0 ∨ rm s r 1 = 1) (hwk : 0 ≤ rm s r 2 ∧ rm s r 2 ≤ 9) : gM0 l yX5_burns cX5_burns 4 none 0 0 [.ref (ad a), .int (gI r)] D ty ad N (up σ a (gAr (ty 0) 99 s)) none (up σ a (gAr (ty 0) 99 (srm s r (burnR (rm s r))))) := by
  have h := c_X5_burns0 (l := l) (D := D) (ty := ty) (ad := ad) (σ := σ) ha hr hl hb hwk
  rw [srm_rm] at h
  exact h

set_option maxRecDepth 100000 in
set_option maxHeartbeats 4000000 in
theorem c_X5_draws {l : Launch} {D : va_G} {ty : Nat → ClassId} {ad : Int → Nat} {N : Int} {σ : Int → va_E} {a : Int} {s : Int → Int} (ha : 0 ≤ a ∧ a < N) (hs : okS s) (h70 : s 7 ≠ -1) : gM0 l yX5_draws cX5_draws 3 none 3 70 [.ref (ad a)] D ty ad N (up σ a (gAr (ty 0) 99 (s))) (none) (up σ a (gAr (ty 0) 99 (blow s))) := by
  refine gMet_of [some (.ref (ad a)), none, none] (by decide +kernel) rfl (Nat.le_of_ble_eq_true rfl) rfl ?_
  intro X hl hD hty C hini
  subst hl hD hty
  have hdr := hs.dra
  have hbl := blown_rng hs
  have hg : up σ a (gAr (gty X 0) 99 s) a = gAr (gty X 0) 99 s := up_s _ _ _
  refine r_aload_n C dX5_draws_0 rfl rfl ?_
  refine r_aload_n C dX5_draws_1 rfl rfl ?_
  refine r_bipush C dX5_draws_2 (by decide) ?_
  refine r_iald C dX5_draws_4 ha (up_s _ _ _) (by omega) (by omega) ?_
  refine r_aload_n C dX5_draws_5 rfl rfl ?_
  refine r_bipush C dX5_draws_6 (by decide) ?_
  refine r_iald C dX5_draws_8 ha (up_s _ _ _) (by omega) (by omega) ?_
  refine r_cS C cwX5_60 (c_X5_reaches (s := s) ha hg hs rfl rfl (by omega)) dX5_draws_9 rfl rfl rfl (Nat.le_of_ble_eq_true rfl) ⟨Nat.le_of_ble_eq_true rfl, Nat.le_of_ble_eq_true rfl⟩ ⟨Nat.le_of_ble_eq_true rfl, Nat.le_of_ble_eq_true rfl⟩ ?_
  refine r_istore_n C dX5_draws_12 rfl (Nat.le_of_ble_eq_true rfl) rfl ?_
  dsimp only [List.set]
  refine r_aload_n C dX5_draws_13 rfl rfl ?_
  refine r_bipush C dX5_draws_14 (by decide) ?_
  refine r_dup2 C dX5_draws_16 rfl rfl ?_
  refine r_iald C dX5_draws_17 ha (up_s _ _ _) (by omega) (by omega) ?_
  refine r_aload_n C dX5_draws_18 rfl rfl ?_
  refine r_aload_n C dX5_draws_19 rfl rfl ?_
  refine r_bipush C dX5_draws_20 (by decide) ?_
  refine r_iald C dX5_draws_22 ha (up_s _ _ _) (by omega) (by omega) ?_
  refine r_aload_n C dX5_draws_23 rfl rfl ?_
  refine r_bipush C dX5_draws_24 (by decide) ?_
  refine r_iald C dX5_draws_26 ha (up_s _ _ _) (by omega) (by omega) ?_
  refine r_cS C cwX5_87 (c_X5_blows (s := s) ha hg hs rfl rfl (by omega)) dX5_draws_27 rfl rfl rfl (Nat.le_of_ble_eq_true rfl) ⟨Nat.le_of_ble_eq_true rfl, Nat.le_of_ble_eq_true rfl⟩ ⟨Nat.le_of_ble_eq_true rfl, Nat.le_of_ble_eq_true rfl⟩ ?_
  refine r_iadd C dX5_draws_30 ?_
  refine r_iast C dX5_draws_31 ha (up_s _ _ _) (by omega) (by omega) ?_
  rw [up_up]
  refine r_iconst C dX5_draws_32 ?_
  refine r_istore_n C dX5_draws_33 rfl (Nat.le_of_ble_eq_true rfl) rfl ?_
  dsimp only [List.set]
  have lp : ∀ (n : Nat) (p : Int), (0 ≤ p) → (p + n = blown s) → V X 0 0 (gQ X (gD (none) ad N (up σ a (gAr (gty X 0) 99 (blow s)))) 0 0) 34 [some (.ref (ad a)), some (.int (gI (blown s))), some (.int (gI p))] [] ad N (up σ a (gAr (gty X 0) 99 (offTo (up s 6 (s 6 + cbF s (s 7) (blown s))) (s 7) p))) := by
    intro n
    induction n with
    | zero =>
      intro p hp hpn
      have hpp : p = blown s := by omega
      subst hpp
      refine r_iload_n C dX5_draws_34 rfl rfl ?_
      refine r_iload_n C dX5_draws_35 rfl rfl ?_
      refine r_icmp_ge (tgt := 65) C dX5_draws_36 (by decide) (by omega) (by omega) (fun h36 => ?_) (fun h36 => ?_)
      · refine r_aload_n C dX5_draws_65 rfl rfl ?_
        refine r_bipush C dX5_draws_66 (by decide) ?_
        refine r_iconst C dX5_draws_68 ?_
        refine r_iast C dX5_draws_69 ha (up_s _ _ _) (by omega) (by omega) ?_
        rw [up_up]
        refine r_aload_n C dX5_draws_70 rfl rfl ?_
        refine r_bipush C dX5_draws_71 (by decide) ?_
        refine r_iconst C dX5_draws_73 ?_
        refine r_iast C dX5_draws_74 ha (up_s _ _ _) (by omega) (by omega) ?_
        rw [up_up]
        exact r_vretD C dX5_draws_75 rfl
      · exact absurd h36 (by omega)
    | succ n ih =>
      intro p hp hpn
      refine r_iload_n C dX5_draws_34 rfl rfl ?_
      refine r_iload_n C dX5_draws_35 rfl rfl ?_
      refine r_icmp_ge (tgt := 65) C dX5_draws_36 (by decide) (by omega) (by omega) (fun h36 => ?_) (fun h36 => ?_)
      · exact absurd h36 (by omega)
      · refine r_aload_n C dX5_draws_39 rfl rfl ?_
        refine r_bipush C dX5_draws_40 (by decide) ?_
        refine r_bipush C dX5_draws_42 (by decide) ?_
        refine r_aload_n C dX5_draws_44 rfl rfl ?_
        refine r_bipush C dX5_draws_45 (by decide) ?_
        refine r_iald C dX5_draws_47 ha (up_s _ _ _) (by omega) (by omega) ?_
        rw [offTo_lo (by omega), up_n (show (7 : Int) ≠ 6 by omega)]
        refine r_iload_n C dX5_draws_48 rfl rfl ?_
        refine r_iadd C dX5_draws_49 ?_
        refine r_bipush C dX5_draws_50 (by decide) ?_
        refine r_irem C dX5_draws_52 (by omega) (by omega) ?_
        refine r_imul C dX5_draws_53 ?_
        refine r_iadd C dX5_draws_54 ?_
        refine r_iconst C dX5_draws_55 ?_
        refine r_iadd C dX5_draws_56 ?_
        refine r_iconst C dX5_draws_57 ?_
        refine r_iast C dX5_draws_58 ha (up_s _ _ _) (by omega) (by omega) ?_
        rw [up_up]
        rw [offTo_s ⟨by omega, by omega⟩]
        refine r_iinc C dX5_draws_59 rfl rfl ?_
        dsimp only [List.set]
        refine r_goto (tgt := 34) C dX5_draws_62 (by decide) ?_
        exact ih _ (by omega) (by omega)
  have h0 := lp (blown s).toNat 0 (by omega) (by omega)
  rw [offTo_0] at h0
  exact h0

set_option maxRecDepth 100000 in
set_option maxHeartbeats 4000000 in
theorem c_X5_ages {l : Launch} {D : va_G} {ty : Nat → ClassId} {ad : Int → Nat} {N : Int} {σ : Int → va_E} {a : Int} {s : Int → Int} {r : Int} (ha : 0 ≤ a ∧ a < N) (hr : 0 ≤ r ∧ r < 6) (hm : 0 ≤ rm s r 6 ∧ rm s r 6 ≤ 4) (hb : rm s r 1 = 0 ∨ rm s r 1 = 1) (hset : 1 ≤ s 0 ∧ s 0 ≤ 50) (hd0 : ∀ i, 0 ≤ i → i < 4 → 0 ≤ rm s r (11 + i) ∧ rm s r (11 + i) ≤ 100) : gM0 l yX5_ages cX5_ages 6 none 0 0 [.ref (ad a), .int (gI r)] D ty ad N (up σ a (gAr (ty 0) 99 (s))) (none) (up σ a (gAr (ty 0) 99 (ageA s r))) := by
  refine gMet_of [some (.ref (ad a)), some (.int (gI r)), none, none, none, none] (by decide +kernel) rfl (Nat.le_of_ble_eq_true rfl) rfl ?_
  intro X hl hD hty C hini
  subst hl hD hty
  refine r_bipush C dX5_ages_0 (by decide) ?_
  refine r_bipush C dX5_ages_2 (by decide) ?_
  refine r_iload_n C dX5_ages_4 rfl rfl ?_
  refine r_imul C dX5_ages_5 ?_
  refine r_iadd C dX5_ages_6 ?_
  refine r_istore_n C dX5_ages_7 rfl (Nat.le_of_ble_eq_true rfl) rfl ?_
  dsimp only [List.set]
  refine r_iconst C dX5_ages_8 ?_
  refine r_istore_n C dX5_ages_9 rfl (Nat.le_of_ble_eq_true rfl) rfl ?_
  dsimp only [List.set]
  refine r_iconst C dX5_ages_10 ?_
  refine r_istore C dX5_ages_11 (Nat.le_of_ble_eq_true rfl) rfl ?_
  dsimp only [List.set]
  have lp : ∀ (n : Nat) (p q : Int) (ρ : Int → Int), (0 ≤ q ∧ q ≤ p) → (p + n = rm s r 6) → (ρ 1 = 0 ∨ ρ 1 = 1) → (ρ 6 = rm s r 6) → (ρ 1 = rm s r 1) → (∀ i, 0 ≤ i → i < 4 → 0 ≤ ρ (11 + i) ∧ ρ (11 + i) ≤ 100) → (ageL (s 0) n p q ρ = ageL (s 0) (rm s r 6).toNat 0 0 (rm s r)) → V X 0 0 (gQ X (gD (none) ad N (up σ a (gAr (gty X 0) 99 (ageA s r)))) 0 0) 13 [some (.ref (ad a)), some (.int (gI r)), some (.int (gI (9 + 15 * r))), some (.int (gI q)), some (.int (gI p)), none] [] ad N (up σ a (gAr (gty X 0) 99 (up (srm s r ρ) 3 (s 3 + (p - q))))) := by
    intro n
    induction n with
    | zero =>
      intro p q ρ hp hpn hb2 h6 hb1 hd2 e
      refine r_iload C dX5_ages_13 rfl ?_
      refine r_aload_n C dX5_ages_15 rfl rfl ?_
      refine r_iload_n C dX5_ages_16 rfl rfl ?_
      refine r_bipush C dX5_ages_17 (by decide) ?_
      refine r_iadd C dX5_ages_19 ?_
      refine r_iald C dX5_ages_20 ha (up_s _ _ _) (by omega) (by omega) ?_
      first | (rw [up_n (by omega), srm_a2 _ _ _ (by omega)]) | (rw [up_n (by omega), srm_at _ _ _ (by omega)]) | (rw [up_n (by omega), srm_lo (by omega)]) | rw [up_s]
      refine r_icmp_ge (tgt := 113) C dX5_ages_21 (by decide) (by omega) (by omega) (fun h21 => ?_) (fun h21 => ?_)
      · refine r_aload_n C dX5_ages_113 rfl rfl ?_
        refine r_iload_n C dX5_ages_114 rfl rfl ?_
        refine r_bipush C dX5_ages_115 (by decide) ?_
        refine r_iadd C dX5_ages_117 ?_
        refine r_iload_n C dX5_ages_118 rfl rfl ?_
        refine r_iast C dX5_ages_119 ha (up_s _ _ _) (by omega) (by omega) ?_
        rw [up_up]
        first | rw [ag_mv _ _ hr.1 (by omega)] | rw [ag_m1 _ _ hr.1 (by omega)] | rw [up_up]
        exact r_vretD C dX5_ages_120 (by unfold ageA ageR ageQ; rw [← e, ← h6]; simp only [ageL]; rw [show p = ρ 6 by omega])
      · exact absurd h21 (by omega)
    | succ n ih =>
      intro p q ρ hp hpn hb2 h6 hb1 hd2 e
      have hdp := hd2 p (by omega)
      refine r_iload C dX5_ages_13 rfl ?_
      refine r_aload_n C dX5_ages_15 rfl rfl ?_
      refine r_iload_n C dX5_ages_16 rfl rfl ?_
      refine r_bipush C dX5_ages_17 (by decide) ?_
      refine r_iadd C dX5_ages_19 ?_
      refine r_iald C dX5_ages_20 ha (up_s _ _ _) (by omega) (by omega) ?_
      first | (rw [up_n (by omega), srm_a2 _ _ _ (by omega)]) | (rw [up_n (by omega), srm_at _ _ _ (by omega)]) | (rw [up_n (by omega), srm_lo (by omega)]) | rw [up_s]
      refine r_icmp_ge (tgt := 113) C dX5_ages_21 (by decide) (by omega) (by omega) (fun h21 => ?_) (fun h21 => ?_)
      · exact absurd h21 (by omega)
      · have hdp := hdp (by omega)
        refine r_aload_n C dX5_ages_24 rfl rfl ?_
        refine r_iload_n C dX5_ages_25 rfl rfl ?_
        refine r_iconst C dX5_ages_26 ?_
        refine r_iadd C dX5_ages_27 ?_
        refine r_iald C dX5_ages_28 ha (up_s _ _ _) (by omega) (by omega) ?_
        first | (rw [up_n (by omega), srm_a2 _ _ _ (by omega)]) | (rw [up_n (by omega), srm_at _ _ _ (by omega)]) | (rw [up_n (by omega), srm_lo (by omega)]) | rw [up_s]
        refine r_iconst C dX5_ages_29 ?_
        refine r_icmp_ne (tgt := 37) C dX5_ages_30 (by decide) (by omega) (by omega) (fun h30 => ?_) (fun h30 => ?_)
        · refine r_aload_n C dX5_ages_37 rfl rfl ?_
          refine r_iload_n C dX5_ages_38 rfl rfl ?_
          refine r_bipush C dX5_ages_39 (by decide) ?_
          refine r_iadd C dX5_ages_41 ?_
          refine r_iload C dX5_ages_42 rfl ?_
          refine r_iadd C dX5_ages_44 ?_
          refine r_iald C dX5_ages_45 ha (up_s _ _ _) (by omega) (by omega) ?_
          first | (rw [up_n (by omega), srm_a2 _ _ _ (by omega)]) | (rw [up_n (by omega), srm_at _ _ _ (by omega)]) | (rw [up_n (by omega), srm_lo (by omega)]) | rw [up_s]
          refine r_iconst C dX5_ages_46 ?_
          refine r_iadd C dX5_ages_47 ?_
          refine r_istore C dX5_ages_48 (Nat.le_of_ble_eq_true rfl) rfl ?_
          dsimp only [List.set]
          refine r_aload_n C dX5_ages_50 rfl rfl ?_
          refine r_iload_n C dX5_ages_51 rfl rfl ?_
          refine r_iconst C dX5_ages_52 ?_
          refine r_iadd C dX5_ages_53 ?_
          refine r_iald C dX5_ages_54 ha (up_s _ _ _) (by omega) (by omega) ?_
          first | (rw [up_n (by omega), srm_a2 _ _ _ (by omega)]) | (rw [up_n (by omega), srm_at _ _ _ (by omega)]) | (rw [up_n (by omega), srm_lo (by omega)]) | rw [up_s]
          refine r_iconst C dX5_ages_55 ?_
          refine r_icmp_eq (tgt := 67) C dX5_ages_56 (by decide) (by omega) (by omega) (fun h56 => ?_) (fun h56 => ?_)
          · refine r_aload_n C dX5_ages_67 rfl rfl ?_
            refine r_iload_n C dX5_ages_68 rfl rfl ?_
            refine r_bipush C dX5_ages_69 (by decide) ?_
            refine r_iadd C dX5_ages_71 ?_
            refine r_iload_n C dX5_ages_72 rfl rfl ?_
            refine r_iadd C dX5_ages_73 ?_
            refine r_aload_n C dX5_ages_74 rfl rfl ?_
            refine r_iload_n C dX5_ages_75 rfl rfl ?_
            refine r_bipush C dX5_ages_76 (by decide) ?_
            refine r_iadd C dX5_ages_78 ?_
            refine r_iload C dX5_ages_79 rfl ?_
            refine r_iadd C dX5_ages_81 ?_
            refine r_iald C dX5_ages_82 ha (up_s _ _ _) (by omega) (by omega) ?_
            first | (rw [up_n (by omega), srm_a2 _ _ _ (by omega)]) | (rw [up_n (by omega), srm_at _ _ _ (by omega)]) | (rw [up_n (by omega), srm_lo (by omega)]) | rw [up_s]
            refine r_iast C dX5_ages_83 ha (up_s _ _ _) (by omega) (by omega) ?_
            rw [up_up]
            first | rw [ag_mv _ _ hr.1 (by omega)] | rw [ag_m1 _ _ hr.1 (by omega)] | rw [up_up]
            refine r_aload_n C dX5_ages_84 rfl rfl ?_
            refine r_iload_n C dX5_ages_85 rfl rfl ?_
            refine r_bipush C dX5_ages_86 (by decide) ?_
            refine r_iadd C dX5_ages_88 ?_
            refine r_iload_n C dX5_ages_89 rfl rfl ?_
            refine r_iadd C dX5_ages_90 ?_
            refine r_iload C dX5_ages_91 rfl ?_
            refine r_iast C dX5_ages_93 ha (up_s _ _ _) (by omega) (by omega) ?_
            rw [up_up]
            first | rw [ag_mv _ _ hr.1 (by omega)] | rw [ag_m1 _ _ hr.1 (by omega)] | rw [up_up]
            refine r_iinc C dX5_ages_94 rfl rfl ?_
            dsimp only [List.set]
            refine r_goto (tgt := 107) C dX5_ages_97 (by decide) ?_
            refine r_iinc C dX5_ages_107 rfl rfl ?_
            dsimp only [List.set]
            refine r_goto (tgt := 13) C dX5_ages_110 (by decide) ?_
            first
            | (exfalso; omega)
            | (refine V_sub (L' := [some (.ref (ad a)), some (.int (gI r)), some (.int (gI (9 + 15 * r))), some (.int (gI (q + 1))), some (.int (gI (p + 1))), none]) rfl (fun i v hv => by match i, hv with | 0, hv => exact hv | 1, hv => exact hv | 2, hv => exact hv | 3, hv => exact hv | 4, hv => exact hv | 5, hv => simp at hv | i + 6, hv => simp at hv) ?_; rw [show s 3 + (p - q) = s 3 + (p + 1 - (q + 1)) by omega]; exact ih _ (q + 1) _ (by omega) (by omega) (by rw [up_n (by omega), up_n (by omega)]; exact hb2) (by rw [up_n (by omega), up_n (by omega)]; exact h6) (by rw [up_n (by omega), up_n (by omega)]; exact hb1) (fun i h1 h2 => if hi : i = q then (by rw [hi, up_s]; omega) else (by rw [up_n (by omega), up_n (by omega)]; exact hd2 i h1 h2)) ((show _ = ageL (s 0) (n + 1) p q ρ by simp only [ageL]; first | (rw [if_neg (show ¬ ρ 1 = 0 by omega), if_pos (by omega)]) | (rw [if_pos (show ρ 1 = 0 by omega), if_pos (by omega)])).trans e))
            | (refine V_sub (L' := [some (.ref (ad a)), some (.int (gI r)), some (.int (gI (9 + 15 * r))), some (.int (gI q)), some (.int (gI (p + 1))), none]) rfl (fun i v hv => by match i, hv with | 0, hv => exact hv | 1, hv => exact hv | 2, hv => exact hv | 3, hv => exact hv | 4, hv => exact hv | 5, hv => simp at hv | i + 6, hv => simp at hv) ?_; rw [show s 3 + (p - q) + 1 = s 3 + (p + 1 - q) by omega]; exact ih _ q _ (by omega) (by omega) hb2 h6 hb1 hd2 ((show _ = ageL (s 0) (n + 1) p q ρ by simp only [ageL]; first | (rw [if_neg (show ¬ ρ 1 = 0 by omega), if_neg (by omega)]) | (rw [if_pos (show ρ 1 = 0 by omega), if_neg (by omega)])).trans e))
          · refine r_iload C dX5_ages_59 rfl ?_
            refine r_aload_n C dX5_ages_61 rfl rfl ?_
            refine r_iconst C dX5_ages_62 ?_
            refine r_iald C dX5_ages_63 ha (up_s _ _ _) (by omega) (by omega) ?_
            first | (rw [up_n (by omega), srm_a2 _ _ _ (by omega)]) | (rw [up_n (by omega), srm_at _ _ _ (by omega)]) | (rw [up_n (by omega), srm_lo (by omega)]) | rw [up_s]
            refine r_icmp_ge (tgt := 100) C dX5_ages_64 (by decide) (by omega) (by omega) (fun h64 => ?_) (fun h64 => ?_)
            · refine r_aload_n C dX5_ages_100 rfl rfl ?_
              refine r_iconst C dX5_ages_101 ?_
              refine r_dup2 C dX5_ages_102 rfl rfl ?_
              refine r_iald C dX5_ages_103 ha (up_s _ _ _) (by omega) (by omega) ?_
              first | (rw [up_n (by omega), srm_a2 _ _ _ (by omega)]) | (rw [up_n (by omega), srm_at _ _ _ (by omega)]) | (rw [up_n (by omega), srm_lo (by omega)]) | rw [up_s]
              refine r_iconst C dX5_ages_104 ?_
              refine r_iadd C dX5_ages_105 ?_
              refine r_iast C dX5_ages_106 ha (up_s _ _ _) (by omega) (by omega) ?_
              rw [up_up]
              first | rw [ag_mv _ _ hr.1 (by omega)] | rw [ag_m1 _ _ hr.1 (by omega)] | rw [up_up]
              refine r_iinc C dX5_ages_107 rfl rfl ?_
              dsimp only [List.set]
              refine r_goto (tgt := 13) C dX5_ages_110 (by decide) ?_
              first
              | (exfalso; omega)
              | (refine V_sub (L' := [some (.ref (ad a)), some (.int (gI r)), some (.int (gI (9 + 15 * r))), some (.int (gI (q + 1))), some (.int (gI (p + 1))), none]) rfl (fun i v hv => by match i, hv with | 0, hv => exact hv | 1, hv => exact hv | 2, hv => exact hv | 3, hv => exact hv | 4, hv => exact hv | 5, hv => simp at hv | i + 6, hv => simp at hv) ?_; rw [show s 3 + (p - q) = s 3 + (p + 1 - (q + 1)) by omega]; exact ih _ (q + 1) _ (by omega) (by omega) (by rw [up_n (by omega), up_n (by omega)]; exact hb2) (by rw [up_n (by omega), up_n (by omega)]; exact h6) (by rw [up_n (by omega), up_n (by omega)]; exact hb1) (fun i h1 h2 => if hi : i = q then (by rw [hi, up_s]; omega) else (by rw [up_n (by omega), up_n (by omega)]; exact hd2 i h1 h2)) ((show _ = ageL (s 0) (n + 1) p q ρ by simp only [ageL]; first | (rw [if_neg (show ¬ ρ 1 = 0 by omega), if_pos (by omega)]) | (rw [if_pos (show ρ 1 = 0 by omega), if_pos (by omega)])).trans e))
              | (refine V_sub (L' := [some (.ref (ad a)), some (.int (gI r)), some (.int (gI (9 + 15 * r))), some (.int (gI q)), some (.int (gI (p + 1))), none]) rfl (fun i v hv => by match i, hv with | 0, hv => exact hv | 1, hv => exact hv | 2, hv => exact hv | 3, hv => exact hv | 4, hv => exact hv | 5, hv => simp at hv | i + 6, hv => simp at hv) ?_; rw [show s 3 + (p - q) + 1 = s 3 + (p + 1 - q) by omega]; exact ih _ q _ (by omega) (by omega) hb2 h6 hb1 hd2 ((show _ = ageL (s 0) (n + 1) p q ρ by simp only [ageL]; first | (rw [if_neg (show ¬ ρ 1 = 0 by omega), if_neg (by omega)]) | (rw [if_pos (show ρ 1 = 0 by omega), if_neg (by omega)])).trans e))
            · refine r_aload_n C dX5_ages_67 rfl rfl ?_
              refine r_iload_n C dX5_ages_68 rfl rfl ?_
              refine r_bipush C dX5_ages_69 (by decide) ?_
              refine r_iadd C dX5_ages_71 ?_
              refine r_iload_n C dX5_ages_72 rfl rfl ?_
              refine r_iadd C dX5_ages_73 ?_
              refine r_aload_n C dX5_ages_74 rfl rfl ?_
              refine r_iload_n C dX5_ages_75 rfl rfl ?_
              refine r_bipush C dX5_ages_76 (by decide) ?_
              refine r_iadd C dX5_ages_78 ?_
              refine r_iload C dX5_ages_79 rfl ?_
              refine r_iadd C dX5_ages_81 ?_
              refine r_iald C dX5_ages_82 ha (up_s _ _ _) (by omega) (by omega) ?_
              first | (rw [up_n (by omega), srm_a2 _ _ _ (by omega)]) | (rw [up_n (by omega), srm_at _ _ _ (by omega)]) | (rw [up_n (by omega), srm_lo (by omega)]) | rw [up_s]
              refine r_iast C dX5_ages_83 ha (up_s _ _ _) (by omega) (by omega) ?_
              rw [up_up]
              first | rw [ag_mv _ _ hr.1 (by omega)] | rw [ag_m1 _ _ hr.1 (by omega)] | rw [up_up]
              refine r_aload_n C dX5_ages_84 rfl rfl ?_
              refine r_iload_n C dX5_ages_85 rfl rfl ?_
              refine r_bipush C dX5_ages_86 (by decide) ?_
              refine r_iadd C dX5_ages_88 ?_
              refine r_iload_n C dX5_ages_89 rfl rfl ?_
              refine r_iadd C dX5_ages_90 ?_
              refine r_iload C dX5_ages_91 rfl ?_
              refine r_iast C dX5_ages_93 ha (up_s _ _ _) (by omega) (by omega) ?_
              rw [up_up]
              first | rw [ag_mv _ _ hr.1 (by omega)] | rw [ag_m1 _ _ hr.1 (by omega)] | rw [up_up]
              refine r_iinc C dX5_ages_94 rfl rfl ?_
              dsimp only [List.set]
              refine r_goto (tgt := 107) C dX5_ages_97 (by decide) ?_
              refine r_iinc C dX5_ages_107 rfl rfl ?_
              dsimp only [List.set]
              refine r_goto (tgt := 13) C dX5_ages_110 (by decide) ?_
              first
              | (exfalso; omega)
              | (refine V_sub (L' := [some (.ref (ad a)), some (.int (gI r)), some (.int (gI (9 + 15 * r))), some (.int (gI (q + 1))), some (.int (gI (p + 1))), none]) rfl (fun i v hv => by match i, hv with | 0, hv => exact hv | 1, hv => exact hv | 2, hv => exact hv | 3, hv => exact hv | 4, hv => exact hv | 5, hv => simp at hv | i + 6, hv => simp at hv) ?_; rw [show s 3 + (p - q) = s 3 + (p + 1 - (q + 1)) by omega]; exact ih _ (q + 1) _ (by omega) (by omega) (by rw [up_n (by omega), up_n (by omega)]; exact hb2) (by rw [up_n (by omega), up_n (by omega)]; exact h6) (by rw [up_n (by omega), up_n (by omega)]; exact hb1) (fun i h1 h2 => if hi : i = q then (by rw [hi, up_s]; omega) else (by rw [up_n (by omega), up_n (by omega)]; exact hd2 i h1 h2)) ((show _ = ageL (s 0) (n + 1) p q ρ by simp only [ageL]; first | (rw [if_neg (show ¬ ρ 1 = 0 by omega), if_pos (by omega)]) | (rw [if_pos (show ρ 1 = 0 by omega), if_pos (by omega)])).trans e))
              | (refine V_sub (L' := [some (.ref (ad a)), some (.int (gI r)), some (.int (gI (9 + 15 * r))), some (.int (gI q)), some (.int (gI (p + 1))), none]) rfl (fun i v hv => by match i, hv with | 0, hv => exact hv | 1, hv => exact hv | 2, hv => exact hv | 3, hv => exact hv | 4, hv => exact hv | 5, hv => simp at hv | i + 6, hv => simp at hv) ?_; rw [show s 3 + (p - q) + 1 = s 3 + (p + 1 - q) by omega]; exact ih _ q _ (by omega) (by omega) hb2 h6 hb1 hd2 ((show _ = ageL (s 0) (n + 1) p q ρ by simp only [ageL]; first | (rw [if_neg (show ¬ ρ 1 = 0 by omega), if_neg (by omega)]) | (rw [if_pos (show ρ 1 = 0 by omega), if_neg (by omega)])).trans e))
        · refine r_iconst C dX5_ages_33 ?_
          refine r_goto (tgt := 48) C dX5_ages_34 (by decide) ?_
          refine r_istore C dX5_ages_48 (Nat.le_of_ble_eq_true rfl) rfl ?_
          dsimp only [List.set]
          refine r_aload_n C dX5_ages_50 rfl rfl ?_
          refine r_iload_n C dX5_ages_51 rfl rfl ?_
          refine r_iconst C dX5_ages_52 ?_
          refine r_iadd C dX5_ages_53 ?_
          refine r_iald C dX5_ages_54 ha (up_s _ _ _) (by omega) (by omega) ?_
          first | (rw [up_n (by omega), srm_a2 _ _ _ (by omega)]) | (rw [up_n (by omega), srm_at _ _ _ (by omega)]) | (rw [up_n (by omega), srm_lo (by omega)]) | rw [up_s]
          refine r_iconst C dX5_ages_55 ?_
          refine r_icmp_eq (tgt := 67) C dX5_ages_56 (by decide) (by omega) (by omega) (fun h56 => ?_) (fun h56 => ?_)
          · refine r_aload_n C dX5_ages_67 rfl rfl ?_
            refine r_iload_n C dX5_ages_68 rfl rfl ?_
            refine r_bipush C dX5_ages_69 (by decide) ?_
            refine r_iadd C dX5_ages_71 ?_
            refine r_iload_n C dX5_ages_72 rfl rfl ?_
            refine r_iadd C dX5_ages_73 ?_
            refine r_aload_n C dX5_ages_74 rfl rfl ?_
            refine r_iload_n C dX5_ages_75 rfl rfl ?_
            refine r_bipush C dX5_ages_76 (by decide) ?_
            refine r_iadd C dX5_ages_78 ?_
            refine r_iload C dX5_ages_79 rfl ?_
            refine r_iadd C dX5_ages_81 ?_
            refine r_iald C dX5_ages_82 ha (up_s _ _ _) (by omega) (by omega) ?_
            first | (rw [up_n (by omega), srm_a2 _ _ _ (by omega)]) | (rw [up_n (by omega), srm_at _ _ _ (by omega)]) | (rw [up_n (by omega), srm_lo (by omega)]) | rw [up_s]
            refine r_iast C dX5_ages_83 ha (up_s _ _ _) (by omega) (by omega) ?_
            rw [up_up]
            first | rw [ag_mv _ _ hr.1 (by omega)] | rw [ag_m1 _ _ hr.1 (by omega)] | rw [up_up]
            refine r_aload_n C dX5_ages_84 rfl rfl ?_
            refine r_iload_n C dX5_ages_85 rfl rfl ?_
            refine r_bipush C dX5_ages_86 (by decide) ?_
            refine r_iadd C dX5_ages_88 ?_
            refine r_iload_n C dX5_ages_89 rfl rfl ?_
            refine r_iadd C dX5_ages_90 ?_
            refine r_iload C dX5_ages_91 rfl ?_
            refine r_iast C dX5_ages_93 ha (up_s _ _ _) (by omega) (by omega) ?_
            rw [up_up]
            first | rw [ag_mv _ _ hr.1 (by omega)] | rw [ag_m1 _ _ hr.1 (by omega)] | rw [up_up]
            refine r_iinc C dX5_ages_94 rfl rfl ?_
            dsimp only [List.set]
            refine r_goto (tgt := 107) C dX5_ages_97 (by decide) ?_
            refine r_iinc C dX5_ages_107 rfl rfl ?_
            dsimp only [List.set]
            refine r_goto (tgt := 13) C dX5_ages_110 (by decide) ?_
            first
            | (exfalso; omega)
            | (refine V_sub (L' := [some (.ref (ad a)), some (.int (gI r)), some (.int (gI (9 + 15 * r))), some (.int (gI (q + 1))), some (.int (gI (p + 1))), none]) rfl (fun i v hv => by match i, hv with | 0, hv => exact hv | 1, hv => exact hv | 2, hv => exact hv | 3, hv => exact hv | 4, hv => exact hv | 5, hv => simp at hv | i + 6, hv => simp at hv) ?_; rw [show s 3 + (p - q) = s 3 + (p + 1 - (q + 1)) by omega]; exact ih _ (q + 1) _ (by omega) (by omega) (by rw [up_n (by omega), up_n (by omega)]; exact hb2) (by rw [up_n (by omega), up_n (by omega)]; exact h6) (by rw [up_n (by omega), up_n (by omega)]; exact hb1) (fun i h1 h2 => if hi : i = q then (by rw [hi, up_s]; omega) else (by rw [up_n (by omega), up_n (by omega)]; exact hd2 i h1 h2)) ((show _ = ageL (s 0) (n + 1) p q ρ by simp only [ageL]; first | (rw [if_neg (show ¬ ρ 1 = 0 by omega), if_pos (by omega)]) | (rw [if_pos (show ρ 1 = 0 by omega), if_pos (by omega)])).trans e))
            | (refine V_sub (L' := [some (.ref (ad a)), some (.int (gI r)), some (.int (gI (9 + 15 * r))), some (.int (gI q)), some (.int (gI (p + 1))), none]) rfl (fun i v hv => by match i, hv with | 0, hv => exact hv | 1, hv => exact hv | 2, hv => exact hv | 3, hv => exact hv | 4, hv => exact hv | 5, hv => simp at hv | i + 6, hv => simp at hv) ?_; rw [show s 3 + (p - q) + 1 = s 3 + (p + 1 - q) by omega]; exact ih _ q _ (by omega) (by omega) hb2 h6 hb1 hd2 ((show _ = ageL (s 0) (n + 1) p q ρ by simp only [ageL]; first | (rw [if_neg (show ¬ ρ 1 = 0 by omega), if_neg (by omega)]) | (rw [if_pos (show ρ 1 = 0 by omega), if_neg (by omega)])).trans e))
          · refine r_iload C dX5_ages_59 rfl ?_
            refine r_aload_n C dX5_ages_61 rfl rfl ?_
            refine r_iconst C dX5_ages_62 ?_
            refine r_iald C dX5_ages_63 ha (up_s _ _ _) (by omega) (by omega) ?_
            first | (rw [up_n (by omega), srm_a2 _ _ _ (by omega)]) | (rw [up_n (by omega), srm_at _ _ _ (by omega)]) | (rw [up_n (by omega), srm_lo (by omega)]) | rw [up_s]
            refine r_icmp_ge (tgt := 100) C dX5_ages_64 (by decide) (by omega) (by omega) (fun h64 => ?_) (fun h64 => ?_)
            · refine r_aload_n C dX5_ages_100 rfl rfl ?_
              refine r_iconst C dX5_ages_101 ?_
              refine r_dup2 C dX5_ages_102 rfl rfl ?_
              refine r_iald C dX5_ages_103 ha (up_s _ _ _) (by omega) (by omega) ?_
              first | (rw [up_n (by omega), srm_a2 _ _ _ (by omega)]) | (rw [up_n (by omega), srm_at _ _ _ (by omega)]) | (rw [up_n (by omega), srm_lo (by omega)]) | rw [up_s]
              refine r_iconst C dX5_ages_104 ?_
              refine r_iadd C dX5_ages_105 ?_
              refine r_iast C dX5_ages_106 ha (up_s _ _ _) (by omega) (by omega) ?_
              rw [up_up]
              first | rw [ag_mv _ _ hr.1 (by omega)] | rw [ag_m1 _ _ hr.1 (by omega)] | rw [up_up]
              refine r_iinc C dX5_ages_107 rfl rfl ?_
              dsimp only [List.set]
              refine r_goto (tgt := 13) C dX5_ages_110 (by decide) ?_
              first
              | (exfalso; omega)
              | (refine V_sub (L' := [some (.ref (ad a)), some (.int (gI r)), some (.int (gI (9 + 15 * r))), some (.int (gI (q + 1))), some (.int (gI (p + 1))), none]) rfl (fun i v hv => by match i, hv with | 0, hv => exact hv | 1, hv => exact hv | 2, hv => exact hv | 3, hv => exact hv | 4, hv => exact hv | 5, hv => simp at hv | i + 6, hv => simp at hv) ?_; rw [show s 3 + (p - q) = s 3 + (p + 1 - (q + 1)) by omega]; exact ih _ (q + 1) _ (by omega) (by omega) (by rw [up_n (by omega), up_n (by omega)]; exact hb2) (by rw [up_n (by omega), up_n (by omega)]; exact h6) (by rw [up_n (by omega), up_n (by omega)]; exact hb1) (fun i h1 h2 => if hi : i = q then (by rw [hi, up_s]; omega) else (by rw [up_n (by omega), up_n (by omega)]; exact hd2 i h1 h2)) ((show _ = ageL (s 0) (n + 1) p q ρ by simp only [ageL]; first | (rw [if_neg (show ¬ ρ 1 = 0 by omega), if_pos (by omega)]) | (rw [if_pos (show ρ 1 = 0 by omega), if_pos (by omega)])).trans e))
              | (refine V_sub (L' := [some (.ref (ad a)), some (.int (gI r)), some (.int (gI (9 + 15 * r))), some (.int (gI q)), some (.int (gI (p + 1))), none]) rfl (fun i v hv => by match i, hv with | 0, hv => exact hv | 1, hv => exact hv | 2, hv => exact hv | 3, hv => exact hv | 4, hv => exact hv | 5, hv => simp at hv | i + 6, hv => simp at hv) ?_; rw [show s 3 + (p - q) + 1 = s 3 + (p + 1 - q) by omega]; exact ih _ q _ (by omega) (by omega) hb2 h6 hb1 hd2 ((show _ = ageL (s 0) (n + 1) p q ρ by simp only [ageL]; first | (rw [if_neg (show ¬ ρ 1 = 0 by omega), if_neg (by omega)]) | (rw [if_pos (show ρ 1 = 0 by omega), if_neg (by omega)])).trans e))
            · refine r_aload_n C dX5_ages_67 rfl rfl ?_
              refine r_iload_n C dX5_ages_68 rfl rfl ?_
              refine r_bipush C dX5_ages_69 (by decide) ?_
              refine r_iadd C dX5_ages_71 ?_
              refine r_iload_n C dX5_ages_72 rfl rfl ?_
              refine r_iadd C dX5_ages_73 ?_
              refine r_aload_n C dX5_ages_74 rfl rfl ?_
              refine r_iload_n C dX5_ages_75 rfl rfl ?_
              refine r_bipush C dX5_ages_76 (by decide) ?_
              refine r_iadd C dX5_ages_78 ?_
              refine r_iload C dX5_ages_79 rfl ?_
              refine r_iadd C dX5_ages_81 ?_
              refine r_iald C dX5_ages_82 ha (up_s _ _ _) (by omega) (by omega) ?_
              first | (rw [up_n (by omega), srm_a2 _ _ _ (by omega)]) | (rw [up_n (by omega), srm_at _ _ _ (by omega)]) | (rw [up_n (by omega), srm_lo (by omega)]) | rw [up_s]
              refine r_iast C dX5_ages_83 ha (up_s _ _ _) (by omega) (by omega) ?_
              rw [up_up]
              first | rw [ag_mv _ _ hr.1 (by omega)] | rw [ag_m1 _ _ hr.1 (by omega)] | rw [up_up]
              refine r_aload_n C dX5_ages_84 rfl rfl ?_
              refine r_iload_n C dX5_ages_85 rfl rfl ?_
              refine r_bipush C dX5_ages_86 (by decide) ?_
              refine r_iadd C dX5_ages_88 ?_
              refine r_iload_n C dX5_ages_89 rfl rfl ?_
              refine r_iadd C dX5_ages_90 ?_
              refine r_iload C dX5_ages_91 rfl ?_
              refine r_iast C dX5_ages_93 ha (up_s _ _ _) (by omega) (by omega) ?_
              rw [up_up]
              first | rw [ag_mv _ _ hr.1 (by omega)] | rw [ag_m1 _ _ hr.1 (by omega)] | rw [up_up]
              refine r_iinc C dX5_ages_94 rfl rfl ?_
              dsimp only [List.set]
              refine r_goto (tgt := 107) C dX5_ages_97 (by decide) ?_
              refine r_iinc C dX5_ages_107 rfl rfl ?_
              dsimp only [List.set]
              refine r_goto (tgt := 13) C dX5_ages_110 (by decide) ?_
              first
              | (exfalso; omega)
              | (refine V_sub (L' := [some (.ref (ad a)), some (.int (gI r)), some (.int (gI (9 + 15 * r))), some (.int (gI (q + 1))), some (.int (gI (p + 1))), none]) rfl (fun i v hv => by match i, hv with | 0, hv => exact hv | 1, hv => exact hv | 2, hv => exact hv | 3, hv => exact hv | 4, hv => exact hv | 5, hv => simp at hv | i + 6, hv => simp at hv) ?_; rw [show s 3 + (p - q) = s 3 + (p + 1 - (q + 1)) by omega]; exact ih _ (q + 1) _ (by omega) (by omega) (by rw [up_n (by omega), up_n (by omega)]; exact hb2) (by rw [up_n (by omega), up_n (by omega)]; exact h6) (by rw [up_n (by omega), up_n (by omega)]; exact hb1) (fun i h1 h2 => if hi : i = q then (by rw [hi, up_s]; omega) else (by rw [up_n (by omega), up_n (by omega)]; exact hd2 i h1 h2)) ((show _ = ageL (s 0) (n + 1) p q ρ by simp only [ageL]; first | (rw [if_neg (show ¬ ρ 1 = 0 by omega), if_pos (by omega)]) | (rw [if_pos (show ρ 1 = 0 by omega), if_pos (by omega)])).trans e))
              | (refine V_sub (L' := [some (.ref (ad a)), some (.int (gI r)), some (.int (gI (9 + 15 * r))), some (.int (gI q)), some (.int (gI (p + 1))), none]) rfl (fun i v hv => by match i, hv with | 0, hv => exact hv | 1, hv => exact hv | 2, hv => exact hv | 3, hv => exact hv | 4, hv => exact hv | 5, hv => simp at hv | i + 6, hv => simp at hv) ?_; rw [show s 3 + (p - q) + 1 = s 3 + (p + 1 - q) by omega]; exact ih _ q _ (by omega) (by omega) hb2 h6 hb1 hd2 ((show _ = ageL (s 0) (n + 1) p q ρ by simp only [ageL]; first | (rw [if_neg (show ¬ ρ 1 = 0 by omega), if_neg (by omega)]) | (rw [if_pos (show ρ 1 = 0 by omega), if_neg (by omega)])).trans e))
  have h0 := lp (rm s r 6).toNat 0 0 (rm s r) (by omega) (by omega) hb rfl rfl hd0 rfl
  rw [srm_rm, up_id (show s 3 = s 3 + (0 - 0) by omega)] at h0
  exact h0

/-- a room's things grow older, in a beat of the reference -/
theorem agS (t : Int → Int) {p : Int} (hp : 0 ≤ p) (z : Int) : ageA (up (mapR (fun _ ρ => ageR ρ (t 0)) t p) 3 z) p = up (mapR (fun _ ρ => ageR ρ (t 0)) t (p + 1)) 3 (z + (rm t p 6 - ageQ (rm t p) (t 0))) := by
  have h := srm_mapR (g := fun _ ρ => ageR ρ (t 0)) (s := t) hp
  unfold ageA
  rw [rm_up_lo (by omega), rm_mapR_ge (Int.le_refl p), up_s, up_n (show (0 : Int) ≠ 3 by omega), mapR_lo (by omega), ← srm_lw _ _ _ (by omega), up_up]
  rw [← h]

set_option maxRecDepth 100000 in
set_option maxHeartbeats 4000000 in
theorem c_X5_beats {l : Launch} {D : va_G} {ty : Nat → ClassId} {ad : Int → Nat} {N : Int} {σ : Int → va_E} {a : Int} {s : Int → Int} {c : Int} (ha : 0 ≤ a ∧ a < N) (hs : okS s) (hc : 0 ≤ c ∧ c ≤ 100) : gM0 l yX5_beats cX5_beats 4 none 4 92 [.ref (ad a), .int (gI c)] D ty ad N (up σ a (gAr (ty 0) 99 (s))) (none) (up σ a (gAr (ty 0) 99 ((bts c.toNat s 0).1))) := by
  refine gMet_of [some (.ref (ad a)), some (.int (gI c)), none, none] (by decide +kernel) rfl (Nat.le_of_ble_eq_true rfl) rfl ?_
  intro X hl hD hty C hini
  subst hl hD hty
  refine r_iconst C dX5_beats_0 ?_
  refine r_istore_n C dX5_beats_1 rfl (Nat.le_of_ble_eq_true rfl) rfl ?_
  dsimp only [List.set]
  have lp : ∀ (n : Nat) (i g : Int) (t : Int → Int), (0 ≤ i) → (i + n = c) → (okS t) → (bts n t g = bts c.toNat s 0) → V X 0 0 (gQ X (gD (none) ad N (up σ a (gAr (gty X 0) 99 ((bts c.toNat s 0).1)))) 0 0) 2 [some (.ref (ad a)), some (.int (gI c)), some (.int (gI i)), none] [] ad N (up σ a (gAr (gty X 0) 99 (t))) := by
    intro n
    induction n with
    | zero =>
      intro i g t hi hin ht e
      refine r_iload_n C dX5_beats_2 rfl rfl ?_
      refine r_iload_n C dX5_beats_3 rfl rfl ?_
      refine r_icmp_ge (tgt := 70) C dX5_beats_4 (by decide) (by omega) (by omega) (fun h4 => ?_) (fun h4 => ?_)
      · exact r_vretD C dX5_beats_70 (by rw [← e]; rfl)
      · exact absurd h4 (by omega)
    | succ n ih =>
      intro i g t hi hin ht e
      have ht2 : okS (up t 2 (t 2 + 1)) := okS_lo ht (by omega)
      refine r_iload_n C dX5_beats_2 rfl rfl ?_
      refine r_iload_n C dX5_beats_3 rfl rfl ?_
      refine r_icmp_ge (tgt := 70) C dX5_beats_4 (by decide) (by omega) (by omega) (fun h4 => ?_) (fun h4 => ?_)
      · exact absurd h4 (by omega)
      · refine r_aload_n C dX5_beats_7 rfl rfl ?_
        refine r_iconst C dX5_beats_8 ?_
        refine r_dup2 C dX5_beats_9 rfl rfl ?_
        refine r_iald C dX5_beats_10 ha (up_s _ _ _) (by omega) (by omega) ?_
        refine r_iconst C dX5_beats_11 ?_
        refine r_iadd C dX5_beats_12 ?_
        refine r_iast C dX5_beats_13 ha (up_s _ _ _) (by omega) (by omega) ?_
        rw [up_up]
        refine r_iconst C dX5_beats_14 ?_
        refine r_istore_n C dX5_beats_15 rfl (Nat.le_of_ble_eq_true rfl) rfl ?_
        dsimp only [List.set]
        have lq : ∀ (j : Nat) (p : Int), (0 ≤ p) → (p + j = 6) → V X 0 0 (gQ X (gD (none) ad N (up σ a (gAr (gty X 0) 99 ((bts c.toNat s 0).1)))) 0 0) 16 [some (.ref (ad a)), some (.int (gI c)), some (.int (gI i)), some (.int (gI p))] [] ad N (up σ a (gAr (gty X 0) 99 (mapR (fun _ ρ => burnR ρ) (up t 2 (t 2 + 1)) p))) := by
          intro j
          induction j with
          | zero =>
            intro p hp hpn
            have hpp : p = 6 := by omega
            subst hpp
            refine r_iload_n C dX5_beats_16 rfl rfl ?_
            refine r_bipush C dX5_beats_17 (by decide) ?_
            refine r_icmp_ge (tgt := 33) C dX5_beats_19 (by decide) (by omega) (by omega) (fun h19 => ?_) (fun h19 => ?_)
            · have hb3 : okS (burnAll (up t 2 (t 2 + 1))) := okS_burnAll ht2
              have hu : okS (mid (up t 2 (t 2 + 1))) := okS_mid ht2
              have hdr := hb3.dra
              have hset := hu.set
              show V X 0 0 _ _ _ _ ad N (up σ a (gAr (gty X 0) 99 (burnAll (up t 2 (t 2 + 1)))))
              have lr : V X 0 0 (gQ X (gD none ad N (up σ a (gAr (gty X 0) 99 ((bts c.toNat s 0).1)))) 0 0) 45 [some (.ref (ad a)), some (.int (gI c)), some (.int (gI i)), some (.int (gI 6))] [] ad N (up σ a (gAr (gty X 0) 99 ((mid (up t 2 (t 2 + 1)))))) := by
                refine r_iconst C dX5_beats_45 ?_
                refine r_istore_n C dX5_beats_46 rfl (Nat.le_of_ble_eq_true rfl) rfl ?_
                dsimp only [List.set]
                have ls : ∀ (j : Nat) (p z : Int), (0 ≤ p) → (p + j = 6) → (z + sumF (fun r => rm (mid (up t 2 (t 2 + 1))) r 6 - ageQ (rm (mid (up t 2 (t 2 + 1))) r) ((mid (up t 2 (t 2 + 1))) 0)) j p = t 3 + goneS (mid (up t 2 (t 2 + 1)))) → V X 0 0 (gQ X (gD (none) ad N (up σ a (gAr (gty X 0) 99 ((bts c.toNat s 0).1)))) 0 0) 47 [some (.ref (ad a)), some (.int (gI c)), some (.int (gI i)), some (.int (gI p))] [] ad N (up σ a (gAr (gty X 0) 99 (up (mapR (fun _ ρ => ageR ρ ((mid (up t 2 (t 2 + 1))) 0)) (mid (up t 2 (t 2 + 1))) p) 3 z))) := by
                  intro j
                  induction j with
                  | zero =>
                    intro p z hp hpn ez
                    have hpp : p = 6 := by omega
                    subst hpp
                    have hz : z = t 3 + goneS (mid (up t 2 (t 2 + 1))) := by rw [← ez]; simp only [sumF]; omega
                    subst hz
                    refine r_iload_n C dX5_beats_47 rfl rfl ?_
                    refine r_bipush C dX5_beats_48 (by decide) ?_
                    refine r_icmp_ge (tgt := 64) C dX5_beats_50 (by decide) (by omega) (by omega) (fun h50 => ?_) (fun h50 => ?_)
                    · rw [show up (mapR (fun _ ρ => ageR ρ ((mid (up t 2 (t 2 + 1))) 0)) (mid (up t 2 (t 2 + 1))) 6) 3 (t 3 + goneS (mid (up t 2 (t 2 + 1)))) = beat t from beat_raw t]
                      refine r_iinc C dX5_beats_64 rfl rfl ?_
                      dsimp only [List.set]
                      refine r_goto (tgt := 2) C dX5_beats_67 (by decide) ?_
                      refine V_drop 3 ?_
                      dsimp only [List.set]
                      exact ih _ _ _ (by omega) (by omega) (okS_beat ht) e
                    · exact absurd h50 (by omega)
                  | succ j jh =>
                    intro p z hp hpn ez
                    have hrm : rm (up (mapR (fun _ ρ => ageR ρ ((mid (up t 2 (t 2 + 1))) 0)) (mid (up t 2 (t 2 + 1))) p) 3 z) p = rm (mid (up t 2 (t 2 + 1))) p := by rw [rm_up_lo (by omega), rm_mapR_ge (Int.le_refl p)]
                    have hq := hu.rm (r := p) (by omega)
                    rw [← hrm] at hq
                    have hqm := hq.many
                    have hqb := hq.bur
                    have hqd := hq.darkI
                    have hst : up (mapR (fun _ ρ => ageR ρ ((mid (up t 2 (t 2 + 1))) 0)) (mid (up t 2 (t 2 + 1))) p) 3 z 0 = (mid (up t 2 (t 2 + 1))) 0 := by rw [up_n (by omega), mapR_lo (by omega)]
                    refine r_iload_n C dX5_beats_47 rfl rfl ?_
                    refine r_bipush C dX5_beats_48 (by decide) ?_
                    refine r_icmp_ge (tgt := 64) C dX5_beats_50 (by decide) (by omega) (by omega) (fun h50 => ?_) (fun h50 => ?_)
                    · exact absurd h50 (by omega)
                    · refine r_aload_n C dX5_beats_53 rfl rfl ?_
                      refine r_iload_n C dX5_beats_54 rfl rfl ?_
                      refine r_cSv C cwX5_97 (c_X5_ages ha (by omega) hqm hqb (by omega) hqd) dX5_beats_55 rfl rfl rfl (Nat.le_of_ble_eq_true rfl) ⟨Nat.le_of_ble_eq_true rfl, Nat.le_of_ble_eq_true rfl⟩ ⟨Nat.le_of_ble_eq_true rfl, Nat.le_of_ble_eq_true rfl⟩ ?_
                      rw [agS (mid (up t 2 (t 2 + 1))) hp z]
                      refine r_iinc C dX5_beats_58 rfl rfl ?_
                      dsimp only [List.set]
                      refine r_goto (tgt := 47) C dX5_beats_61 (by decide) ?_
                      exact jh _ _ (by omega) (by omega) (by rw [← ez]; simp only [sumF]; omega)
                have h0 := ls 6 0 (t 3) (by omega) (by omega) (by unfold goneS; omega)
                rw [mapR_0, up_id (show (mid (up t 2 (t 2 + 1))) 3 = t 3 by rw [mid_lo (by omega), up_n (by omega)])] at h0
                exact h0
              refine r_aload_n C dX5_beats_33 rfl rfl ?_
              refine r_bipush C dX5_beats_34 (by decide) ?_
              refine r_iald C dX5_beats_36 ha (up_s _ _ _) (by omega) (by omega) ?_
              refine r_iconst C dX5_beats_37 ?_
              refine r_icmp_eq (tgt := 45) C dX5_beats_38 (by decide) (by omega) (by omega) (fun h38 => ?_) (fun h38 => ?_)
              · first | exact lr | (rw [← blow_none (s := burnAll (up t 2 (t 2 + 1))) (by omega) (by omega)]; exact lr)
              · refine r_aload_n C dX5_beats_41 rfl rfl ?_
                refine r_cSv C cwX5_93 (c_X5_draws ha hb3 (by omega)) dX5_beats_42 rfl rfl rfl (Nat.le_of_ble_eq_true rfl) ⟨Nat.le_of_ble_eq_true rfl, Nat.le_of_ble_eq_true rfl⟩ ⟨Nat.le_of_ble_eq_true rfl, Nat.le_of_ble_eq_true rfl⟩ ?_
                first | exact lr | (rw [← blow_none (s := burnAll (up t 2 (t 2 + 1))) (by omega) (by omega)]; exact lr)
            · exact absurd h19 (by omega)
          | succ j jh =>
            intro p hp hpn
            have hq : okR (rm (mapR (fun _ ρ => burnR ρ) (up t 2 (t 2 + 1)) p) p) := by rw [rm_mapR_ge (Int.le_refl p)]; exact ht2.rm ⟨by omega, by omega⟩
            have hql := hq.len
            have hqb := hq.bur
            have hqw := hq.wick
            refine r_iload_n C dX5_beats_16 rfl rfl ?_
            refine r_bipush C dX5_beats_17 (by decide) ?_
            refine r_icmp_ge (tgt := 33) C dX5_beats_19 (by decide) (by omega) (by omega) (fun h19 => ?_) (fun h19 => ?_)
            · exact absurd h19 (by omega)
            · refine r_aload_n C dX5_beats_22 rfl rfl ?_
              refine r_iload_n C dX5_beats_23 rfl rfl ?_
              refine r_cSv C cwX5_90 (c_X5_burns ha (by omega) hql hqb hqw) dX5_beats_24 rfl rfl rfl (Nat.le_of_ble_eq_true rfl) ⟨Nat.le_of_ble_eq_true rfl, Nat.le_of_ble_eq_true rfl⟩ ⟨Nat.le_of_ble_eq_true rfl, Nat.le_of_ble_eq_true rfl⟩ ?_
              rw [rm_mapR_ge (Int.le_refl p), show srm (mapR (fun _ ρ => burnR ρ) (up t 2 (t 2 + 1)) p) p (burnR (rm (up t 2 (t 2 + 1)) p)) = mapR (fun _ ρ => burnR ρ) (up t 2 (t 2 + 1)) (p + 1) from srm_mapR hp]
              refine r_iinc C dX5_beats_27 rfl rfl ?_
              dsimp only [List.set]
              refine r_goto (tgt := 16) C dX5_beats_30 (by decide) ?_
              exact jh _ (by omega) (by omega)
        have h0 := lq 6 0 (by omega) (by omega)
        rw [mapR_0] at h0
        exact h0
  exact lp c.toNat 0 0 s (by omega) (by omega) hs rfl

