/-! the reference: where a thing is; copying -/

/-- 4 room + place of a key -/
def fnd (s : Int → Int) (key : Int) : Int := if rof s key = -1 then -1 else 4 * rof s key + plc (rm s (rof s key)) key
def fdN (s : Int → Int) (key : Int) : Nat → Int → Int
  | 0, _ => -1
  | n + 1, p => if p % 4 < rm s (p / 4) 6 ∧ rm s (p / 4) (7 + p % 4) = key then p else fdN s key n (p + 1)
theorem fdN_s (s : Int → Int) (key : Int) (n : Nat) (r i : Int) (h : 0 ≤ i ∧ i < 4) : fdN s key (n + 1) (4 * r + i) = if i < rm s r 6 ∧ rm s r (7 + i) = key then 4 * r + i else fdN s key n (4 * r + (i + 1)) := by
  rw [fdN, show (4 * r + i) % 4 = i by omega, show (4 * r + i) / 4 = r by omega, ← Int.add_assoc]
theorem fd_room (s : Int → Int) (key : Int) (n : Nat) (r : Int) (hm : 0 ≤ rm s r 6 ∧ rm s r 6 ≤ 4) : ∀ (k : Nat) (i : Int), 0 ≤ i → i + k = 4 → fdN s key (n + k) (4 * r + i) = if plcR (rm s r) key (rm s r 6 - i).toNat i = -1 then fdN s key n (4 * (r + 1)) else 4 * r + plcR (rm s r) key (rm s r 6 - i).toNat i
  | 0, i, hi, hk => by
    rw [show (rm s r 6 - i).toNat = 0 by omega, show 4 * r + i = 4 * (r + 1) by omega]
    rfl
  | k + 1, i, hi, hk => by
    have ih := fd_room s key n r hm k (i + 1) (by omega) (by omega)
    rw [← Nat.add_assoc, fdN_s s key (n + k) r i (by omega), ih]
    by_cases h : i < rm s r 6
    · rw [show (rm s r 6 - i).toNat = (rm s r 6 - (i + 1)).toNat + 1 by omega]
      by_cases h2 : rm s r (7 + i) = key
      · rw [if_pos ⟨h, h2⟩, show plcR (rm s r) key ((rm s r 6 - (i + 1)).toNat + 1) i = i from if_pos h2, if_neg (by omega)]
      · rw [if_neg (fun q => h2 q.2), show plcR (rm s r) key ((rm s r 6 - (i + 1)).toNat + 1) i = plcR (rm s r) key (rm s r 6 - (i + 1)).toNat (i + 1) from if_neg h2]
    · rw [if_neg (fun q => h q.1), show (rm s r 6 - i).toNat = 0 by omega, show (rm s r 6 - (i + 1)).toNat = 0 by omega]
      rfl
theorem fd_all (s : Int → Int) (hs : okS s) (key : Int) : ∀ (k : Nat) (r : Int), 0 ≤ r → r + k = 6 → fdN s key (4 * k) (4 * r) = if rofN s key k r = -1 then -1 else 4 * rofN s key k r + plc (rm s (rofN s key k r)) key
  | 0, r, _, _ => rfl
  | k + 1, r, hr, hk => by
    have h := fd_room s key (4 * k) r (hs.rm (r := r) (by omega)).many 4 0 (by omega) (by omega)
    have ih := fd_all s hs key k (r + 1) (by omega) (by omega)
    rw [show 4 * r + 0 = 4 * r by omega, show rm s r 6 - 0 = rm s r 6 by omega] at h
    rw [show 4 * (k + 1) = 4 * k + 4 by omega, h, ih]
    by_cases hp : plc (rm s r) key = -1
    · rw [show rofN s key (k + 1) r = rofN s key k (r + 1) from if_pos hp, if_pos (show plcR (rm s r) key (rm s r 6).toNat 0 = -1 from hp)]
    · rw [show rofN s key (k + 1) r = r from if_neg hp, if_neg (show ¬ plcR (rm s r) key (rm s r 6).toNat 0 = -1 from hp), if_neg (by omega)]
      rfl
theorem fd_eq {s : Int → Int} (hs : okS s) (key : Int) : fdN s key 24 0 = fnd s key := fd_all s hs key 6 0 (by omega) (by omega)
theorem fnd_rng {s : Int → Int} (hs : okS s) (key : Int) : (fnd s key = -1 ∧ rof s key = -1) ∨ ((0 ≤ rof s key ∧ rof s key < 6) ∧ (0 ≤ plc (rm s (rof s key)) key ∧ plc (rm s (rof s key)) key < 4) ∧ fnd s key = 4 * rof s key + plc (rm s (rof s key)) key) := by
  unfold fnd
  rcases rof_rng s key with h | ⟨h1, h2, h3⟩
  · left; rw [if_pos h]; exact ⟨rfl, h⟩
  · right
    rw [if_neg (by omega)]
    have := (hs.rm (r := rof s key) ⟨h1, h2⟩).many
    rcases plc_rng (key := key) hs ⟨h1, h2⟩ with h | h
    · exact absurd h h3
    · exact ⟨⟨h1, h2⟩, by omega, rfl⟩
theorem keep_raw (s : Int → Int) (r key : Int) (hr : 0 ≤ r) (hm : 0 ≤ rm s r 6 ∧ rm s r 6 < 4) : up (up (up s (9 + 15 * r + 7 + rm s r 6) key) (9 + 15 * r + 11 + rm s r 6) 0) (9 + 15 * r + 6) (rm s r 6 + 1) = keepS s r key := by
  unfold keepS addR
  have h := srm_rm s r
  rw [← srm_mv _ _ _ (by omega), ← srm_m2 _ _ _ (by omega), ← srm_m2 _ _ _ (by omega), h]

set_option maxRecDepth 100000 in
set_option maxHeartbeats 4000000 in
theorem c_X5_find {l : Launch} {D : va_G} {ty : Nat → ClassId} {ad : Int → Nat} {N : Int} {σ : Int → va_E} {a : Int} {s : Int → Int} {key : Int} (ha : 0 ≤ a ∧ a < N) (hg : σ a = gAr (ty 0) 99 s) (hs : okS s) (hkey : -2147483648 ≤ key ∧ key < 2147483648) : gM0 l yX5_find cX5_find 3 (some .int) 1 22 [.ref (ad a), .int (gI key)] D ty ad N (σ) (some (.int (gI (fnd s key)))) (σ) := by
  refine gMet_of [some (.ref (ad a)), some (.int (gI key)), none] (by decide +kernel) rfl (Nat.le_of_ble_eq_true rfl) rfl ?_
  intro X hl hD hty C hini
  subst hl hD hty
  refine r_iconst C dX5_find_0 ?_
  refine r_istore_n C dX5_find_1 rfl (Nat.le_of_ble_eq_true rfl) rfl ?_
  dsimp only [List.set]
  have lp : ∀ (n : Nat) (p : Int), (0 ≤ p) → (p + n = 24) → (fdN s key n p = fnd s key) → V X 0 0 (gQ X (gD (some (.int (gI (fnd s key)))) ad N (σ)) 0 0) 2 [some (.ref (ad a)), some (.int (gI key)), some (.int (gI p))] [] ad N (σ) := by
    intro n
    induction n with
    | zero =>
      intro p hp hpn e
      refine r_iload_n C dX5_find_2 rfl rfl ?_
      refine r_bipush C dX5_find_3 (by decide) ?_
      refine r_icmp_ge (tgt := 48) C dX5_find_5 (by decide) (by omega) (by omega) (fun h5 => ?_) (fun h5 => ?_)
      · refine r_iconst C dX5_find_48 ?_
        exact r_iretD C dX5_find_49 (by rw [← e]; rfl) rfl
      · exact absurd h5 (by omega)
    | succ n ih =>
      intro p hp hpn e
      have hq := hs.rm (r := p / 4) (by omega)
      have hqm := hq.many
      have hqk := hq.keyI (p % 4) (by omega) (by omega)
      refine r_iload_n C dX5_find_2 rfl rfl ?_
      refine r_bipush C dX5_find_3 (by decide) ?_
      refine r_icmp_ge (tgt := 48) C dX5_find_5 (by decide) (by omega) (by omega) (fun h5 => ?_) (fun h5 => ?_)
      · exact absurd h5 (by omega)
      · refine r_iload_n C dX5_find_8 rfl rfl ?_
        refine r_iconst C dX5_find_9 ?_
        refine r_irem C dX5_find_10 (by omega) (by omega) ?_
        refine r_aload_n C dX5_find_11 rfl rfl ?_
        refine r_iload_n C dX5_find_12 rfl rfl ?_
        refine r_iconst C dX5_find_13 ?_
        refine r_idiv C dX5_find_14 (by omega) (by omega) ?_
        refine r_bipush C dX5_find_15 (by decide) ?_
        refine r_cS C cwX5_33 (c_X5_of (s := s) ha hg (by omega) (by omega)) dX5_find_17 rfl rfl rfl (Nat.le_of_ble_eq_true rfl) ⟨Nat.le_of_ble_eq_true rfl, Nat.le_of_ble_eq_true rfl⟩ ⟨Nat.le_of_ble_eq_true rfl, Nat.le_of_ble_eq_true rfl⟩ ?_
        refine r_icmp_ge (tgt := 42) C dX5_find_20 (by decide) (by omega) (by omega) (fun h20 => ?_) (fun h20 => ?_)
        · refine r_iinc C dX5_find_42 rfl rfl ?_
          dsimp only [List.set]
          refine r_goto (tgt := 2) C dX5_find_45 (by decide) ?_
          exact ih _ (by omega) (by omega) (by rw [← e]; simp only [fdN]; first | rw [if_neg (fun q => h37 q.2)] | rw [if_neg (fun q => absurd q.1 (by omega))])
        · refine r_aload_n C dX5_find_23 rfl rfl ?_
          refine r_iload_n C dX5_find_24 rfl rfl ?_
          refine r_iconst C dX5_find_25 ?_
          refine r_idiv C dX5_find_26 (by omega) (by omega) ?_
          refine r_bipush C dX5_find_27 (by decide) ?_
          refine r_iload_n C dX5_find_29 rfl rfl ?_
          refine r_iconst C dX5_find_30 ?_
          refine r_irem C dX5_find_31 (by omega) (by omega) ?_
          refine r_iadd C dX5_find_32 ?_
          refine r_cS C cwX5_33 (c_X5_of (s := s) ha hg (by omega) (by omega)) dX5_find_33 rfl rfl rfl (Nat.le_of_ble_eq_true rfl) ⟨Nat.le_of_ble_eq_true rfl, Nat.le_of_ble_eq_true rfl⟩ ⟨Nat.le_of_ble_eq_true rfl, Nat.le_of_ble_eq_true rfl⟩ ?_
          refine r_iload_n C dX5_find_36 rfl rfl ?_
          refine r_icmp_ne (tgt := 42) C dX5_find_37 (by decide) hqk hkey (fun h37 => ?_) (fun h37 => ?_)
          · refine r_iinc C dX5_find_42 rfl rfl ?_
            dsimp only [List.set]
            refine r_goto (tgt := 2) C dX5_find_45 (by decide) ?_
            exact ih _ (by omega) (by omega) (by rw [← e]; simp only [fdN]; first | rw [if_neg (fun q => h37 q.2)] | rw [if_neg (fun q => absurd q.1 (by omega))])
          · refine r_iload_n C dX5_find_40 rfl rfl ?_
            exact r_iretD C dX5_find_41 (by rw [← e]; simp only [fdN]; rw [if_pos ⟨h20, h37⟩]) rfl
  exact lp 24 0 (by omega) (by omega) (fd_eq hs key)

set_option maxRecDepth 100000 in
set_option maxHeartbeats 4000000 in
theorem c_X5_mayKeep {l : Launch} {D : va_G} {ty : Nat → ClassId} {ad : Int → Nat} {N : Int} {σ : Int → va_E} {a : Int} {s : Int → Int} {r key : Int} (ha : 0 ≤ a ∧ a < N) (hg : σ a = gAr (ty 0) 99 s) (hs : okS s) (hr : 0 ≤ r ∧ r < 6) (hkey : -2147483648 ≤ key ∧ key < 2147483648) : gM0 l yX5_mayKeep cX5_mayKeep 3 (some .boolean) 2 44 [.ref (ad a), .int (gI r), .int (gI key)] D ty ad N (σ) (some (.int (gI (gB (mayK s r key))))) (σ) := by
  refine gMet_of [some (.ref (ad a)), some (.int (gI r)), some (.int (gI key))] (by decide +kernel) rfl (Nat.le_of_ble_eq_true rfl) rfl ?_
  intro X hl hD hty C hini
  subst hl hD hty
  have hqm := (hs.rm hr).many
  have hfn := fnd_rng hs key
  refine r_aload_n C dX5_mayKeep_0 rfl rfl ?_
  refine r_iload_n C dX5_mayKeep_1 rfl rfl ?_
  refine r_cS C cwX5_100 (c_X5_find (s := s) ha hg hs (by omega)) dX5_mayKeep_2 rfl rfl rfl (Nat.le_of_ble_eq_true rfl) ⟨Nat.le_of_ble_eq_true rfl, Nat.le_of_ble_eq_true rfl⟩ ⟨Nat.le_of_ble_eq_true rfl, Nat.le_of_ble_eq_true rfl⟩ ?_
  refine r_iconst C dX5_mayKeep_5 ?_
  refine r_icmp_ne (tgt := 24) C dX5_mayKeep_6 (by decide) (by omega) (by omega) (fun h6 => ?_) (fun h6 => ?_)
  · refine r_iconst C dX5_mayKeep_24 ?_
    exact r_zretD C dX5_mayKeep_25 (by omega) (by first | exact (gB_t (by unfold mayK; omega)).symm | exact (gB_f (by unfold mayK; omega)).symm) rfl
  · refine r_aload_n C dX5_mayKeep_9 rfl rfl ?_
    refine r_iload_n C dX5_mayKeep_10 rfl rfl ?_
    refine r_bipush C dX5_mayKeep_11 (by decide) ?_
    refine r_cS C cwX5_33 (c_X5_of (s := s) ha hg (by omega) (by omega)) dX5_mayKeep_13 rfl rfl rfl (Nat.le_of_ble_eq_true rfl) ⟨Nat.le_of_ble_eq_true rfl, Nat.le_of_ble_eq_true rfl⟩ ⟨Nat.le_of_ble_eq_true rfl, Nat.le_of_ble_eq_true rfl⟩ ?_
    refine r_iconst C dX5_mayKeep_16 ?_
    refine r_icmp_ge (tgt := 24) C dX5_mayKeep_17 (by decide) (by omega) (by omega) (fun h17 => ?_) (fun h17 => ?_)
    · refine r_iconst C dX5_mayKeep_24 ?_
      exact r_zretD C dX5_mayKeep_25 (by omega) (by first | exact (gB_t (by unfold mayK; omega)).symm | exact (gB_f (by unfold mayK; omega)).symm) rfl
    · refine r_iconst C dX5_mayKeep_20 ?_
      refine r_goto (tgt := 25) C dX5_mayKeep_21 (by decide) ?_
      exact r_zretD C dX5_mayKeep_25 (by omega) (by first | exact (gB_t (by unfold mayK; omega)).symm | exact (gB_f (by unfold mayK; omega)).symm) rfl

set_option maxRecDepth 100000 in
set_option maxHeartbeats 4000000 in
theorem c_X5_keeps {l : Launch} {D : va_G} {ty : Nat → ClassId} {ad : Int → Nat} {N : Int} {σ : Int → va_E} {a : Int} {s : Int → Int} {r key : Int} (ha : 0 ≤ a ∧ a < N) (hr : 0 ≤ r ∧ r < 6) (hm : 0 ≤ rm s r 6 ∧ rm s r 6 < 4) : gM0 l yX5_keeps cX5_keeps 4 (some .int) 0 0 [.ref (ad a), .int (gI r), .int (gI key)] D ty ad N (up σ a (gAr (ty 0) 99 (s))) (some (.int (gI (rm s r 6 + 1)))) (up σ a (gAr (ty 0) 99 (keepS s r key))) := by
  refine gMet_of [some (.ref (ad a)), some (.int (gI r)), some (.int (gI key)), none] (by decide +kernel) rfl (Nat.le_of_ble_eq_true rfl) rfl ?_
  intro X hl hD hty C hini
  subst hl hD hty
  have h6 : s (9 + 15 * r + 6) = rm s r 6 := (rm_at s r (by omega)).symm
  refine r_bipush C dX5_keeps_0 (by decide) ?_
  refine r_bipush C dX5_keeps_2 (by decide) ?_
  refine r_iload_n C dX5_keeps_4 rfl rfl ?_
  refine r_imul C dX5_keeps_5 ?_
  refine r_iadd C dX5_keeps_6 ?_
  refine r_istore_n C dX5_keeps_7 rfl (Nat.le_of_ble_eq_true rfl) rfl ?_
  dsimp only [List.set]
  refine r_aload_n C dX5_keeps_8 rfl rfl ?_
  refine r_iload_n C dX5_keeps_9 rfl rfl ?_
  refine r_bipush C dX5_keeps_10 (by decide) ?_
  refine r_iadd C dX5_keeps_12 ?_
  refine r_aload_n C dX5_keeps_13 rfl rfl ?_
  refine r_iload_n C dX5_keeps_14 rfl rfl ?_
  refine r_bipush C dX5_keeps_15 (by decide) ?_
  refine r_iadd C dX5_keeps_17 ?_
  refine r_iald C dX5_keeps_18 ha (up_s _ _ _) (by omega) (by omega) ?_
  rw [h6]
  refine r_iadd C dX5_keeps_19 ?_
  refine r_iload_n C dX5_keeps_20 rfl rfl ?_
  refine r_iast C dX5_keeps_21 ha (up_s _ _ _) (by omega) (by omega) ?_
  rw [up_up]
  refine r_aload_n C dX5_keeps_22 rfl rfl ?_
  refine r_iload_n C dX5_keeps_23 rfl rfl ?_
  refine r_bipush C dX5_keeps_24 (by decide) ?_
  refine r_iadd C dX5_keeps_26 ?_
  refine r_aload_n C dX5_keeps_27 rfl rfl ?_
  refine r_iload_n C dX5_keeps_28 rfl rfl ?_
  refine r_bipush C dX5_keeps_29 (by decide) ?_
  refine r_iadd C dX5_keeps_31 ?_
  refine r_iald C dX5_keeps_32 ha (up_s _ _ _) (by omega) (by omega) ?_
  rw [up_n (by omega), h6]
  refine r_iadd C dX5_keeps_33 ?_
  refine r_iconst C dX5_keeps_34 ?_
  refine r_iast C dX5_keeps_35 ha (up_s _ _ _) (by omega) (by omega) ?_
  rw [up_up]
  refine r_aload_n C dX5_keeps_36 rfl rfl ?_
  refine r_iload_n C dX5_keeps_37 rfl rfl ?_
  refine r_bipush C dX5_keeps_38 (by decide) ?_
  refine r_iadd C dX5_keeps_40 ?_
  refine r_dup2 C dX5_keeps_41 rfl rfl ?_
  refine r_iald C dX5_keeps_42 ha (up_s _ _ _) (by omega) (by omega) ?_
  rw [up_n (by omega), up_n (by omega), h6]
  refine r_iconst C dX5_keeps_43 ?_
  refine r_iadd C dX5_keeps_44 ?_
  refine r_iast C dX5_keeps_45 ha (up_s _ _ _) (by omega) (by omega) ?_
  rw [up_up]
  refine r_aload_n C dX5_keeps_46 rfl rfl ?_
  refine r_iload_n C dX5_keeps_47 rfl rfl ?_
  refine r_bipush C dX5_keeps_48 (by decide) ?_
  refine r_iadd C dX5_keeps_50 ?_
  refine r_iald C dX5_keeps_51 ha (up_s _ _ _) (by omega) (by omega) ?_
  rw [up_s]
  exact r_iretD C dX5_keeps_52 rfl (by rw [keep_raw s r key hr.1 hm])

/-- 99 numbers of f from i on put into g from j on -/
def cpy (f g : Int → Int) (i j : Int) : Int → Int := fun x => if j ≤ x ∧ x < j + 99 then f (x - j + i) else g x
def cpyN (f g : Int → Int) (i j n : Int) : Int → Int := fun x => if j ≤ x ∧ x < j + n then f (x - j + i) else g x
theorem cpyN_0 (f g : Int → Int) (i j : Int) : cpyN f g i j 0 = g := by
  funext x; unfold cpyN; rw [if_neg (by omega)]
theorem cpyN_s (f g : Int → Int) (i j : Int) {n : Int} (hn : 0 ≤ n) : up (cpyN f g i j n) (j + n) (f (i + n)) = cpyN f g i j (n + 1) := by
  funext x
  by_cases h : x = j + n
  · rw [h, up_s]; unfold cpyN; rw [if_pos (by omega)]; congr 1; omega
  · rw [up_n h]; unfold cpyN
    by_cases h2 : j ≤ x ∧ x < j + n
    · rw [if_pos h2, if_pos (by omega)]
    · rw [if_neg h2, if_neg (by omega)]

set_option maxRecDepth 100000 in
set_option maxHeartbeats 4000000 in
theorem c_X5_copies {l : Launch} {D : va_G} {ty : Nat → ClassId} {ad : Int → Nat} {N : Int} {σ : Int → va_E} {a b i j : Int} {n1 n2 : Nat} {f g : Int → Int} (ha : 0 ≤ a ∧ a < N) (hb : 0 ≤ b ∧ b < N) (hab : a ≠ b) (hf : σ a = gAr (ty 0) n1 f) (hi : 0 ≤ i ∧ i + 99 ≤ n1) (hj : 0 ≤ j ∧ j + 99 ≤ n2) (hn1 : n1 < 100000) (hn2 : n2 < 100000) : gM0 l yX5_copies cX5_copies 5 none 0 0 [.ref (ad a), .int (gI i), .ref (ad b), .int (gI j)] D ty ad N (up σ b (gAr (ty 0) n2 g)) (none) (up σ b (gAr (ty 0) n2 (cpy f g i j))) := by
  refine gMet_of [some (.ref (ad a)), some (.int (gI i)), some (.ref (ad b)), some (.int (gI j)), none] (by decide +kernel) rfl (Nat.le_of_ble_eq_true rfl) rfl ?_
  intro X hl hD hty C hini
  subst hl hD hty
  refine r_iconst C dX5_copies_0 ?_
  refine r_istore C dX5_copies_1 (Nat.le_of_ble_eq_true rfl) rfl ?_
  dsimp only [List.set]
  have lp : ∀ (n : Nat) (p : Int), (0 ≤ p) → (p + n = 99) → V X 0 0 (gQ X (gD (none) ad N (up σ b (gAr (gty X 0) n2 (cpy f g i j)))) 0 0) 3 [some (.ref (ad a)), some (.int (gI i)), some (.ref (ad b)), some (.int (gI j)), some (.int (gI p))] [] ad N (up σ b (gAr (gty X 0) n2 (cpyN f g i j p))) := by
    intro n
    induction n with
    | zero =>
      intro p hp hpn
      have hpp : p = 99 := by omega
      subst hpp
      refine r_iload C dX5_copies_3 rfl ?_
      refine r_bipush C dX5_copies_5 (by decide) ?_
      refine r_icmp_ge (tgt := 28) C dX5_copies_7 (by decide) (by omega) (by omega) (fun h7 => ?_) (fun h7 => ?_)
      · exact r_vretD C dX5_copies_28 rfl
      · exact absurd h7 (by omega)
    | succ n ih =>
      intro p hp hpn
      refine r_iload C dX5_copies_3 rfl ?_
      refine r_bipush C dX5_copies_5 (by decide) ?_
      refine r_icmp_ge (tgt := 28) C dX5_copies_7 (by decide) (by omega) (by omega) (fun h7 => ?_) (fun h7 => ?_)
      · exact absurd h7 (by omega)
      · refine r_aload_n C dX5_copies_10 rfl rfl ?_
        refine r_iload_n C dX5_copies_11 rfl rfl ?_
        refine r_iload C dX5_copies_12 rfl ?_
        refine r_iadd C dX5_copies_14 ?_
        refine r_aload_n C dX5_copies_15 rfl rfl ?_
        refine r_iload_n C dX5_copies_16 rfl rfl ?_
        refine r_iload C dX5_copies_17 rfl ?_
        refine r_iadd C dX5_copies_19 ?_
        refine r_iald (g := f) C dX5_copies_20 ha (by rw [up_n hab]; exact hf) (by omega) (by omega) ?_
        refine r_iast C dX5_copies_21 hb (up_s _ _ _) (by omega) (by omega) ?_
        rw [up_up, cpyN_s _ _ _ _ hp]
        refine r_iinc C dX5_copies_22 rfl rfl ?_
        dsimp only [List.set]
        refine r_goto (tgt := 3) C dX5_copies_25 (by decide) ?_
        exact ih _ (by omega) (by omega)
  have h0 := lp 99 0 (by omega) (by omega)
  rw [cpyN_0] at h0
  exact h0

