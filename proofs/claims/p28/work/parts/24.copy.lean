/-! copies: a room, a store -/

section COPY
variable {ad : Int → Nat} {ty : Nat → ClassId} {σ : Int → va_E} {k b : Int} {ρ ρ2 s : Int → Int}
theorem rput_c1 : up (rput ad ty σ k ρ) (k + 1) (gAr (ty 0) 4 (gcpy (fun i => ρ2 (7 + i)) (fun i => ρ (7 + i)) 0 0 4)) = rput ad ty σ k (fun j => if 7 ≤ j ∧ j < 11 then ρ2 j else ρ j) := by
  funext q
  by_cases h1 : q = k + 1
  · subst h1
    rw [up_s, rput_1]
    refine gAr_ext fun j h1 h2 => ?_
    unfold gcpy
    rw [if_pos (by omega)]
    show _ = if 7 ≤ 7 + j ∧ 7 + j < 11 then ρ2 (7 + j) else ρ (7 + j)
    rw [if_pos (by omega)]
    congr 1; omega
  · rw [up_n h1]
    unfold rput
    rw [if_neg h1, if_neg h1]
    split
    · unfold rF; simp
    · split
      · refine gAr_ext fun j h1 h2 => ?_
        show _ = if 7 ≤ 11 + j ∧ 11 + j < 11 then ρ2 (11 + j) else ρ (11 + j)
        rw [if_neg (by omega)]
      · rfl
theorem rput_c2 : up (rput ad ty σ k ρ) (k + 2) (gAr (ty 0) 4 (gcpy (fun i => ρ2 (11 + i)) (fun i => ρ (11 + i)) 0 0 4)) = rput ad ty σ k (fun j => if 11 ≤ j ∧ j < 15 then ρ2 j else ρ j) := by
  funext q
  by_cases h1 : q = k + 2
  · subst h1
    rw [up_s, rput_2]
    refine gAr_ext fun j h1 h2 => ?_
    unfold gcpy
    rw [if_pos (by omega)]
    show _ = if 11 ≤ 11 + j ∧ 11 + j < 15 then ρ2 (11 + j) else ρ (11 + j)
    rw [if_pos (by omega)]
    congr 1; omega
  · rw [up_n h1]
    unfold rput
    rw [if_neg h1, if_neg h1]
    split
    · unfold rF; simp
    · split
      · refine gAr_ext fun j h1 h2 => ?_
        show _ = if 11 ≤ 7 + j ∧ 7 + j < 15 then ρ2 (7 + j) else ρ (7 + j)
        rw [if_neg (by omega)]
      · rfl
end COPY

set_option maxRecDepth 100000 in
set_option maxHeartbeats 4000000 in
theorem c_X1_copyRoom {l : Launch} {D : va_G} {ty : Nat → ClassId} {ad : Int → Nat} {N : Int} {σ : Int → va_E} {k k2 : Int} {ρ ρ2 : Int → Int} (hk : 0 ≤ k ∧ k + 3 ≤ N) (hk2 : 0 ≤ k2 ∧ k2 + 3 ≤ N) (hkk : k + 2 < k2 ∨ k2 + 2 < k) (g0 : σ k2 = .inr (1, rF ad k2 ρ2)) (g1 : σ (k2 + 1) = gAr (ty 0) 4 (fun i => ρ2 (7 + i))) (g2 : σ (k2 + 2) = gAr (ty 0) 4 (fun i => ρ2 (11 + i))) (z1 : ρ2 1 = 0 ∨ ρ2 1 = 1) (z3 : ρ2 3 = 0 ∨ ρ2 3 = 1) (z5 : ρ2 5 = 0 ∨ ρ2 5 = 1) : gM0 l yX1_copyRoom cX1_copyRoom 2 none 1 40 [.ref (ad k), .ref (ad k2)] D ty ad N (rput ad ty σ k ρ) (none) (rput ad ty σ k ρ2) := by
  refine gMet_of [some (.ref (ad k)), some (.ref (ad k2))] (by decide +kernel) rfl (Nat.le_of_ble_eq_true rfl) rfl ?_
  intro X hl hD hty C hini
  subst hl hD hty
  refine r_aload_n C dX1_copyRoom_0 rfl rfl ?_
  refine r_get C flX1_9 dX1_copyRoom_1 (by omega) (by rw [rput_x (by omega)]; exact g0) rfl ?_
  refine r_iconst C dX1_copyRoom_4 ?_
  refine r_aload_n C dX1_copyRoom_5 rfl rfl ?_
  refine rr_get C flX1_9 dX1_copyRoom_6 hk rfl ?_
  refine r_iconst C dX1_copyRoom_9 ?_
  refine r_iconst C dX1_copyRoom_10 ?_
  refine r_copy C kaX1_26 dX1_copyRoom_11 (by omega) (by omega) (by rw [rput_x (by omega)]; exact g1) rput_1 (by decide) (by decide) (by decide) (by decide) (by decide) (by decide) rfl (by decide) (by decide) ?_
  rw [rput_c1]
  refine r_aload_n C dX1_copyRoom_14 rfl rfl ?_
  refine r_get C flX1_15 dX1_copyRoom_15 (by omega) (by rw [rput_x (by omega)]; exact g0) rfl ?_
  refine r_iconst C dX1_copyRoom_18 ?_
  refine r_aload_n C dX1_copyRoom_19 rfl rfl ?_
  refine rr_get C flX1_15 dX1_copyRoom_20 hk rfl ?_
  refine r_iconst C dX1_copyRoom_23 ?_
  refine r_iconst C dX1_copyRoom_24 ?_
  refine r_copy C kaX1_26 dX1_copyRoom_25 (by omega) (by omega) (by rw [rput_x (by omega)]; exact g2) rput_2 (by decide) (by decide) (by decide) (by decide) (by decide) (by decide) rfl (by decide) (by decide) ?_
  rw [rput_c2]
  refine r_aload_n C dX1_copyRoom_28 rfl rfl ?_
  refine r_aload_n C dX1_copyRoom_29 rfl rfl ?_
  refine r_get C flX1_32 dX1_copyRoom_30 (by omega) (by rw [rput_x (by omega)]; exact g0) rfl ?_
  refine rr_put (j := 6) C flX1_32 dX1_copyRoom_33 hk (by decide) rfl rfl rfl rfl ?_
  refine r_aload_n C dX1_copyRoom_36 rfl rfl ?_
  refine r_aload_n C dX1_copyRoom_37 rfl rfl ?_
  refine r_get C flX1_18 dX1_copyRoom_38 (by omega) (by rw [rput_x (by omega)]; exact g0) rfl ?_
  refine rr_put (j := 0) C flX1_18 dX1_copyRoom_41 hk (by decide) rfl rfl rfl rfl ?_
  refine r_aload_n C dX1_copyRoom_44 rfl rfl ?_
  refine r_aload_n C dX1_copyRoom_45 rfl rfl ?_
  refine r_get C flX1_35 dX1_copyRoom_46 (by omega) (by rw [rput_x (by omega)]; exact g0) rfl ?_
  refine rr_put (j := 1) C flX1_35 dX1_copyRoom_49 hk (by decide) rfl rfl (gI_z z1) (gI_f z1) ?_
  refine r_aload_n C dX1_copyRoom_52 rfl rfl ?_
  refine r_aload_n C dX1_copyRoom_53 rfl rfl ?_
  refine r_get C flX1_38 dX1_copyRoom_54 (by omega) (by rw [rput_x (by omega)]; exact g0) rfl ?_
  refine rr_put (j := 2) C flX1_38 dX1_copyRoom_57 hk (by decide) rfl rfl rfl rfl ?_
  refine r_aload_n C dX1_copyRoom_60 rfl rfl ?_
  refine r_aload_n C dX1_copyRoom_61 rfl rfl ?_
  refine r_get C flX1_41 dX1_copyRoom_62 (by omega) (by rw [rput_x (by omega)]; exact g0) rfl ?_
  refine rr_put (j := 3) C flX1_41 dX1_copyRoom_65 hk (by decide) rfl rfl (gI_z z3) (gI_f z3) ?_
  refine r_aload_n C dX1_copyRoom_68 rfl rfl ?_
  refine r_aload_n C dX1_copyRoom_69 rfl rfl ?_
  refine r_get C flX1_22 dX1_copyRoom_70 (by omega) (by rw [rput_x (by omega)]; exact g0) rfl ?_
  refine rr_put (j := 5) C flX1_22 dX1_copyRoom_73 hk (by decide) rfl rfl (gI_z z5) (gI_f z5) ?_
  refine r_aload_n C dX1_copyRoom_76 rfl rfl ?_
  refine r_aload_n C dX1_copyRoom_77 rfl rfl ?_
  refine r_get C flX1_44 dX1_copyRoom_78 (by omega) (by rw [rput_x (by omega)]; exact g0) rfl ?_
  refine rr_put (j := 4) C flX1_44 dX1_copyRoom_81 hk (by decide) rfl rfl rfl rfl ?_
  exact r_vretD C dX1_copyRoom_84 (rput_ext (fun j h1 h2 => by rcases (show j = 0 ∨ j = 1 ∨ j = 2 ∨ j = 3 ∨ j = 4 ∨ j = 5 ∨ j = 6 ∨ j = 7 ∨ j = 8 ∨ j = 9 ∨ j = 10 ∨ j = 11 ∨ j = 12 ∨ j = 13 ∨ j = 14 by omega) with rfl | rfl | rfl | rfl | rfl | rfl | rfl | rfl | rfl | rfl | rfl | rfl | rfl | rfl | rfl <;> simp [up_ap]))

set_option maxRecDepth 100000 in
set_option maxHeartbeats 4000000 in
theorem c_X3_copyFrom {l : Launch} {D : va_G} {ty : Nat → ClassId} {ad : Int → Nat} {N : Int} {σ : Int → va_E} {b b2 : Int} {s s2 : Int → Int} (hb : 0 ≤ b ∧ b + 20 ≤ N) (hb2 : 0 ≤ b2 ∧ b2 + 20 ≤ N) (hbb : b + 20 ≤ b2 ∨ b2 + 20 ≤ b) (hσ : sput ad ty σ b2 s2 = σ) (hs : okS s2) : gM0 l yX3_copyFrom cX3_copyFrom 3 none 2 61 [.ref (ad b), .ref (ad b2)] D ty ad N (sput ad ty σ b s) (none) (sput ad ty σ b s2) := by
  refine gMet_of [some (.ref (ad b)), some (.ref (ad b2)), none] (by decide +kernel) rfl (Nat.le_of_ble_eq_true rfl) rfl ?_
  intro X hl hD hty C hini
  subst hl hD hty
  refine r_iconst C dX3_copyFrom_0 ?_
  refine r_istore_n C dX3_copyFrom_1 rfl (Nat.le_of_ble_eq_true rfl) rfl ?_
  dsimp only [List.set]
  have lp : ∀ (n : Nat) (p : Int), (0 ≤ p) → (p + n = 6) → V X 0 0 (gQ X (gD (none) ad N (sput ad (gty X) σ b s2)) 0 0) 2 [some (.ref (ad b)), some (.ref (ad b2)), some (.int (gI p))] [] ad N (sput ad (gty X) σ b (mapR (fun r _ => rm s2 r) s p)) := by
    intro n
    induction n with
    | zero =>
      intro p hp hpn
      have hpp : p = 6 := by omega
      subst hpp
      refine r_iload_n C dX3_copyFrom_2 rfl rfl ?_
      refine r_bipush C dX3_copyFrom_3 (by decide) ?_
      refine r_icmp_ge (tgt := 29) C dX3_copyFrom_5 (by decide) (by omega) (by omega) (fun h5 => ?_) (fun h5 => ?_)
      · refine r_aload_n C dX3_copyFrom_29 rfl rfl ?_
        refine r_aload_n C dX3_copyFrom_30 rfl rfl ?_
        refine r_get C flX3_32 dX3_copyFrom_31 (by omega) (by rw [sput_x (by omega), ← hσ]; exact sput_0) rfl ?_
        refine ss_put (j := 2) C flX3_32 dX3_copyFrom_34 hb (by decide) rfl rfl rfl rfl ?_
        refine r_aload_n C dX3_copyFrom_37 rfl rfl ?_
        refine r_aload_n C dX3_copyFrom_38 rfl rfl ?_
        refine r_get C flX3_18 dX3_copyFrom_39 (by omega) (by rw [sput_x (by omega), ← hσ]; exact sput_0) rfl ?_
        refine ss_put (j := 1) C flX3_18 dX3_copyFrom_42 hb (by decide) rfl rfl rfl rfl ?_
        refine r_aload_n C dX3_copyFrom_45 rfl rfl ?_
        refine r_aload_n C dX3_copyFrom_46 rfl rfl ?_
        refine r_get C flX3_35 dX3_copyFrom_47 (by omega) (by rw [sput_x (by omega), ← hσ]; exact sput_0) rfl ?_
        refine ss_put (j := 3) C flX3_35 dX3_copyFrom_50 hb (by decide) rfl rfl rfl rfl ?_
        refine r_aload_n C dX3_copyFrom_53 rfl rfl ?_
        refine r_aload_n C dX3_copyFrom_54 rfl rfl ?_
        refine r_get C flX3_38 dX3_copyFrom_55 (by omega) (by rw [sput_x (by omega), ← hσ]; exact sput_0) rfl ?_
        refine ss_put (j := 4) C flX3_38 dX3_copyFrom_58 hb (by decide) rfl rfl rfl rfl ?_
        refine r_aload_n C dX3_copyFrom_61 rfl rfl ?_
        refine r_aload_n C dX3_copyFrom_62 rfl rfl ?_
        refine r_get C flX3_41 dX3_copyFrom_63 (by omega) (by rw [sput_x (by omega), ← hσ]; exact sput_0) rfl ?_
        refine ss_put (j := 5) C flX3_41 dX3_copyFrom_66 hb (by decide) rfl rfl rfl rfl ?_
        refine r_aload_n C dX3_copyFrom_69 rfl rfl ?_
        refine r_aload_n C dX3_copyFrom_70 rfl rfl ?_
        refine r_get C flX3_44 dX3_copyFrom_71 (by omega) (by rw [sput_x (by omega), ← hσ]; exact sput_0) rfl ?_
        refine ss_put (j := 6) C flX3_44 dX3_copyFrom_74 hb (by decide) rfl rfl rfl rfl ?_
        refine r_aload_n C dX3_copyFrom_77 rfl rfl ?_
        refine r_aload_n C dX3_copyFrom_78 rfl rfl ?_
        refine r_get C flX3_22 dX3_copyFrom_79 (by omega) (by rw [sput_x (by omega), ← hσ]; exact sput_0) rfl ?_
        refine ss_put (j := 7) C flX3_22 dX3_copyFrom_82 hb (by decide) rfl rfl rfl rfl ?_
        refine r_aload_n C dX3_copyFrom_85 rfl rfl ?_
        refine r_aload_n C dX3_copyFrom_86 rfl rfl ?_
        refine r_get C flX3_47 dX3_copyFrom_87 (by omega) (by rw [sput_x (by omega), ← hσ]; exact sput_0) rfl ?_
        refine ss_put (j := 8) C flX3_47 dX3_copyFrom_90 hb (by decide) rfl rfl rfl rfl ?_
        refine r_aload_n C dX3_copyFrom_93 rfl rfl ?_
        refine r_aload_n C dX3_copyFrom_94 rfl rfl ?_
        refine r_get C flX3_25 dX3_copyFrom_95 (by omega) (by rw [sput_x (by omega), ← hσ]; exact sput_0) rfl ?_
        refine ss_put (j := 0) C flX3_25 dX3_copyFrom_98 hb (by decide) rfl rfl rfl rfl ?_
        exact r_vretD C dX3_copyFrom_101 (sput_ext (fun j h1 h2 => by
          rcases Int.lt_or_le j 9 with h9 | h9
          · rcases (show j = 0 ∨ j = 1 ∨ j = 2 ∨ j = 3 ∨ j = 4 ∨ j = 5 ∨ j = 6 ∨ j = 7 ∨ j = 8 by omega) with rfl | rfl | rfl | rfl | rfl | rfl | rfl | rfl | rfl <;> simp [up_ap]
          · repeat rw [up_n (by omega)]
            unfold mapR
            rw [if_pos (by omega)]
            show rm s2 ((j - 9) / 15) ((j - 9) % 15) = s2 j
            rw [rm_at _ _ (by omega)]
            congr 1
            omega))
      · exact absurd h5 (by omega)
    | succ n ih =>
      intro p hp hpn
      have hq := hs.rm (r := p) (by omega)
      refine r_iload_n C dX3_copyFrom_2 rfl rfl ?_
      refine r_bipush C dX3_copyFrom_3 (by decide) ?_
      refine r_icmp_ge (tgt := 29) C dX3_copyFrom_5 (by decide) (by omega) (by omega) (fun h5 => ?_) (fun h5 => ?_)
      · exact absurd h5 (by omega)
      · refine r_aload_n C dX3_copyFrom_8 rfl rfl ?_
        refine ss_get C flX3_11 dX3_copyFrom_9 hb rfl ?_
        refine r_iload_n C dX3_copyFrom_12 rfl rfl ?_
        refine ss_room C dX3_copyFrom_13 hb (by omega) ?_
        refine r_aload_n C dX3_copyFrom_14 rfl rfl ?_
        refine r_get C flX3_11 dX3_copyFrom_15 (by omega) (by rw [sput_x (by omega), ← hσ]; exact sput_0) rfl ?_
        refine r_iload_n C dX3_copyFrom_18 rfl rfl ?_
        refine r_aald (t := 3) C dX3_copyFrom_19 (by omega) (by rw [sput_x (by omega), ← hσ]; exact sput_1) rfl (i := p) (by omega) (by decide) (by unfold rmA; rw [if_pos (by omega), Int.toNat_of_nonneg hp]) ?_
        refine r_cVv C cwX3_28 (lift (by omega) (c_X1_copyRoom (k2 := b2 + 2 + 3 * p) (ρ2 := rm s2 p) (by omega) (by omega) (by omega) (by rw [sput_x (by omega), ← hσ]; exact sput_r (by omega)) (by rw [sput_x (by omega), ← hσ, sput_c (r := p) (m := 1) (by omega) (by omega) (by omega)]; rfl) (by rw [sput_x (by omega), ← hσ, sput_c (r := p) (m := 2) (by omega) (by omega) (by omega)]; rfl) hq.bur hq.shi hq.door)) dX3_copyFrom_20 rfl (by omega) (sput_r (by omega)) rfl rfl rfl (Nat.le_of_ble_eq_true rfl) ⟨Nat.le_of_ble_eq_true rfl, Nat.le_of_ble_eq_true rfl⟩ ⟨Nat.le_of_ble_eq_true rfl, Nat.le_of_ble_eq_true rfl⟩ ?_
        rw [show srm (mapR (fun r _ => rm s2 r) s p) p (rm s2 p) = mapR (fun r _ => rm s2 r) s (p + 1) from srm_mapR hp]
        refine r_iinc C dX3_copyFrom_23 rfl rfl ?_
        dsimp only [List.set]
        refine r_goto (tgt := 2) C dX3_copyFrom_26 (by decide) ?_
        exact ih _ (by omega) (by omega)
  have h0 := lp 6 0 (by omega) (by omega)
  rw [mapR_0] at h0
  exact h0
