/-! CandleRooms: the methods that return -/
set_option maxRecDepth 100000 in
set_option maxHeartbeats 4000000 in
theorem c_X4_isRoom {l : Launch} {D : va_G} {ty : Nat → ClassId} {ad : Int → Nat} {N : Int} {σ : Int → va_E} {z : Int} (hz : -2147483648 ≤ z ∧ z < 2147483648) : gM0 l yX4_isRoom cX4_isRoom 1 (some .boolean) 0 0 [.int (gI z)] D ty ad N (σ) (some (.int (gI (gB (0 ≤ z ∧ z < 6))))) (σ) := by
  refine gMet_of [some (.int (gI z))] (by decide +kernel) rfl (Nat.le_of_ble_eq_true rfl) rfl ?_
  intro X hl hD hty C hini
  subst hl hD hty
  refine r_iload_n C dX4_isRoom_0 rfl rfl ?_
  refine r_if_lt (tgt := 14) C dX4_isRoom_1 (by decide) (by omega) (fun h1 => ?_) (fun h1 => ?_)
  · refine r_iconst C dX4_isRoom_14 ?_
    exact r_zretD C dX4_isRoom_15 (by omega) (by first | exact (gB_t (by omega)).symm | exact (gB_f (by omega)).symm) rfl
  · refine r_iload_n C dX4_isRoom_4 rfl rfl ?_
    refine r_bipush C dX4_isRoom_5 (by decide) ?_
    refine r_icmp_ge (tgt := 14) C dX4_isRoom_7 (by decide) (by omega) (by omega) (fun h7 => ?_) (fun h7 => ?_)
    · refine r_iconst C dX4_isRoom_14 ?_
      exact r_zretD C dX4_isRoom_15 (by omega) (by first | exact (gB_t (by omega)).symm | exact (gB_f (by omega)).symm) rfl
    · refine r_iconst C dX4_isRoom_10 ?_
      refine r_goto (tgt := 15) C dX4_isRoom_11 (by decide) ?_
      exact r_zretD C dX4_isRoom_15 (by omega) (by first | exact (gB_t (by omega)).symm | exact (gB_f (by omega)).symm) rfl

set_option maxRecDepth 100000 in
set_option maxHeartbeats 4000000 in
theorem c_X4_requireRoom {l : Launch} {D : va_G} {ty : Nat → ClassId} {ad : Int → Nat} {N : Int} {σ : Int → va_E} {z : Int} (hz : 0 ≤ z ∧ z < 6) : gM0 l yX4_requireRoom cX4_requireRoom 1 none 6 200 [.int (gI z)] D ty ad N (σ) (none) (σ) := by
  refine gMet_of [some (.int (gI z))] (by decide +kernel) rfl (Nat.le_of_ble_eq_true rfl) rfl ?_
  intro X hl hD hty C hini
  subst hl hD hty
  refine r_iload_n C dX4_requireRoom_0 rfl rfl ?_
  refine r_cS C cwX4_68 (c_X4_isRoom (by omega)) dX4_requireRoom_1 rfl rfl rfl (Nat.le_of_ble_eq_true rfl) ⟨Nat.le_of_ble_eq_true rfl, Nat.le_of_ble_eq_true rfl⟩ ⟨Nat.le_of_ble_eq_true rfl, Nat.le_of_ble_eq_true rfl⟩ ?_
  refine r_ifb_ne (tgt := 17) C dX4_requireRoom_4 (by decide) (fun h4 => ?_) (fun h4 => ?_)
  · exact r_vretD C dX4_requireRoom_17 rfl
  · exact absurd hz h4

set_option maxRecDepth 100000 in
set_option maxHeartbeats 4000000 in
theorem c_X4_requireKey {l : Launch} {D : va_G} {ty : Nat → ClassId} {ad : Int → Nat} {N : Int} {σ : Int → va_E} {z : Int} (hz : 0 ≤ z ∧ z < 100) : gM0 l yX4_requireKey cX4_requireKey 1 none 6 200 [.int (gI z)] D ty ad N (σ) (none) (σ) := by
  refine gMet_of [some (.int (gI z))] (by decide +kernel) rfl (Nat.le_of_ble_eq_true rfl) rfl ?_
  intro X hl hD hty C hini
  subst hl hD hty
  refine r_iload_n C dX4_requireKey_0 rfl rfl ?_
  refine r_if_lt (tgt := 10) C dX4_requireKey_1 (by decide) (by omega) (fun h1 => ?_) (fun h1 => ?_)
  · exact absurd h1 (by omega)
  · refine r_iload_n C dX4_requireKey_4 rfl rfl ?_
    refine r_bipush C dX4_requireKey_5 (by decide) ?_
    refine r_icmp_lt (tgt := 20) C dX4_requireKey_7 (by decide) (by omega) (by omega) (fun h7 => ?_) (fun h7 => ?_)
    · exact r_vretD C dX4_requireKey_20 rfl
    · exact absurd h7 (by omega)

set_option maxRecDepth 100000 in
set_option maxHeartbeats 4000000 in
theorem c_X4_requireNumber {l : Launch} {D : va_G} {ty : Nat → ClassId} {ad : Int → Nat} {N : Int} {σ : Int → va_E} {z m : Int} (hm : 0 ≤ m ∧ m < 100) (hz : 0 ≤ z ∧ z < m) : gM0 l yX4_requireNumber cX4_requireNumber 2 none 6 200 [.int (gI z), .int (gI m)] D ty ad N (σ) (none) (σ) := by
  refine gMet_of [some (.int (gI z)), some (.int (gI m))] (by decide +kernel) rfl (Nat.le_of_ble_eq_true rfl) rfl ?_
  intro X hl hD hty C hini
  subst hl hD hty
  refine r_iload_n C dX4_requireNumber_0 rfl rfl ?_
  refine r_if_lt (tgt := 9) C dX4_requireNumber_1 (by decide) (by omega) (fun h1 => ?_) (fun h1 => ?_)
  · exact absurd h1 (by omega)
  · refine r_iload_n C dX4_requireNumber_4 rfl rfl ?_
    refine r_iload_n C dX4_requireNumber_5 rfl rfl ?_
    refine r_icmp_lt (tgt := 19) C dX4_requireNumber_6 (by decide) (by omega) (by omega) (fun h6 => ?_) (fun h6 => ?_)
    · exact r_vretD C dX4_requireNumber_19 rfl
    · exact absurd h6 (by omega)

set_option maxRecDepth 100000 in
set_option maxHeartbeats 4000000 in
theorem c_X4_strike {l : Launch} {D : va_G} {ty : Nat → ClassId} {ad : Int → Nat} {N : Int} {σ : Int → va_E} {x n k len : Int} {u : Int → Int → Int} {s tx : Int → Int} {r : Int} (hx : 0 ≤ x ∧ x + 145 ≤ N) (ho : okX s n u len tx) (hr : 0 ≤ r ∧ r < 6) (hm : mayS s r) : gM0 l yX4_strike cX4_strike 2 (some .int) 7 220 [.ref (ad x), .int (gI r)] D ty ad N (xput ad ty σ x s n k u len tx) (some (.int (gI (rm s r 0)))) (xput ad ty σ x (light1 s r) (pshN n) (pshK n k) (pshU n k u s) (len) (tx)) := by
  refine gMet_of [some (.ref (ad x)), some (.int (gI r))] (by decide +kernel) rfl (Nat.le_of_ble_eq_true rfl) rfl ?_
  intro X hl hD hty C hini
  subst hl hD hty
  have hs := ho.1
  have hn := ho.2.1
  have ht := ho.2.2.2
  have hlen := ht.1
  refine r_iload_n C dX4_strike_0 rfl rfl ?_
  refine r_cSv C cwX4_30 (c_X4_requireRoom (by omega)) dX4_strike_1 rfl rfl rfl (Nat.le_of_ble_eq_true rfl) ⟨Nat.le_of_ble_eq_true rfl, Nat.le_of_ble_eq_true rfl⟩ ⟨Nat.le_of_ble_eq_true rfl, Nat.le_of_ble_eq_true rfl⟩ ?_
  refine r_aload_n C dX4_strike_4 rfl rfl ?_
  refine r_get C flX4_10 dX4_strike_5 (by omega) xput_0 rfl ?_
  refine r_iload_n C dX4_strike_8 rfl rfl ?_
  refine r_cV C cwX4_34 (liftXs (c_X3_canStrike (by omega) hs (by omega))) dX4_strike_9 rfl (by omega) xput_st rfl rfl rfl (Nat.le_of_ble_eq_true rfl) ⟨Nat.le_of_ble_eq_true rfl, Nat.le_of_ble_eq_true rfl⟩ ⟨Nat.le_of_ble_eq_true rfl, Nat.le_of_ble_eq_true rfl⟩ ?_
  refine r_ifb_ne (tgt := 25) C dX4_strike_12 (by decide) (fun h12 => ?_) (fun h12 => ?_)
  · refine r_aload_n C dX4_strike_25 rfl rfl ?_
    refine r_get C flX4_19 dX4_strike_26 (by omega) xput_0 rfl ?_
    refine r_aload_n C dX4_strike_29 rfl rfl ?_
    refine r_get C flX4_10 dX4_strike_30 (by omega) xput_0 rfl ?_
    refine r_cVv C cwX4_45 (liftXv (c_X2_push (s := s) (by omega) (by omega) (by omega) (by omega) hs (xput_s s))) dX4_strike_33 rfl (by omega) xput_sv rfl rfl rfl (Nat.le_of_ble_eq_true rfl) ⟨Nat.le_of_ble_eq_true rfl, Nat.le_of_ble_eq_true rfl⟩ ⟨Nat.le_of_ble_eq_true rfl, Nat.le_of_ble_eq_true rfl⟩ ?_
    refine r_aload_n C dX4_strike_36 rfl rfl ?_
    refine r_get C flX4_10 dX4_strike_37 (by omega) xput_0 rfl ?_
    refine r_iload_n C dX4_strike_40 rfl rfl ?_
    refine r_cV C cwX4_49 (liftXs (c_X3_kindle (by omega) (by omega))) dX4_strike_41 rfl (by omega) xput_st rfl rfl rfl (Nat.le_of_ble_eq_true rfl) ⟨Nat.le_of_ble_eq_true rfl, Nat.le_of_ble_eq_true rfl⟩ ⟨Nat.le_of_ble_eq_true rfl, Nat.le_of_ble_eq_true rfl⟩ ?_
    exact r_iretD C dX4_strike_44 rfl rfl
  · exact absurd hm h12

set_option maxRecDepth 100000 in
set_option maxHeartbeats 4000000 in
theorem c_X4_light {l : Launch} {D : va_G} {ty : Nat → ClassId} {ad : Int → Nat} {N : Int} {σ : Int → va_E} {x n k len : Int} {u : Int → Int → Int} {s tx : Int → Int} {r o : Int} (hx : 0 ≤ x ∧ x + 145 ≤ N) (ho : okX s n u len tx) (hr : 0 ≤ r ∧ r < 6) (ho2 : 0 ≤ o ∧ o < 6) (hm : mayL s r o) : gM0 l yX4_light cX4_light 3 (some .int) 7 220 [.ref (ad x), .int (gI r), .int (gI o)] D ty ad N (xput ad ty σ x s n k u len tx) (some (.int (gI (rm s r 0)))) (xput ad ty σ x (light1 s r) (pshN n) (pshK n k) (pshU n k u s) (len) (tx)) := by
  refine gMet_of [some (.ref (ad x)), some (.int (gI r)), some (.int (gI o))] (by decide +kernel) rfl (Nat.le_of_ble_eq_true rfl) rfl ?_
  intro X hl hD hty C hini
  subst hl hD hty
  have hs := ho.1
  have hn := ho.2.1
  have ht := ho.2.2.2
  have hlen := ht.1
  refine r_iload_n C dX4_light_0 rfl rfl ?_
  refine r_cSv C cwX4_30 (c_X4_requireRoom (by omega)) dX4_light_1 rfl rfl rfl (Nat.le_of_ble_eq_true rfl) ⟨Nat.le_of_ble_eq_true rfl, Nat.le_of_ble_eq_true rfl⟩ ⟨Nat.le_of_ble_eq_true rfl, Nat.le_of_ble_eq_true rfl⟩ ?_
  refine r_iload_n C dX4_light_4 rfl rfl ?_
  refine r_cSv C cwX4_30 (c_X4_requireRoom (by omega)) dX4_light_5 rfl rfl rfl (Nat.le_of_ble_eq_true rfl) ⟨Nat.le_of_ble_eq_true rfl, Nat.le_of_ble_eq_true rfl⟩ ⟨Nat.le_of_ble_eq_true rfl, Nat.le_of_ble_eq_true rfl⟩ ?_
  refine r_aload_n C dX4_light_8 rfl rfl ?_
  refine r_get C flX4_10 dX4_light_9 (by omega) xput_0 rfl ?_
  refine r_iload_n C dX4_light_12 rfl rfl ?_
  refine r_iload_n C dX4_light_13 rfl rfl ?_
  refine r_cV C cwX4_53 (liftXs (c_X3_canLight (by omega) hs (by omega) (by omega))) dX4_light_14 rfl (by omega) xput_st rfl rfl rfl (Nat.le_of_ble_eq_true rfl) ⟨Nat.le_of_ble_eq_true rfl, Nat.le_of_ble_eq_true rfl⟩ ⟨Nat.le_of_ble_eq_true rfl, Nat.le_of_ble_eq_true rfl⟩ ?_
  refine r_ifb_ne (tgt := 30) C dX4_light_17 (by decide) (fun h17 => ?_) (fun h17 => ?_)
  · refine r_aload_n C dX4_light_30 rfl rfl ?_
    refine r_get C flX4_19 dX4_light_31 (by omega) xput_0 rfl ?_
    refine r_aload_n C dX4_light_34 rfl rfl ?_
    refine r_get C flX4_10 dX4_light_35 (by omega) xput_0 rfl ?_
    refine r_cVv C cwX4_45 (liftXv (c_X2_push (s := s) (by omega) (by omega) (by omega) (by omega) hs (xput_s s))) dX4_light_38 rfl (by omega) xput_sv rfl rfl rfl (Nat.le_of_ble_eq_true rfl) ⟨Nat.le_of_ble_eq_true rfl, Nat.le_of_ble_eq_true rfl⟩ ⟨Nat.le_of_ble_eq_true rfl, Nat.le_of_ble_eq_true rfl⟩ ?_
    refine r_aload_n C dX4_light_41 rfl rfl ?_
    refine r_get C flX4_10 dX4_light_42 (by omega) xput_0 rfl ?_
    refine r_iload_n C dX4_light_45 rfl rfl ?_
    refine r_cV C cwX4_49 (liftXs (c_X3_kindle (by omega) (by omega))) dX4_light_46 rfl (by omega) xput_st rfl rfl rfl (Nat.le_of_ble_eq_true rfl) ⟨Nat.le_of_ble_eq_true rfl, Nat.le_of_ble_eq_true rfl⟩ ⟨Nat.le_of_ble_eq_true rfl, Nat.le_of_ble_eq_true rfl⟩ ?_
    exact r_iretD C dX4_light_49 rfl rfl
  · exact absurd hm h17

set_option maxRecDepth 100000 in
set_option maxHeartbeats 4000000 in
theorem c_X4_fresh {l : Launch} {D : va_G} {ty : Nat → ClassId} {ad : Int → Nat} {N : Int} {σ : Int → va_E} {x n k len : Int} {u : Int → Int → Int} {s tx : Int → Int} {r : Int} (hx : 0 ≤ x ∧ x + 145 ≤ N) (ho : okX s n u len tx) (hr : 0 ≤ r ∧ r < 6) (hm : 0 < s 1) : gM0 l yX4_fresh cX4_fresh 2 (some .int) 7 220 [.ref (ad x), .int (gI r)] D ty ad N (xput ad ty σ x s n k u len tx) (some (.int (gI (s 1 - 1)))) (xput ad ty σ x (renew s r) (pshN n) (pshK n k) (pshU n k u s) (len) (tx)) := by
  refine gMet_of [some (.ref (ad x)), some (.int (gI r))] (by decide +kernel) rfl (Nat.le_of_ble_eq_true rfl) rfl ?_
  intro X hl hD hty C hini
  subst hl hD hty
  have hs := ho.1
  have hn := ho.2.1
  have ht := ho.2.2.2
  have hlen := ht.1
  refine r_iload_n C dX4_fresh_0 rfl rfl ?_
  refine r_cSv C cwX4_30 (c_X4_requireRoom (by omega)) dX4_fresh_1 rfl rfl rfl (Nat.le_of_ble_eq_true rfl) ⟨Nat.le_of_ble_eq_true rfl, Nat.le_of_ble_eq_true rfl⟩ ⟨Nat.le_of_ble_eq_true rfl, Nat.le_of_ble_eq_true rfl⟩ ?_
  refine r_aload_n C dX4_fresh_4 rfl rfl ?_
  refine r_get C flX4_10 dX4_fresh_5 (by omega) xput_0 rfl ?_
  refine r_cV C cwX4_59 (liftXs (c_X3_hasNewCandle (by omega) hs)) dX4_fresh_8 rfl (by omega) xput_st rfl rfl rfl (Nat.le_of_ble_eq_true rfl) ⟨Nat.le_of_ble_eq_true rfl, Nat.le_of_ble_eq_true rfl⟩ ⟨Nat.le_of_ble_eq_true rfl, Nat.le_of_ble_eq_true rfl⟩ ?_
  refine r_ifb_ne (tgt := 24) C dX4_fresh_11 (by decide) (fun h11 => ?_) (fun h11 => ?_)
  · refine r_aload_n C dX4_fresh_24 rfl rfl ?_
    refine r_get C flX4_19 dX4_fresh_25 (by omega) xput_0 rfl ?_
    refine r_aload_n C dX4_fresh_28 rfl rfl ?_
    refine r_get C flX4_10 dX4_fresh_29 (by omega) xput_0 rfl ?_
    refine r_cVv C cwX4_45 (liftXv (c_X2_push (s := s) (by omega) (by omega) (by omega) (by omega) hs (xput_s s))) dX4_fresh_32 rfl (by omega) xput_sv rfl rfl rfl (Nat.le_of_ble_eq_true rfl) ⟨Nat.le_of_ble_eq_true rfl, Nat.le_of_ble_eq_true rfl⟩ ⟨Nat.le_of_ble_eq_true rfl, Nat.le_of_ble_eq_true rfl⟩ ?_
    refine r_aload_n C dX4_fresh_35 rfl rfl ?_
    refine r_get C flX4_10 dX4_fresh_36 (by omega) xput_0 rfl ?_
    refine r_iload_n C dX4_fresh_39 rfl rfl ?_
    refine r_cV C cwX4_65 (liftXs (c_X3_putNewCandle (by omega) (by omega))) dX4_fresh_40 rfl (by omega) xput_st rfl rfl rfl (Nat.le_of_ble_eq_true rfl) ⟨Nat.le_of_ble_eq_true rfl, Nat.le_of_ble_eq_true rfl⟩ ⟨Nat.le_of_ble_eq_true rfl, Nat.le_of_ble_eq_true rfl⟩ ?_
    exact r_iretD C dX4_fresh_43 rfl rfl
  · exact absurd hm h11

set_option maxRecDepth 100000 in
set_option maxHeartbeats 4000000 in
theorem c_X4_door {l : Launch} {D : va_G} {ty : Nat → ClassId} {ad : Int → Nat} {N : Int} {σ : Int → va_E} {x n k len : Int} {u : Int → Int → Int} {s tx : Int → Int} {r z : Int} (hx : 0 ≤ x ∧ x + 145 ≤ N) (ho : okX s n u len tx) (hr : 0 ≤ r ∧ r < 6) (hz : z = 0 ∨ z = 1) : gM0 l yX4_door cX4_door 5 (some .int) 6 200 [.ref (ad x), .int (gI r), .int (gI z)] D ty ad N (xput ad ty σ x s n k u len tx) (some (.int (gI (rm s r 5)))) (xput ad ty σ x (up s (9 + 15 * r + 5) z) (pshN n) (pshK n k) (pshU n k u s) (len) (tx)) := by
  refine gMet_of [some (.ref (ad x)), some (.int (gI r)), some (.int (gI z)), none, none] (by decide +kernel) rfl (Nat.le_of_ble_eq_true rfl) rfl ?_
  intro X hl hD hty C hini
  subst hl hD hty
  have hs := ho.1
  have hn := ho.2.1
  have ht := ho.2.2.2
  have hlen := ht.1
  have hqd := (hs.rm hr).door
  have hrr : 0 ≤ r ∧ r < 6 := hr
  refine r_iload_n C dX4_door_0 rfl rfl ?_
  refine r_cS C cwX4_68 (c_X4_isRoom (by omega)) dX4_door_1 rfl rfl rfl (Nat.le_of_ble_eq_true rfl) ⟨Nat.le_of_ble_eq_true rfl, Nat.le_of_ble_eq_true rfl⟩ ⟨Nat.le_of_ble_eq_true rfl, Nat.le_of_ble_eq_true rfl⟩ ?_
  refine r_ifb_ne (tgt := 17) C dX4_door_4 (by decide) (fun h4 => ?_) (fun h4 => ?_)
  · refine r_aload_n C dX4_door_17 rfl rfl ?_
    refine r_get C flX4_19 dX4_door_18 (by omega) xput_0 rfl ?_
    refine r_aload_n C dX4_door_21 rfl rfl ?_
    refine r_get C flX4_10 dX4_door_22 (by omega) xput_0 rfl ?_
    refine r_cVv C cwX4_45 (liftXv (c_X2_push (s := s) (by omega) (by omega) (by omega) (by omega) hs (xput_s s))) dX4_door_25 rfl (by omega) xput_sv rfl rfl rfl (Nat.le_of_ble_eq_true rfl) ⟨Nat.le_of_ble_eq_true rfl, Nat.le_of_ble_eq_true rfl⟩ ⟨Nat.le_of_ble_eq_true rfl, Nat.le_of_ble_eq_true rfl⟩ ?_
    refine r_aload_n C dX4_door_28 rfl rfl ?_
    refine r_get C flX4_10 dX4_door_29 (by omega) xput_0 rfl ?_
    refine r_iload_n C dX4_door_32 rfl rfl ?_
    refine r_cV C cwX4_76 (liftXs (c_X3_roomAt0 (by omega) (by omega))) dX4_door_33 rfl (by omega) xput_st rfl rfl rfl (Nat.le_of_ble_eq_true rfl) ⟨Nat.le_of_ble_eq_true rfl, Nat.le_of_ble_eq_true rfl⟩ ⟨Nat.le_of_ble_eq_true rfl, Nat.le_of_ble_eq_true rfl⟩ ?_
    refine r_astore_n C dX4_door_36 rfl (Nat.le_of_ble_eq_true rfl) rfl ?_
    dsimp only [List.set]
    refine r_aload_n C dX4_door_37 rfl rfl ?_
    refine r_get C flX4_80 dX4_door_38 (by omega) (xput_rm (by omega)) rfl ?_
    refine r_istore C dX4_door_41 (Nat.le_of_ble_eq_true rfl) rfl ?_
    dsimp only [List.set]
    refine r_aload_n C dX4_door_43 rfl rfl ?_
    refine r_iload_n C dX4_door_44 rfl rfl ?_
    refine V_xs ?_
    refine sr_put (j := 5) C flX4_80 dX4_door_45 (by omega) (by omega) (by decide) rfl (by decide) rfl (gI_z (by omega)) (gI_f (by omega)) ?_
    refine V_xr ?_
    refine r_iload C dX4_door_48 rfl ?_
    refine r_cS C cwX4_86 (c_X4_asNumber (by omega)) dX4_door_50 rfl rfl rfl (Nat.le_of_ble_eq_true rfl) ⟨Nat.le_of_ble_eq_true rfl, Nat.le_of_ble_eq_true rfl⟩ ⟨Nat.le_of_ble_eq_true rfl, Nat.le_of_ble_eq_true rfl⟩ ?_
    exact r_iretD C dX4_door_53 rfl rfl
  · exact absurd hrr h4

set_option maxRecDepth 100000 in
set_option maxHeartbeats 4000000 in
theorem c_X4_shield {l : Launch} {D : va_G} {ty : Nat → ClassId} {ad : Int → Nat} {N : Int} {σ : Int → va_E} {x n k len : Int} {u : Int → Int → Int} {s tx : Int → Int} {r z : Int} (hx : 0 ≤ x ∧ x + 145 ≤ N) (ho : okX s n u len tx) (hr : 0 ≤ r ∧ r < 6) (hz : z = 0 ∨ z = 1) : gM0 l yX4_shield cX4_shield 5 (some .int) 7 220 [.ref (ad x), .int (gI r), .int (gI z)] D ty ad N (xput ad ty σ x s n k u len tx) (some (.int (gI (rm s r 3)))) (xput ad ty σ x (up s (9 + 15 * r + 3) z) (pshN n) (pshK n k) (pshU n k u s) (len) (tx)) := by
  refine gMet_of [some (.ref (ad x)), some (.int (gI r)), some (.int (gI z)), none, none] (by decide +kernel) rfl (Nat.le_of_ble_eq_true rfl) rfl ?_
  intro X hl hD hty C hini
  subst hl hD hty
  have hs := ho.1
  have hn := ho.2.1
  have ht := ho.2.2.2
  have hlen := ht.1
  have hqs := (hs.rm hr).shi
  refine r_iload_n C dX4_shield_0 rfl rfl ?_
  refine r_cSv C cwX4_30 (c_X4_requireRoom (by omega)) dX4_shield_1 rfl rfl rfl (Nat.le_of_ble_eq_true rfl) ⟨Nat.le_of_ble_eq_true rfl, Nat.le_of_ble_eq_true rfl⟩ ⟨Nat.le_of_ble_eq_true rfl, Nat.le_of_ble_eq_true rfl⟩ ?_
  refine r_aload_n C dX4_shield_4 rfl rfl ?_
  refine r_get C flX4_19 dX4_shield_5 (by omega) xput_0 rfl ?_
  refine r_aload_n C dX4_shield_8 rfl rfl ?_
  refine r_get C flX4_10 dX4_shield_9 (by omega) xput_0 rfl ?_
  refine r_cVv C cwX4_45 (liftXv (c_X2_push (s := s) (by omega) (by omega) (by omega) (by omega) hs (xput_s s))) dX4_shield_12 rfl (by omega) xput_sv rfl rfl rfl (Nat.le_of_ble_eq_true rfl) ⟨Nat.le_of_ble_eq_true rfl, Nat.le_of_ble_eq_true rfl⟩ ⟨Nat.le_of_ble_eq_true rfl, Nat.le_of_ble_eq_true rfl⟩ ?_
  refine r_aload_n C dX4_shield_15 rfl rfl ?_
  refine r_get C flX4_10 dX4_shield_16 (by omega) xput_0 rfl ?_
  refine r_iload_n C dX4_shield_19 rfl rfl ?_
  refine r_cV C cwX4_76 (liftXs (c_X3_roomAt0 (by omega) (by omega))) dX4_shield_20 rfl (by omega) xput_st rfl rfl rfl (Nat.le_of_ble_eq_true rfl) ⟨Nat.le_of_ble_eq_true rfl, Nat.le_of_ble_eq_true rfl⟩ ⟨Nat.le_of_ble_eq_true rfl, Nat.le_of_ble_eq_true rfl⟩ ?_
  refine r_astore_n C dX4_shield_23 rfl (Nat.le_of_ble_eq_true rfl) rfl ?_
  dsimp only [List.set]
  refine r_aload_n C dX4_shield_24 rfl rfl ?_
  refine r_get C flX4_90 dX4_shield_25 (by omega) (xput_rm (by omega)) rfl ?_
  refine r_istore C dX4_shield_28 (Nat.le_of_ble_eq_true rfl) rfl ?_
  dsimp only [List.set]
  refine r_aload_n C dX4_shield_30 rfl rfl ?_
  refine r_iload_n C dX4_shield_31 rfl rfl ?_
  refine V_xs ?_
  refine sr_put (j := 3) C flX4_90 dX4_shield_32 (by omega) (by omega) (by decide) rfl (by decide) rfl (gI_z (by omega)) (gI_f (by omega)) ?_
  refine V_xr ?_
  refine r_iload C dX4_shield_35 rfl ?_
  refine r_cS C cwX4_86 (c_X4_asNumber (by omega)) dX4_shield_37 rfl rfl rfl (Nat.le_of_ble_eq_true rfl) ⟨Nat.le_of_ble_eq_true rfl, Nat.le_of_ble_eq_true rfl⟩ ⟨Nat.le_of_ble_eq_true rfl, Nat.le_of_ble_eq_true rfl⟩ ?_
  exact r_iretD C dX4_shield_40 rfl rfl

set_option maxRecDepth 100000 in
set_option maxHeartbeats 4000000 in
theorem c_X4_draught {l : Launch} {D : va_G} {ty : Nat → ClassId} {ad : Int → Nat} {N : Int} {σ : Int → va_E} {x n k len : Int} {u : Int → Int → Int} {s tx : Int → Int} {r t : Int} (hx : 0 ≤ x ∧ x + 145 ≤ N) (ho : okX s n u len tx) (hr : 0 ≤ r ∧ r < 6) (ht2 : 1 ≤ t ∧ t ≤ 6) : gM0 l yX4_draught cX4_draught 3 (some .int) 7 220 [.ref (ad x), .int (gI r), .int (gI t)] D ty ad N (xput ad ty σ x s n k u len tx) (some (.int (gI (cbF (draS s r t) r (blown (draS s r t)))))) (xput ad ty σ x (draS s r t) (pshN n) (pshK n k) (pshU n k u s) (len) (tx)) := by
  refine gMet_of [some (.ref (ad x)), some (.int (gI r)), some (.int (gI t))] (by decide +kernel) rfl (Nat.le_of_ble_eq_true rfl) rfl ?_
  intro X hl hD hty C hini
  subst hl hD hty
  have hs := ho.1
  have hn := ho.2.1
  have ht := ho.2.2.2
  have hlen := ht.1
  refine r_iload_n C dX4_draught_0 rfl rfl ?_
  refine r_cSv C cwX4_30 (c_X4_requireRoom (by omega)) dX4_draught_1 rfl rfl rfl (Nat.le_of_ble_eq_true rfl) ⟨Nat.le_of_ble_eq_true rfl, Nat.le_of_ble_eq_true rfl⟩ ⟨Nat.le_of_ble_eq_true rfl, Nat.le_of_ble_eq_true rfl⟩ ?_
  refine r_iload_n C dX4_draught_4 rfl rfl ?_
  refine r_iconst C dX4_draught_5 ?_
  refine r_icmp_lt (tgt := 15) C dX4_draught_6 (by decide) (by omega) (by omega) (fun h6 => ?_) (fun h6 => ?_)
  · exact absurd h6 (by omega)
  · refine r_iload_n C dX4_draught_9 rfl rfl ?_
    refine r_bipush C dX4_draught_10 (by decide) ?_
    refine r_icmp_le (tgt := 25) C dX4_draught_12 (by decide) (by omega) (by omega) (fun h12 => ?_) (fun h12 => ?_)
    · refine r_aload_n C dX4_draught_25 rfl rfl ?_
      refine r_get C flX4_19 dX4_draught_26 (by omega) xput_0 rfl ?_
      refine r_aload_n C dX4_draught_29 rfl rfl ?_
      refine r_get C flX4_10 dX4_draught_30 (by omega) xput_0 rfl ?_
      refine r_cVv C cwX4_45 (liftXv (c_X2_push (s := s) (by omega) (by omega) (by omega) (by omega) hs (xput_s s))) dX4_draught_33 rfl (by omega) xput_sv rfl rfl rfl (Nat.le_of_ble_eq_true rfl) ⟨Nat.le_of_ble_eq_true rfl, Nat.le_of_ble_eq_true rfl⟩ ⟨Nat.le_of_ble_eq_true rfl, Nat.le_of_ble_eq_true rfl⟩ ?_
      refine r_aload_n C dX4_draught_36 rfl rfl ?_
      refine r_get C flX4_10 dX4_draught_37 (by omega) xput_0 rfl ?_
      refine r_iload_n C dX4_draught_40 rfl rfl ?_
      refine r_iload_n C dX4_draught_41 rfl rfl ?_
      refine r_cV C cwX4_98 (liftXs (c_X3_beginDraught (by omega) hs (by omega) (by omega))) dX4_draught_42 rfl (by omega) xput_st rfl rfl rfl (Nat.le_of_ble_eq_true rfl) ⟨Nat.le_of_ble_eq_true rfl, Nat.le_of_ble_eq_true rfl⟩ ⟨Nat.le_of_ble_eq_true rfl, Nat.le_of_ble_eq_true rfl⟩ ?_
      exact r_iretD C dX4_draught_45 rfl rfl
    · exact absurd h12 (by omega)

set_option maxRecDepth 100000 in
set_option maxHeartbeats 4000000 in
theorem c_X4_set {l : Launch} {D : va_G} {ty : Nat → ClassId} {ad : Int → Nat} {N : Int} {σ : Int → va_E} {x n k len : Int} {u : Int → Int → Int} {s tx : Int → Int} {z : Int} (hx : 0 ≤ x ∧ x + 145 ≤ N) (ho : okX s n u len tx) (hz : 1 ≤ z ∧ z ≤ 50) : gM0 l yX4_set cX4_set 3 (some .int) 6 200 [.ref (ad x), .int (gI z)] D ty ad N (xput ad ty σ x s n k u len tx) (some (.int (gI (s 0)))) (xput ad ty σ x (up s 0 z) (pshN n) (pshK n k) (pshU n k u s) (len) (tx)) := by
  refine gMet_of [some (.ref (ad x)), some (.int (gI z)), none] (by decide +kernel) rfl (Nat.le_of_ble_eq_true rfl) rfl ?_
  intro X hl hD hty C hini
  subst hl hD hty
  have hs := ho.1
  have hn := ho.2.1
  have ht := ho.2.2.2
  have hlen := ht.1
  refine r_iload_n C dX4_set_0 rfl rfl ?_
  refine r_iconst C dX4_set_1 ?_
  refine r_icmp_lt (tgt := 11) C dX4_set_2 (by decide) (by omega) (by omega) (fun h2 => ?_) (fun h2 => ?_)
  · exact absurd h2 (by omega)
  · refine r_iload_n C dX4_set_5 rfl rfl ?_
    refine r_bipush C dX4_set_6 (by decide) ?_
    refine r_icmp_le (tgt := 21) C dX4_set_8 (by decide) (by omega) (by omega) (fun h8 => ?_) (fun h8 => ?_)
    · refine r_aload_n C dX4_set_21 rfl rfl ?_
      refine r_get C flX4_19 dX4_set_22 (by omega) xput_0 rfl ?_
      refine r_aload_n C dX4_set_25 rfl rfl ?_
      refine r_get C flX4_10 dX4_set_26 (by omega) xput_0 rfl ?_
      refine r_cVv C cwX4_45 (liftXv (c_X2_push (s := s) (by omega) (by omega) (by omega) (by omega) hs (xput_s s))) dX4_set_29 rfl (by omega) xput_sv rfl rfl rfl (Nat.le_of_ble_eq_true rfl) ⟨Nat.le_of_ble_eq_true rfl, Nat.le_of_ble_eq_true rfl⟩ ⟨Nat.le_of_ble_eq_true rfl, Nat.le_of_ble_eq_true rfl⟩ ?_
      refine r_aload_n C dX4_set_32 rfl rfl ?_
      refine r_get C flX4_10 dX4_set_33 (by omega) xput_0 rfl ?_
      refine r_get C flX4_104 dX4_set_36 (by omega) xput_st rfl ?_
      refine r_istore_n C dX4_set_39 rfl (Nat.le_of_ble_eq_true rfl) rfl ?_
      dsimp only [List.set]
      refine r_aload_n C dX4_set_40 rfl rfl ?_
      refine r_get C flX4_10 dX4_set_41 (by omega) xput_0 rfl ?_
      refine r_iload_n C dX4_set_44 rfl rfl ?_
      refine V_xs ?_
      refine ss_put (j := 0) C flX4_104 dX4_set_45 (by omega) (by decide) rfl rfl rfl rfl ?_
      refine V_xr ?_
      refine r_iload_n C dX4_set_48 rfl rfl ?_
      exact r_iretD C dX4_set_49 rfl rfl
    · exact absurd h8 (by omega)

set_option maxRecDepth 100000 in
set_option maxHeartbeats 4000000 in
theorem c_X4_keep {l : Launch} {D : va_G} {ty : Nat → ClassId} {ad : Int → Nat} {N : Int} {σ : Int → va_E} {x n k len : Int} {u : Int → Int → Int} {s tx : Int → Int} {r key : Int} (hx : 0 ≤ x ∧ x + 145 ≤ N) (ho : okX s n u len tx) (hr : 0 ≤ r ∧ r < 6) (hk : 0 ≤ key ∧ key < 100) (hm : mayK s r key) : gM0 l yX4_keep cX4_keep 3 (some .int) 7 220 [.ref (ad x), .int (gI r), .int (gI key)] D ty ad N (xput ad ty σ x s n k u len tx) (some (.int (gI (rm s r 6 + 1)))) (xput ad ty σ x (keepS s r key) (pshN n) (pshK n k) (pshU n k u s) (len) (tx)) := by
  refine gMet_of [some (.ref (ad x)), some (.int (gI r)), some (.int (gI key))] (by decide +kernel) rfl (Nat.le_of_ble_eq_true rfl) rfl ?_
  intro X hl hD hty C hini
  subst hl hD hty
  have hs := ho.1
  have hn := ho.2.1
  have ht := ho.2.2.2
  have hlen := ht.1
  have hqm := (hs.rm hr).many
  have hm2 := hm.2
  refine r_iload_n C dX4_keep_0 rfl rfl ?_
  refine r_cSv C cwX4_30 (c_X4_requireRoom (by omega)) dX4_keep_1 rfl rfl rfl (Nat.le_of_ble_eq_true rfl) ⟨Nat.le_of_ble_eq_true rfl, Nat.le_of_ble_eq_true rfl⟩ ⟨Nat.le_of_ble_eq_true rfl, Nat.le_of_ble_eq_true rfl⟩ ?_
  refine r_iload_n C dX4_keep_4 rfl rfl ?_
  refine r_cSv C cwX4_108 (c_X4_requireKey (by omega)) dX4_keep_5 rfl rfl rfl (Nat.le_of_ble_eq_true rfl) ⟨Nat.le_of_ble_eq_true rfl, Nat.le_of_ble_eq_true rfl⟩ ⟨Nat.le_of_ble_eq_true rfl, Nat.le_of_ble_eq_true rfl⟩ ?_
  refine r_aload_n C dX4_keep_8 rfl rfl ?_
  refine r_get C flX4_10 dX4_keep_9 (by omega) xput_0 rfl ?_
  refine r_iload_n C dX4_keep_12 rfl rfl ?_
  refine r_iload_n C dX4_keep_13 rfl rfl ?_
  refine r_cV C cwX4_111 (liftXs (c_X3_canKeep (by omega) hs (by omega) (by omega))) dX4_keep_14 rfl (by omega) xput_st rfl rfl rfl (Nat.le_of_ble_eq_true rfl) ⟨Nat.le_of_ble_eq_true rfl, Nat.le_of_ble_eq_true rfl⟩ ⟨Nat.le_of_ble_eq_true rfl, Nat.le_of_ble_eq_true rfl⟩ ?_
  refine r_ifb_ne (tgt := 30) C dX4_keep_17 (by decide) (fun h17 => ?_) (fun h17 => ?_)
  · refine r_aload_n C dX4_keep_30 rfl rfl ?_
    refine r_get C flX4_19 dX4_keep_31 (by omega) xput_0 rfl ?_
    refine r_aload_n C dX4_keep_34 rfl rfl ?_
    refine r_get C flX4_10 dX4_keep_35 (by omega) xput_0 rfl ?_
    refine r_cVv C cwX4_45 (liftXv (c_X2_push (s := s) (by omega) (by omega) (by omega) (by omega) hs (xput_s s))) dX4_keep_38 rfl (by omega) xput_sv rfl rfl rfl (Nat.le_of_ble_eq_true rfl) ⟨Nat.le_of_ble_eq_true rfl, Nat.le_of_ble_eq_true rfl⟩ ⟨Nat.le_of_ble_eq_true rfl, Nat.le_of_ble_eq_true rfl⟩ ?_
    refine r_aload_n C dX4_keep_41 rfl rfl ?_
    refine r_get C flX4_10 dX4_keep_42 (by omega) xput_0 rfl ?_
    refine r_iload_n C dX4_keep_45 rfl rfl ?_
    refine r_iload_n C dX4_keep_46 rfl rfl ?_
    refine r_cV C cwX4_116 (liftXs (c_X3_putThing (by omega) (by omega) (by omega))) dX4_keep_47 rfl (by omega) xput_st rfl rfl rfl (Nat.le_of_ble_eq_true rfl) ⟨Nat.le_of_ble_eq_true rfl, Nat.le_of_ble_eq_true rfl⟩ ⟨Nat.le_of_ble_eq_true rfl, Nat.le_of_ble_eq_true rfl⟩ ?_
    exact r_iretD C dX4_keep_50 rfl rfl
  · exact absurd hm h17

set_option maxRecDepth 100000 in
set_option maxHeartbeats 4000000 in
theorem c_X4_read {l : Launch} {D : va_G} {ty : Nat → ClassId} {ad : Int → Nat} {N : Int} {σ : Int → va_E} {x n k len : Int} {u : Int → Int → Int} {s tx : Int → Int} {key : Int} (hx : 0 ≤ x ∧ x + 145 ≤ N) (ho : okX s n u len tx) (hk : 0 ≤ key ∧ key < 100) : gM0 l yX4_read cX4_read 2 (some .int) 7 220 [.ref (ad x), .int (gI key)] D ty ad N (xput ad ty σ x s n k u len tx) (some (.int (gI (rof s key)))) (xput ad ty σ x (rdS s key) (pshN n) (pshK n k) (pshU n k u s) (len) (tx)) := by
  refine gMet_of [some (.ref (ad x)), some (.int (gI key))] (by decide +kernel) rfl (Nat.le_of_ble_eq_true rfl) rfl ?_
  intro X hl hD hty C hini
  subst hl hD hty
  have hs := ho.1
  have hn := ho.2.1
  have ht := ho.2.2.2
  have hlen := ht.1
  refine r_iload_n C dX4_read_0 rfl rfl ?_
  refine r_cSv C cwX4_108 (c_X4_requireKey (by omega)) dX4_read_1 rfl rfl rfl (Nat.le_of_ble_eq_true rfl) ⟨Nat.le_of_ble_eq_true rfl, Nat.le_of_ble_eq_true rfl⟩ ⟨Nat.le_of_ble_eq_true rfl, Nat.le_of_ble_eq_true rfl⟩ ?_
  refine r_aload_n C dX4_read_4 rfl rfl ?_
  refine r_get C flX4_19 dX4_read_5 (by omega) xput_0 rfl ?_
  refine r_aload_n C dX4_read_8 rfl rfl ?_
  refine r_get C flX4_10 dX4_read_9 (by omega) xput_0 rfl ?_
  refine r_cVv C cwX4_45 (liftXv (c_X2_push (s := s) (by omega) (by omega) (by omega) (by omega) hs (xput_s s))) dX4_read_12 rfl (by omega) xput_sv rfl rfl rfl (Nat.le_of_ble_eq_true rfl) ⟨Nat.le_of_ble_eq_true rfl, Nat.le_of_ble_eq_true rfl⟩ ⟨Nat.le_of_ble_eq_true rfl, Nat.le_of_ble_eq_true rfl⟩ ?_
  refine r_aload_n C dX4_read_15 rfl rfl ?_
  refine r_get C flX4_10 dX4_read_16 (by omega) xput_0 rfl ?_
  refine r_iload_n C dX4_read_19 rfl rfl ?_
  refine r_cV C cwX4_119 (liftXs (c_X3_readThing (by omega) hs (by omega))) dX4_read_20 rfl (by omega) xput_st rfl rfl rfl (Nat.le_of_ble_eq_true rfl) ⟨Nat.le_of_ble_eq_true rfl, Nat.le_of_ble_eq_true rfl⟩ ⟨Nat.le_of_ble_eq_true rfl, Nat.le_of_ble_eq_true rfl⟩ ?_
  exact r_iretD C dX4_read_23 rfl rfl

set_option maxRecDepth 100000 in
set_option maxHeartbeats 4000000 in
theorem c_X4_pass {l : Launch} {D : va_G} {ty : Nat → ClassId} {ad : Int → Nat} {N : Int} {σ : Int → va_E} {x n k len : Int} {u : Int → Int → Int} {s tx : Int → Int} {z : Int} (hx : 0 ≤ x ∧ x + 145 ≤ N) (ho : okX s n u len tx) (hz : 1 ≤ z ∧ z ≤ 60) : gM0 l yX4_pass cX4_pass 2 (some .int) 6 200 [.ref (ad x), .int (gI z)] D ty ad N (xput ad ty σ x s n k u len tx) (some (.int (gI (bts z.toNat s 0).2))) (xput ad ty σ x ((bts z.toNat s 0).1) (pshN n) (pshK n k) (pshU n k u s) (len) (tx)) := by
  refine gMet_of [some (.ref (ad x)), some (.int (gI z))] (by decide +kernel) rfl (Nat.le_of_ble_eq_true rfl) rfl ?_
  intro X hl hD hty C hini
  subst hl hD hty
  have hs := ho.1
  have hn := ho.2.1
  have ht := ho.2.2.2
  have hlen := ht.1
  refine r_iload_n C dX4_pass_0 rfl rfl ?_
  refine r_iconst C dX4_pass_1 ?_
  refine r_icmp_lt (tgt := 11) C dX4_pass_2 (by decide) (by omega) (by omega) (fun h2 => ?_) (fun h2 => ?_)
  · exact absurd h2 (by omega)
  · refine r_iload_n C dX4_pass_5 rfl rfl ?_
    refine r_bipush C dX4_pass_6 (by decide) ?_
    refine r_icmp_le (tgt := 21) C dX4_pass_8 (by decide) (by omega) (by omega) (fun h8 => ?_) (fun h8 => ?_)
    · refine r_aload_n C dX4_pass_21 rfl rfl ?_
      refine r_get C flX4_19 dX4_pass_22 (by omega) xput_0 rfl ?_
      refine r_aload_n C dX4_pass_25 rfl rfl ?_
      refine r_get C flX4_10 dX4_pass_26 (by omega) xput_0 rfl ?_
      refine r_cVv C cwX4_45 (liftXv (c_X2_push (s := s) (by omega) (by omega) (by omega) (by omega) hs (xput_s s))) dX4_pass_29 rfl (by omega) xput_sv rfl rfl rfl (Nat.le_of_ble_eq_true rfl) ⟨Nat.le_of_ble_eq_true rfl, Nat.le_of_ble_eq_true rfl⟩ ⟨Nat.le_of_ble_eq_true rfl, Nat.le_of_ble_eq_true rfl⟩ ?_
      refine r_aload_n C dX4_pass_32 rfl rfl ?_
      refine r_get C flX4_10 dX4_pass_33 (by omega) xput_0 rfl ?_
      refine r_iload_n C dX4_pass_36 rfl rfl ?_
      refine r_cV C cwX4_124 (liftXs (c_X3_passBeats (by omega) hs (by omega))) dX4_pass_37 rfl (by omega) xput_st rfl rfl rfl (Nat.le_of_ble_eq_true rfl) ⟨Nat.le_of_ble_eq_true rfl, Nat.le_of_ble_eq_true rfl⟩ ⟨Nat.le_of_ble_eq_true rfl, Nat.le_of_ble_eq_true rfl⟩ ?_
      exact r_iretD C dX4_pass_40 rfl rfl
    · exact absurd h8 (by omega)

set_option maxRecDepth 100000 in
set_option maxHeartbeats 4000000 in
theorem c_X4_undo {l : Launch} {D : va_G} {ty : Nat → ClassId} {ad : Int → Nat} {N : Int} {σ : Int → va_E} {x n k len : Int} {u : Int → Int → Int} {s tx : Int → Int} (hx : 0 ≤ x ∧ x + 145 ≤ N) (ho : okX s n u len tx) (hn1 : 1 ≤ n) : gM0 l yX4_undo cX4_undo 1 (some .int) 6 200 [.ref (ad x)] D ty ad N (xput ad ty σ x s n k u len tx) (some (.int (gI (n - 1)))) (xput ad ty σ x (u ((n - 1 + k) % 6)) (n - 1) k u len tx) := by
  refine gMet_of [some (.ref (ad x))] (by decide +kernel) rfl (Nat.le_of_ble_eq_true rfl) rfl ?_
  intro X hl hD hty C hini
  subst hl hD hty
  have hs := ho.1
  have hn := ho.2.1
  have ht := ho.2.2.2
  have hlen := ht.1
  have hu := ho.2.2.1 ((n - 1 + k) % 6) (by omega) (by omega)
  refine r_aload_n C dX4_undo_0 rfl rfl ?_
  refine r_get C flX4_19 dX4_undo_1 (by omega) xput_0 rfl ?_
  refine r_get C flX4_153 dX4_undo_4 (by omega) xput_sv rfl ?_
  refine r_if_ne (tgt := 20) C dX4_undo_7 (by decide) (by omega) (fun h7 => ?_) (fun h7 => ?_)
  · refine r_aload_n C dX4_undo_20 rfl rfl ?_
    refine r_get C flX4_19 dX4_undo_21 (by omega) xput_0 rfl ?_
    refine r_aload_n C dX4_undo_24 rfl rfl ?_
    refine r_get C flX4_10 dX4_undo_25 (by omega) xput_0 rfl ?_
    refine r_cV C cwX4_158 (liftXp (c_X2_popInto (by omega) (by omega) (by omega) (by omega) hu)) dX4_undo_28 rfl (by omega) xput_sv rfl rfl rfl (Nat.le_of_ble_eq_true rfl) ⟨Nat.le_of_ble_eq_true rfl, Nat.le_of_ble_eq_true rfl⟩ ⟨Nat.le_of_ble_eq_true rfl, Nat.le_of_ble_eq_true rfl⟩ ?_
    exact r_iretD C dX4_undo_31 rfl rfl
  · exact absurd h7 (by omega)

set_option maxRecDepth 100000 in
set_option maxHeartbeats 4000000 in
theorem c_X4_room {l : Launch} {D : va_G} {ty : Nat → ClassId} {ad : Int → Nat} {N : Int} {σ : Int → va_E} {x n k len : Int} {u : Int → Int → Int} {s tx : Int → Int} {r w : Int} (hx : 0 ≤ x ∧ x + 145 ≤ N) (ho : okX s n u len tx) (hr : 0 ≤ r ∧ r < 6) (hw : 0 ≤ w ∧ w < 8) : gM0 l yX4_room cX4_room 3 (some .int) 7 221 [.ref (ad x), .int (gI r), .int (gI w)] D ty ad N (xput ad ty σ x s n k u len tx) (some (.int (gI (numR (rm s r) w)))) (xput ad ty σ x s n k u len tx) := by
  refine gMet_of [some (.ref (ad x)), some (.int (gI r)), some (.int (gI w))] (by decide +kernel) rfl (Nat.le_of_ble_eq_true rfl) rfl ?_
  intro X hl hD hty C hini
  subst hl hD hty
  have hs := ho.1
  have hn := ho.2.1
  have ht := ho.2.2.2
  have hlen := ht.1
  have hq := hs.rm hr
  have hqm := hq.many
  refine r_iload_n C dX4_room_0 rfl rfl ?_
  refine r_cSv C cwX4_30 (c_X4_requireRoom (by omega)) dX4_room_1 rfl rfl rfl (Nat.le_of_ble_eq_true rfl) ⟨Nat.le_of_ble_eq_true rfl, Nat.le_of_ble_eq_true rfl⟩ ⟨Nat.le_of_ble_eq_true rfl, Nat.le_of_ble_eq_true rfl⟩ ?_
  refine r_iload_n C dX4_room_4 rfl rfl ?_
  refine r_bipush C dX4_room_5 (by decide) ?_
  refine r_cSv C cwX4_162 (c_X4_requireNumber (by omega) (by omega)) dX4_room_7 rfl rfl rfl (Nat.le_of_ble_eq_true rfl) ⟨Nat.le_of_ble_eq_true rfl, Nat.le_of_ble_eq_true rfl⟩ ⟨Nat.le_of_ble_eq_true rfl, Nat.le_of_ble_eq_true rfl⟩ ?_
  refine r_aload_n C dX4_room_10 rfl rfl ?_
  refine r_get C flX4_10 dX4_room_11 (by omega) xput_0 rfl ?_
  refine r_iload_n C dX4_room_14 rfl rfl ?_
  refine r_cV C cwX4_76 (liftXs (c_X3_roomAt0 (by omega) (by omega))) dX4_room_15 rfl (by omega) xput_st rfl rfl rfl (Nat.le_of_ble_eq_true rfl) ⟨Nat.le_of_ble_eq_true rfl, Nat.le_of_ble_eq_true rfl⟩ ⟨Nat.le_of_ble_eq_true rfl, Nat.le_of_ble_eq_true rfl⟩ ?_
  refine r_iload_n C dX4_room_18 rfl rfl ?_
  refine r_cV C cwX4_166 (liftXs (lift0 hr (c_X1_number (by omega) hw hqm hq.bur hq.shi hq.door))) dX4_room_19 rfl (by omega) (xput_rm (by omega)) rfl rfl rfl (Nat.le_of_ble_eq_true rfl) ⟨Nat.le_of_ble_eq_true rfl, Nat.le_of_ble_eq_true rfl⟩ ⟨Nat.le_of_ble_eq_true rfl, Nat.le_of_ble_eq_true rfl⟩ ?_
  exact r_iretD C dX4_room_22 rfl rfl

set_option maxRecDepth 100000 in
set_option maxHeartbeats 4000000 in
theorem c_X4_thing {l : Launch} {D : va_G} {ty : Nat → ClassId} {ad : Int → Nat} {N : Int} {σ : Int → va_E} {x n k len : Int} {u : Int → Int → Int} {s tx : Int → Int} {key w : Int} (hx : 0 ≤ x ∧ x + 145 ≤ N) (ho : okX s n u len tx) (hk : 0 ≤ key ∧ key < 100) (hw : 0 ≤ w ∧ w < 3) : gM0 l yX4_thing cX4_thing 3 (some .int) 7 221 [.ref (ad x), .int (gI key), .int (gI w)] D ty ad N (xput ad ty σ x s n k u len tx) (some (.int (gI (thn s key w)))) (xput ad ty σ x s n k u len tx) := by
  refine gMet_of [some (.ref (ad x)), some (.int (gI key)), some (.int (gI w))] (by decide +kernel) rfl (Nat.le_of_ble_eq_true rfl) rfl ?_
  intro X hl hD hty C hini
  subst hl hD hty
  have hs := ho.1
  have hn := ho.2.1
  have ht := ho.2.2.2
  have hlen := ht.1
  refine r_iload_n C dX4_thing_0 rfl rfl ?_
  refine r_cSv C cwX4_108 (c_X4_requireKey (by omega)) dX4_thing_1 rfl rfl rfl (Nat.le_of_ble_eq_true rfl) ⟨Nat.le_of_ble_eq_true rfl, Nat.le_of_ble_eq_true rfl⟩ ⟨Nat.le_of_ble_eq_true rfl, Nat.le_of_ble_eq_true rfl⟩ ?_
  refine r_iload_n C dX4_thing_4 rfl rfl ?_
  refine r_iconst C dX4_thing_5 ?_
  refine r_cSv C cwX4_162 (c_X4_requireNumber (by omega) (by omega)) dX4_thing_6 rfl rfl rfl (Nat.le_of_ble_eq_true rfl) ⟨Nat.le_of_ble_eq_true rfl, Nat.le_of_ble_eq_true rfl⟩ ⟨Nat.le_of_ble_eq_true rfl, Nat.le_of_ble_eq_true rfl⟩ ?_
  refine r_aload_n C dX4_thing_9 rfl rfl ?_
  refine r_get C flX4_10 dX4_thing_10 (by omega) xput_0 rfl ?_
  refine r_iload_n C dX4_thing_13 rfl rfl ?_
  refine r_iload_n C dX4_thing_14 rfl rfl ?_
  refine r_cV C cwX4_169 (liftXs (c_X3_thingNumber (by omega) hs (by omega) (by omega))) dX4_thing_15 rfl (by omega) xput_st rfl rfl rfl (Nat.le_of_ble_eq_true rfl) ⟨Nat.le_of_ble_eq_true rfl, Nat.le_of_ble_eq_true rfl⟩ ⟨Nat.le_of_ble_eq_true rfl, Nat.le_of_ble_eq_true rfl⟩ ?_
  exact r_iretD C dX4_thing_18 rfl rfl

def cntX (s : Int → Int) (n w : Int) : Int := if w = 0 then s 2 else if w = 1 then s 1 else if w = 2 then cb s else if w = 3 then thg s else if w = 4 then s 3 else if w = 5 then s 4 else if w = 6 then s 5 else if w = 7 then s 6 else if w = 8 then s 7 else if w = 9 then s 8 else if w = 10 then s 0 else n
set_option maxRecDepth 100000 in
set_option maxHeartbeats 4000000 in
theorem c_X4_countNumber {l : Launch} {D : va_G} {ty : Nat → ClassId} {ad : Int → Nat} {N : Int} {σ : Int → va_E} {x n k len : Int} {u : Int → Int → Int} {s tx : Int → Int} {w : Int} (hx : 0 ≤ x ∧ x + 145 ≤ N) (ho : okX s n u len tx) (hw0 : 0 ≤ w ∧ w < 12) : gM0 l yX4_countNumber cX4_countNumber 2 (some .int) 2 42 [.ref (ad x), .int (gI w)] D ty ad N (xput ad ty σ x s n k u len tx) (some (.int (gI (cntX s n w)))) (xput ad ty σ x s n k u len tx) := by
  refine gMet_of [some (.ref (ad x)), some (.int (gI w))] (by decide +kernel) rfl (Nat.le_of_ble_eq_true rfl) rfl ?_
  intro X hl hD hty C hini
  subst hl hD hty
  have hs := ho.1
  have hn := ho.2.1
  have ht := ho.2.2.2
  have hlen := ht.1
  refine r_iload_n C dX4_countNumber_0 rfl rfl ?_
  rcases (show (w = 0 ∨ w = 1 ∨ w = 2 ∨ w = 3 ∨ w = 4 ∨ w = 5 ∨ w = 6 ∨ w = 7 ∨ w = 8 ∨ w = 9 ∨ w = 10) ∨ (w < 0 ∨ 10 < w) by omega) with (hw | hw | hw | hw | hw | hw | hw | hw | hw | hw | hw) | hw
  · refine r_tabIn (tgt := 60) C dX4_countNumber_1 (by omega) (by omega) (by omega) (by rw [hw]; rfl) (by decide) ?_
    refine r_aload_n C dX4_countNumber_60 rfl rfl ?_
    refine r_get C flX4_10 dX4_countNumber_61 (by omega) xput_0 rfl ?_
    refine r_get C flX4_220 dX4_countNumber_64 (by omega) xput_st rfl ?_
    exact r_iretD C dX4_countNumber_67 (by first | (subst hw; rfl) | (rw [show w = 11 by omega]; rfl)) rfl
  · refine r_tabIn (tgt := 68) C dX4_countNumber_1 (by omega) (by omega) (by omega) (by rw [hw]; rfl) (by decide) ?_
    refine r_aload_n C dX4_countNumber_68 rfl rfl ?_
    refine r_get C flX4_10 dX4_countNumber_69 (by omega) xput_0 rfl ?_
    refine r_get C flX4_223 dX4_countNumber_72 (by omega) xput_st rfl ?_
    exact r_iretD C dX4_countNumber_75 (by first | (subst hw; rfl) | (rw [show w = 11 by omega]; rfl)) rfl
  · refine r_tabIn (tgt := 76) C dX4_countNumber_1 (by omega) (by omega) (by omega) (by rw [hw]; rfl) (by decide) ?_
    refine r_aload_n C dX4_countNumber_76 rfl rfl ?_
    refine r_get C flX4_10 dX4_countNumber_77 (by omega) xput_0 rfl ?_
    refine r_cV C cwX4_226 (liftXs (c_X3_candlesBurning (by omega) hs)) dX4_countNumber_80 rfl (by omega) xput_st rfl rfl rfl (Nat.le_of_ble_eq_true rfl) ⟨Nat.le_of_ble_eq_true rfl, Nat.le_of_ble_eq_true rfl⟩ ⟨Nat.le_of_ble_eq_true rfl, Nat.le_of_ble_eq_true rfl⟩ ?_
    exact r_iretD C dX4_countNumber_83 (by first | (subst hw; rfl) | (rw [show w = 11 by omega]; rfl)) rfl
  · refine r_tabIn (tgt := 84) C dX4_countNumber_1 (by omega) (by omega) (by omega) (by rw [hw]; rfl) (by decide) ?_
    refine r_aload_n C dX4_countNumber_84 rfl rfl ?_
    refine r_get C flX4_10 dX4_countNumber_85 (by omega) xput_0 rfl ?_
    refine r_cV C cwX4_229 (liftXs (c_X3_thingsInAll (by omega) hs)) dX4_countNumber_88 rfl (by omega) xput_st rfl rfl rfl (Nat.le_of_ble_eq_true rfl) ⟨Nat.le_of_ble_eq_true rfl, Nat.le_of_ble_eq_true rfl⟩ ⟨Nat.le_of_ble_eq_true rfl, Nat.le_of_ble_eq_true rfl⟩ ?_
    exact r_iretD C dX4_countNumber_91 (by first | (subst hw; rfl) | (rw [show w = 11 by omega]; rfl)) rfl
  · refine r_tabIn (tgt := 92) C dX4_countNumber_1 (by omega) (by omega) (by omega) (by rw [hw]; rfl) (by decide) ?_
    refine r_aload_n C dX4_countNumber_92 rfl rfl ?_
    refine r_get C flX4_10 dX4_countNumber_93 (by omega) xput_0 rfl ?_
    refine r_get C flX4_232 dX4_countNumber_96 (by omega) xput_st rfl ?_
    exact r_iretD C dX4_countNumber_99 (by first | (subst hw; rfl) | (rw [show w = 11 by omega]; rfl)) rfl
  · refine r_tabIn (tgt := 100) C dX4_countNumber_1 (by omega) (by omega) (by omega) (by rw [hw]; rfl) (by decide) ?_
    refine r_aload_n C dX4_countNumber_100 rfl rfl ?_
    refine r_get C flX4_10 dX4_countNumber_101 (by omega) xput_0 rfl ?_
    refine r_get C flX4_235 dX4_countNumber_104 (by omega) xput_st rfl ?_
    exact r_iretD C dX4_countNumber_107 (by first | (subst hw; rfl) | (rw [show w = 11 by omega]; rfl)) rfl
  · refine r_tabIn (tgt := 108) C dX4_countNumber_1 (by omega) (by omega) (by omega) (by rw [hw]; rfl) (by decide) ?_
    refine r_aload_n C dX4_countNumber_108 rfl rfl ?_
    refine r_get C flX4_10 dX4_countNumber_109 (by omega) xput_0 rfl ?_
    refine r_get C flX4_238 dX4_countNumber_112 (by omega) xput_st rfl ?_
    exact r_iretD C dX4_countNumber_115 (by first | (subst hw; rfl) | (rw [show w = 11 by omega]; rfl)) rfl
  · refine r_tabIn (tgt := 116) C dX4_countNumber_1 (by omega) (by omega) (by omega) (by rw [hw]; rfl) (by decide) ?_
    refine r_aload_n C dX4_countNumber_116 rfl rfl ?_
    refine r_get C flX4_10 dX4_countNumber_117 (by omega) xput_0 rfl ?_
    refine r_get C flX4_241 dX4_countNumber_120 (by omega) xput_st rfl ?_
    exact r_iretD C dX4_countNumber_123 (by first | (subst hw; rfl) | (rw [show w = 11 by omega]; rfl)) rfl
  · refine r_tabIn (tgt := 124) C dX4_countNumber_1 (by omega) (by omega) (by omega) (by rw [hw]; rfl) (by decide) ?_
    refine r_aload_n C dX4_countNumber_124 rfl rfl ?_
    refine r_get C flX4_10 dX4_countNumber_125 (by omega) xput_0 rfl ?_
    refine r_get C flX4_244 dX4_countNumber_128 (by omega) xput_st rfl ?_
    exact r_iretD C dX4_countNumber_131 (by first | (subst hw; rfl) | (rw [show w = 11 by omega]; rfl)) rfl
  · refine r_tabIn (tgt := 132) C dX4_countNumber_1 (by omega) (by omega) (by omega) (by rw [hw]; rfl) (by decide) ?_
    refine r_aload_n C dX4_countNumber_132 rfl rfl ?_
    refine r_get C flX4_10 dX4_countNumber_133 (by omega) xput_0 rfl ?_
    refine r_get C flX4_247 dX4_countNumber_136 (by omega) xput_st rfl ?_
    exact r_iretD C dX4_countNumber_139 (by first | (subst hw; rfl) | (rw [show w = 11 by omega]; rfl)) rfl
  · refine r_tabIn (tgt := 140) C dX4_countNumber_1 (by omega) (by omega) (by omega) (by rw [hw]; rfl) (by decide) ?_
    refine r_aload_n C dX4_countNumber_140 rfl rfl ?_
    refine r_get C flX4_10 dX4_countNumber_141 (by omega) xput_0 rfl ?_
    refine r_get C flX4_104 dX4_countNumber_144 (by omega) xput_st rfl ?_
    exact r_iretD C dX4_countNumber_147 (by first | (subst hw; rfl) | (rw [show w = 11 by omega]; rfl)) rfl
  · refine r_tabOut (tgt := 148) C dX4_countNumber_1 (by omega) hw (by decide) ?_
    refine r_aload_n C dX4_countNumber_148 rfl rfl ?_
    refine r_get C flX4_19 dX4_countNumber_149 (by omega) xput_0 rfl ?_
    refine r_get C flX4_153 dX4_countNumber_152 (by omega) xput_sv rfl ?_
    exact r_iretD C dX4_countNumber_155 (by first | (subst hw; rfl) | (rw [show w = 11 by omega]; rfl)) rfl

set_option maxRecDepth 100000 in
set_option maxHeartbeats 4000000 in
theorem c_X4_count {l : Launch} {D : va_G} {ty : Nat → ClassId} {ad : Int → Nat} {N : Int} {σ : Int → va_E} {x n k len : Int} {u : Int → Int → Int} {s tx : Int → Int} {w : Int} (hx : 0 ≤ x ∧ x + 145 ≤ N) (ho : okX s n u len tx) (hw0 : 0 ≤ w ∧ w < 12) : gM0 l yX4_count cX4_count 2 (some .int) 7 221 [.ref (ad x), .int (gI w)] D ty ad N (xput ad ty σ x s n k u len tx) (some (.int (gI (cntX s n w)))) (xput ad ty σ x s n k u len tx) := by
  refine gMet_of [some (.ref (ad x)), some (.int (gI w))] (by decide +kernel) rfl (Nat.le_of_ble_eq_true rfl) rfl ?_
  intro X hl hD hty C hini
  subst hl hD hty
  have hs := ho.1
  have hn := ho.2.1
  have ht := ho.2.2.2
  have hlen := ht.1
  refine r_iload_n C dX4_count_0 rfl rfl ?_
  refine r_bipush C dX4_count_1 (by decide) ?_
  refine r_cSv C cwX4_162 (c_X4_requireNumber (by omega) (by omega)) dX4_count_3 rfl rfl rfl (Nat.le_of_ble_eq_true rfl) ⟨Nat.le_of_ble_eq_true rfl, Nat.le_of_ble_eq_true rfl⟩ ⟨Nat.le_of_ble_eq_true rfl, Nat.le_of_ble_eq_true rfl⟩ ?_
  refine r_aload_n C dX4_count_6 rfl rfl ?_
  refine r_iload_n C dX4_count_7 rfl rfl ?_
  refine r_cV C cwX4_172 (c_X4_countNumber (by omega) ho (by omega)) dX4_count_8 rfl (by omega) xput_0 rfl rfl rfl (Nat.le_of_ble_eq_true rfl) ⟨Nat.le_of_ble_eq_true rfl, Nat.le_of_ble_eq_true rfl⟩ ⟨Nat.le_of_ble_eq_true rfl, Nat.le_of_ble_eq_true rfl⟩ ?_
  exact r_iretD C dX4_count_11 rfl rfl

set_option maxRecDepth 100000 in
set_option maxHeartbeats 4000000 in
theorem c_X4_lasts {l : Launch} {D : va_G} {ty : Nat → ClassId} {ad : Int → Nat} {N : Int} {σ : Int → va_E} {x n k len : Int} {u : Int → Int → Int} {s tx : Int → Int} {r : Int} (hx : 0 ≤ x ∧ x + 145 ≤ N) (ho : okX s n u len tx) (hr : 0 ≤ r ∧ r < 6) : gM0 l yX4_lasts cX4_lasts 2 (some .int) 7 220 [.ref (ad x), .int (gI r)] D ty ad N (xput ad ty σ x s n k u len tx) (some (.int (gI (blit s r)))) (xput ad ty σ x s n k u len tx) := by
  refine gMet_of [some (.ref (ad x)), some (.int (gI r))] (by decide +kernel) rfl (Nat.le_of_ble_eq_true rfl) rfl ?_
  intro X hl hD hty C hini
  subst hl hD hty
  have hs := ho.1
  have hn := ho.2.1
  have ht := ho.2.2.2
  have hlen := ht.1
  refine r_iload_n C dX4_lasts_0 rfl rfl ?_
  refine r_cSv C cwX4_30 (c_X4_requireRoom (by omega)) dX4_lasts_1 rfl rfl rfl (Nat.le_of_ble_eq_true rfl) ⟨Nat.le_of_ble_eq_true rfl, Nat.le_of_ble_eq_true rfl⟩ ⟨Nat.le_of_ble_eq_true rfl, Nat.le_of_ble_eq_true rfl⟩ ?_
  refine r_aload_n C dX4_lasts_4 rfl rfl ?_
  refine r_get C flX4_10 dX4_lasts_5 (by omega) xput_0 rfl ?_
  refine r_iload_n C dX4_lasts_8 rfl rfl ?_
  refine r_cV C cwX4_175 (liftXs (c_X3_beatsLit (by omega) hs (by omega))) dX4_lasts_9 rfl (by omega) xput_st rfl rfl rfl (Nat.le_of_ble_eq_true rfl) ⟨Nat.le_of_ble_eq_true rfl, Nat.le_of_ble_eq_true rfl⟩ ⟨Nat.le_of_ble_eq_true rfl, Nat.le_of_ble_eq_true rfl⟩ ?_
  exact r_iretD C dX4_lasts_12 rfl rfl

set_option maxRecDepth 100000 in
set_option maxHeartbeats 4000000 in
theorem c_X4_nextForgotten {l : Launch} {D : va_G} {ty : Nat → ClassId} {ad : Int → Nat} {N : Int} {σ : Int → va_E} {x n k len : Int} {u : Int → Int → Int} {s tx : Int → Int} (hx : 0 ≤ x ∧ x + 145 ≤ N) (ho : okX s n u len tx) : gM0 l yX4_nextForgotten cX4_nextForgotten 1 (some .int) 6 131 [.ref (ad x)] D ty ad N (xput ad ty σ x s n k u len tx) (some (.int (gI (nextF s)))) (xput ad ty σ x s n k u len tx) := by
  refine gMet_of [some (.ref (ad x))] (by decide +kernel) rfl (Nat.le_of_ble_eq_true rfl) rfl ?_
  intro X hl hD hty C hini
  subst hl hD hty
  have hs := ho.1
  have hn := ho.2.1
  have ht := ho.2.2.2
  have hlen := ht.1
  refine r_aload_n C dX4_nextForgotten_0 rfl rfl ?_
  refine r_get C flX4_10 dX4_nextForgotten_1 (by omega) xput_0 rfl ?_
  refine r_cV C cwX4_178 (liftXs (c_X3_beatsToForgetting (by omega) hs)) dX4_nextForgotten_4 rfl (by omega) xput_st rfl rfl rfl (Nat.le_of_ble_eq_true rfl) ⟨Nat.le_of_ble_eq_true rfl, Nat.le_of_ble_eq_true rfl⟩ ⟨Nat.le_of_ble_eq_true rfl, Nat.le_of_ble_eq_true rfl⟩ ?_
  exact r_iretD C dX4_nextForgotten_7 rfl rfl

set_option maxRecDepth 100000 in
set_option maxHeartbeats 4000000 in
theorem c_X4_carried {l : Launch} {D : va_G} {ty : Nat → ClassId} {ad : Int → Nat} {N : Int} {σ : Int → va_E} {x n k len : Int} {u : Int → Int → Int} {s tx : Int → Int} {r : Int} (hx : 0 ≤ x ∧ x + 145 ≤ N) (ho : okX s n u len tx) (hr : 0 ≤ r ∧ r < 6) : gM0 l yX4_carried cX4_carried 2 (some .int) 7 220 [.ref (ad x), .int (gI r)] D ty ad N (xput ad ty σ x s n k u len tx) (some (.int (gI (toL s r)))) (xput ad ty σ x s n k u len tx) := by
  refine gMet_of [some (.ref (ad x)), some (.int (gI r))] (by decide +kernel) rfl (Nat.le_of_ble_eq_true rfl) rfl ?_
  intro X hl hD hty C hini
  subst hl hD hty
  have hs := ho.1
  have hn := ho.2.1
  have ht := ho.2.2.2
  have hlen := ht.1
  refine r_iload_n C dX4_carried_0 rfl rfl ?_
  refine r_cSv C cwX4_30 (c_X4_requireRoom (by omega)) dX4_carried_1 rfl rfl rfl (Nat.le_of_ble_eq_true rfl) ⟨Nat.le_of_ble_eq_true rfl, Nat.le_of_ble_eq_true rfl⟩ ⟨Nat.le_of_ble_eq_true rfl, Nat.le_of_ble_eq_true rfl⟩ ?_
  refine r_aload_n C dX4_carried_4 rfl rfl ?_
  refine r_get C flX4_10 dX4_carried_5 (by omega) xput_0 rfl ?_
  refine r_iload_n C dX4_carried_8 rfl rfl ?_
  refine r_cV C cwX4_181 (liftXs (c_X3_candlesToLight (by omega) hs (by omega))) dX4_carried_9 rfl (by omega) xput_st rfl rfl rfl (Nat.le_of_ble_eq_true rfl) ⟨Nat.le_of_ble_eq_true rfl, Nat.le_of_ble_eq_true rfl⟩ ⟨Nat.le_of_ble_eq_true rfl, Nat.le_of_ble_eq_true rfl⟩ ?_
  exact r_iretD C dX4_carried_12 rfl rfl

set_option maxRecDepth 100000 in
set_option maxHeartbeats 4000000 in
theorem c_X4_needy {l : Launch} {D : va_G} {ty : Nat → ClassId} {ad : Int → Nat} {N : Int} {σ : Int → va_E} {x n k len : Int} {u : Int → Int → Int} {s tx : Int → Int} (hx : 0 ≤ x ∧ x + 145 ≤ N) (ho : okX s n u len tx) : gM0 l yX4_needy cX4_needy 1 (some .int) 4 89 [.ref (ad x)] D ty ad N (xput ad ty σ x s n k u len tx) (some (.int (gI (needS s)))) (xput ad ty σ x s n k u len tx) := by
  refine gMet_of [some (.ref (ad x))] (by decide +kernel) rfl (Nat.le_of_ble_eq_true rfl) rfl ?_
  intro X hl hD hty C hini
  subst hl hD hty
  have hs := ho.1
  have hn := ho.2.1
  have ht := ho.2.2.2
  have hlen := ht.1
  refine r_aload_n C dX4_needy_0 rfl rfl ?_
  refine r_get C flX4_10 dX4_needy_1 (by omega) xput_0 rfl ?_
  refine r_cV C cwX4_184 (liftXs (c_X3_neediest (by omega) hs)) dX4_needy_4 rfl (by omega) xput_st rfl rfl rfl (Nat.le_of_ble_eq_true rfl) ⟨Nat.le_of_ble_eq_true rfl, Nat.le_of_ble_eq_true rfl⟩ ⟨Nat.le_of_ble_eq_true rfl, Nat.le_of_ble_eq_true rfl⟩ ?_
  exact r_iretD C dX4_needy_7 rfl rfl

set_option maxRecDepth 100000 in
set_option maxHeartbeats 4000000 in
theorem c_X4_saves {l : Launch} {D : va_G} {ty : Nat → ClassId} {ad : Int → Nat} {N : Int} {σ : Int → va_E} {x n k len : Int} {u : Int → Int → Int} {s tx : Int → Int} {r : Int} (hx : 0 ≤ x ∧ x + 145 ≤ N) (ho : okX s n u len tx) (hr : 0 ≤ r ∧ r < 6) : gM0 l yX4_saves cX4_saves 2 (some .int) 7 220 [.ref (ad x), .int (gI r)] D ty ad N (xput ad ty σ x s n k u len tx) (some (.int (gI (savR (rm s r))))) (xput ad ty σ x s n k u len tx) := by
  refine gMet_of [some (.ref (ad x)), some (.int (gI r))] (by decide +kernel) rfl (Nat.le_of_ble_eq_true rfl) rfl ?_
  intro X hl hD hty C hini
  subst hl hD hty
  have hs := ho.1
  have hn := ho.2.1
  have ht := ho.2.2.2
  have hlen := ht.1
  have hq := hs.rm hr
  refine r_iload_n C dX4_saves_0 rfl rfl ?_
  refine r_cSv C cwX4_30 (c_X4_requireRoom (by omega)) dX4_saves_1 rfl rfl rfl (Nat.le_of_ble_eq_true rfl) ⟨Nat.le_of_ble_eq_true rfl, Nat.le_of_ble_eq_true rfl⟩ ⟨Nat.le_of_ble_eq_true rfl, Nat.le_of_ble_eq_true rfl⟩ ?_
  refine r_aload_n C dX4_saves_4 rfl rfl ?_
  refine r_get C flX4_10 dX4_saves_5 (by omega) xput_0 rfl ?_
  refine r_iload_n C dX4_saves_8 rfl rfl ?_
  refine r_cV C cwX4_76 (liftXs (c_X3_roomAt0 (by omega) (by omega))) dX4_saves_9 rfl (by omega) xput_st rfl rfl rfl (Nat.le_of_ble_eq_true rfl) ⟨Nat.le_of_ble_eq_true rfl, Nat.le_of_ble_eq_true rfl⟩ ⟨Nat.le_of_ble_eq_true rfl, Nat.le_of_ble_eq_true rfl⟩ ?_
  refine r_cV C cwX4_187 (liftXs (lift0 hr (c_X1_beatsSaved (by omega) hq.len hq.bur hq.wick))) dX4_saves_12 rfl (by omega) (xput_rm (by omega)) rfl rfl rfl (Nat.le_of_ble_eq_true rfl) ⟨Nat.le_of_ble_eq_true rfl, Nat.le_of_ble_eq_true rfl⟩ ⟨Nat.le_of_ble_eq_true rfl, Nat.le_of_ble_eq_true rfl⟩ ?_
  exact r_iretD C dX4_saves_15 rfl rfl

set_option maxRecDepth 100000 in
set_option maxHeartbeats 4000000 in
theorem c_X4_lit {l : Launch} {D : va_G} {ty : Nat → ClassId} {ad : Int → Nat} {N : Int} {σ : Int → va_E} {x n k len : Int} {u : Int → Int → Int} {s tx : Int → Int} (hx : 0 ≤ x ∧ x + 145 ≤ N) (ho : okX s n u len tx) : gM0 l yX4_lit cX4_lit 1 (some .double) 2 45 [.ref (ad x)] D ty ad N (xput ad ty σ x s n k u len tx) (some (.double (share s))) (xput ad ty σ x s n k u len tx) := by
  refine gMet_of [some (.ref (ad x))] (by decide +kernel) rfl (Nat.le_of_ble_eq_true rfl) rfl ?_
  intro X hl hD hty C hini
  subst hl hD hty
  have hs := ho.1
  have hn := ho.2.1
  have ht := ho.2.2.2
  have hlen := ht.1
  refine r_aload_n C dX4_lit_0 rfl rfl ?_
  refine r_get C flX4_10 dX4_lit_1 (by omega) xput_0 rfl ?_
  refine r_cV C cwX4_190 (liftXs (c_X3_shareInLight (by omega) hs)) dX4_lit_4 rfl (by omega) xput_st rfl rfl rfl (Nat.le_of_ble_eq_true rfl) ⟨Nat.le_of_ble_eq_true rfl, Nat.le_of_ble_eq_true rfl⟩ ⟨Nat.le_of_ble_eq_true rfl, Nat.le_of_ble_eq_true rfl⟩ ?_
  exact r_dretD C dX4_lit_7 rfl rfl
