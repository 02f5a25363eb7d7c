/-! CandleRooms: the methods that throw -/
set_option maxRecDepth 100000 in
set_option maxHeartbeats 4000000 in
theorem t_X4_requireRoom {l : Launch} {D : va_G} {ty : Nat → ClassId} {ad : Int → Nat} {N : Int} {σ : Int → va_E} {z : Int} (hst : l.stackTraces = false) (hz : ¬ (0 ≤ z ∧ z < 6)) (hrz : -2147483648 ≤ z ∧ z < 2147483648) : gThr l yX4_requireRoom cX4_requireRoom 1 none 6 200 [.int (gI z)] D ty ad N (σ) eI := by
  refine gThr_of [some (.int (gI z))] hst (by decide +kernel) rfl (Nat.le_of_ble_eq_true rfl) rfl ?_
  intro X hl hD hty C hX hT
  subst hl hD hty
  refine r_iload_n C dX4_requireRoom_0 rfl rfl ?_
  refine r_cS C cwX4_68 (c_X4_isRoom (by omega)) dX4_requireRoom_1 rfl rfl rfl (Nat.le_of_ble_eq_true rfl) ⟨Nat.le_of_ble_eq_true rfl, Nat.le_of_ble_eq_true rfl⟩ ⟨Nat.le_of_ble_eq_true rfl, Nat.le_of_ble_eq_true rfl⟩ ?_
  refine r_ifb_ne (tgt := 17) C dX4_requireRoom_4 (by decide) (fun h4 => ?_) (fun h4 => ?_)
  · exact absurd h4 hz
  · exact r_throw C hX hT gTW_I (is := 214) (text := "there is no such room") (by decide +kernel) dX4_requireRoom_7 dX4_requireRoom_10 dX4_requireRoom_11 dX4_requireRoom_13 dX4_requireRoom_16 rfl ⟨Nat.le_of_ble_eq_true rfl, Nat.le_of_ble_eq_true rfl, Nat.le_of_ble_eq_true rfl, Nat.le_of_ble_eq_true rfl⟩

set_option maxRecDepth 100000 in
set_option maxHeartbeats 4000000 in
theorem t_X4_requireKey {l : Launch} {D : va_G} {ty : Nat → ClassId} {ad : Int → Nat} {N : Int} {σ : Int → va_E} {z : Int} (hst : l.stackTraces = false) (hz : ¬ (0 ≤ z ∧ z < 100)) (hrz : -2147483648 ≤ z ∧ z < 2147483648) : gThr l yX4_requireKey cX4_requireKey 1 none 6 200 [.int (gI z)] D ty ad N (σ) eA := by
  refine gThr_of [some (.int (gI z))] hst (by decide +kernel) rfl (Nat.le_of_ble_eq_true rfl) rfl ?_
  intro X hl hD hty C hX hT
  subst hl hD hty
  refine r_iload_n C dX4_requireKey_0 rfl rfl ?_
  refine r_if_lt (tgt := 10) C dX4_requireKey_1 (by decide) (by omega) (fun h1 => ?_) (fun h1 => ?_)
  · exact r_throw C hX hT gTW_A (is := 216) (text := "a key is 0 to 99") (by decide +kernel) dX4_requireKey_10 dX4_requireKey_13 dX4_requireKey_14 dX4_requireKey_16 dX4_requireKey_19 rfl ⟨Nat.le_of_ble_eq_true rfl, Nat.le_of_ble_eq_true rfl, Nat.le_of_ble_eq_true rfl, Nat.le_of_ble_eq_true rfl⟩
  · refine r_iload_n C dX4_requireKey_4 rfl rfl ?_
    refine r_bipush C dX4_requireKey_5 (by decide) ?_
    refine r_icmp_lt (tgt := 20) C dX4_requireKey_7 (by decide) (by omega) (by omega) (fun h7 => ?_) (fun h7 => ?_)
    · exact absurd h7 (by omega)
    · exact r_throw C hX hT gTW_A (is := 216) (text := "a key is 0 to 99") (by decide +kernel) dX4_requireKey_10 dX4_requireKey_13 dX4_requireKey_14 dX4_requireKey_16 dX4_requireKey_19 rfl ⟨Nat.le_of_ble_eq_true rfl, Nat.le_of_ble_eq_true rfl, Nat.le_of_ble_eq_true rfl, Nat.le_of_ble_eq_true rfl⟩

set_option maxRecDepth 100000 in
set_option maxHeartbeats 4000000 in
theorem t_X4_requireNumber {l : Launch} {D : va_G} {ty : Nat → ClassId} {ad : Int → Nat} {N : Int} {σ : Int → va_E} {z m : Int} (hst : l.stackTraces = false) (hm : 0 ≤ m ∧ m < 100) (hz : ¬ (0 ≤ z ∧ z < m)) (hrz : -2147483648 ≤ z ∧ z < 2147483648) : gThr l yX4_requireNumber cX4_requireNumber 2 none 6 200 [.int (gI z), .int (gI m)] D ty ad N (σ) eA := by
  refine gThr_of [some (.int (gI z)), some (.int (gI m))] hst (by decide +kernel) rfl (Nat.le_of_ble_eq_true rfl) rfl ?_
  intro X hl hD hty C hX hT
  subst hl hD hty
  refine r_iload_n C dX4_requireNumber_0 rfl rfl ?_
  refine r_if_lt (tgt := 9) C dX4_requireNumber_1 (by decide) (by omega) (fun h1 => ?_) (fun h1 => ?_)
  · exact r_throw C hX hT gTW_A (is := 218) (text := "there is no such number") (by decide +kernel) dX4_requireNumber_9 dX4_requireNumber_12 dX4_requireNumber_13 dX4_requireNumber_15 dX4_requireNumber_18 rfl ⟨Nat.le_of_ble_eq_true rfl, Nat.le_of_ble_eq_true rfl, Nat.le_of_ble_eq_true rfl, Nat.le_of_ble_eq_true rfl⟩
  · refine r_iload_n C dX4_requireNumber_4 rfl rfl ?_
    refine r_iload_n C dX4_requireNumber_5 rfl rfl ?_
    refine r_icmp_lt (tgt := 19) C dX4_requireNumber_6 (by decide) (by omega) (by omega) (fun h6 => ?_) (fun h6 => ?_)
    · exact absurd h6 (by omega)
    · exact r_throw C hX hT gTW_A (is := 218) (text := "there is no such number") (by decide +kernel) dX4_requireNumber_9 dX4_requireNumber_12 dX4_requireNumber_13 dX4_requireNumber_15 dX4_requireNumber_18 rfl ⟨Nat.le_of_ble_eq_true rfl, Nat.le_of_ble_eq_true rfl, Nat.le_of_ble_eq_true rfl, Nat.le_of_ble_eq_true rfl⟩

set_option maxRecDepth 100000 in
set_option maxHeartbeats 4000000 in
theorem t_X4_strike_f1 {l : Launch} {D : va_G} {ty : Nat → ClassId} {ad : Int → Nat} {N : Int} {σ : Int → va_E} {x n k len : Int} {u : Int → Int → Int} {s tx : Int → Int} {r : Int} (hst : l.stackTraces = false) (hx : 0 ≤ x ∧ x + 145 ≤ N) (ho : okX s n u len tx) (hnr : ¬ (0 ≤ r ∧ r < 6)) (hrz : -2147483648 ≤ r ∧ r < 2147483648) : gThr l yX4_strike cX4_strike 2 (some .int) 7 220 [.ref (ad x), .int (gI r)] D ty ad N (xput ad ty σ x s n k u len tx) eI := by
  refine gThr_of [some (.ref (ad x)), some (.int (gI r))] hst (by decide +kernel) rfl (Nat.le_of_ble_eq_true rfl) rfl ?_
  intro X hl hD hty C hX hT
  subst hl hD hty
  have hs := ho.1
  have hn := ho.2.1
  have ht := ho.2.2.2
  have hlen := ht.1
  refine r_iload_n C dX4_strike_0 rfl rfl ?_
  exact r_thrS C hX hT cwX4_30 (t_X4_requireRoom hX.1 hnr hrz) dX4_strike_1 rfl rfl rfl (Nat.le_of_ble_eq_true rfl) ⟨Nat.le_of_ble_eq_true rfl, Nat.le_of_ble_eq_true rfl⟩ ⟨Nat.le_of_ble_eq_true rfl, Nat.le_of_ble_eq_true rfl⟩

set_option maxRecDepth 100000 in
set_option maxHeartbeats 4000000 in
theorem t_X4_fresh_f1 {l : Launch} {D : va_G} {ty : Nat → ClassId} {ad : Int → Nat} {N : Int} {σ : Int → va_E} {x n k len : Int} {u : Int → Int → Int} {s tx : Int → Int} {r : Int} (hst : l.stackTraces = false) (hx : 0 ≤ x ∧ x + 145 ≤ N) (ho : okX s n u len tx) (hnr : ¬ (0 ≤ r ∧ r < 6)) (hrz : -2147483648 ≤ r ∧ r < 2147483648) : gThr l yX4_fresh cX4_fresh 2 (some .int) 7 220 [.ref (ad x), .int (gI r)] D ty ad N (xput ad ty σ x s n k u len tx) eI := by
  refine gThr_of [some (.ref (ad x)), some (.int (gI r))] hst (by decide +kernel) rfl (Nat.le_of_ble_eq_true rfl) rfl ?_
  intro X hl hD hty C hX hT
  subst hl hD hty
  have hs := ho.1
  have hn := ho.2.1
  have ht := ho.2.2.2
  have hlen := ht.1
  refine r_iload_n C dX4_fresh_0 rfl rfl ?_
  exact r_thrS C hX hT cwX4_30 (t_X4_requireRoom hX.1 hnr hrz) dX4_fresh_1 rfl rfl rfl (Nat.le_of_ble_eq_true rfl) ⟨Nat.le_of_ble_eq_true rfl, Nat.le_of_ble_eq_true rfl⟩ ⟨Nat.le_of_ble_eq_true rfl, Nat.le_of_ble_eq_true rfl⟩

set_option maxRecDepth 100000 in
set_option maxHeartbeats 4000000 in
theorem t_X4_lasts_f1 {l : Launch} {D : va_G} {ty : Nat → ClassId} {ad : Int → Nat} {N : Int} {σ : Int → va_E} {x n k len : Int} {u : Int → Int → Int} {s tx : Int → Int} {r : Int} (hst : l.stackTraces = false) (hx : 0 ≤ x ∧ x + 145 ≤ N) (ho : okX s n u len tx) (hnr : ¬ (0 ≤ r ∧ r < 6)) (hrz : -2147483648 ≤ r ∧ r < 2147483648) : gThr l yX4_lasts cX4_lasts 2 (some .int) 7 220 [.ref (ad x), .int (gI r)] D ty ad N (xput ad ty σ x s n k u len tx) eI := by
  refine gThr_of [some (.ref (ad x)), some (.int (gI r))] hst (by decide +kernel) rfl (Nat.le_of_ble_eq_true rfl) rfl ?_
  intro X hl hD hty C hX hT
  subst hl hD hty
  have hs := ho.1
  have hn := ho.2.1
  have ht := ho.2.2.2
  have hlen := ht.1
  refine r_iload_n C dX4_lasts_0 rfl rfl ?_
  exact r_thrS C hX hT cwX4_30 (t_X4_requireRoom hX.1 hnr hrz) dX4_lasts_1 rfl rfl rfl (Nat.le_of_ble_eq_true rfl) ⟨Nat.le_of_ble_eq_true rfl, Nat.le_of_ble_eq_true rfl⟩ ⟨Nat.le_of_ble_eq_true rfl, Nat.le_of_ble_eq_true rfl⟩

set_option maxRecDepth 100000 in
set_option maxHeartbeats 4000000 in
theorem t_X4_carried_f1 {l : Launch} {D : va_G} {ty : Nat → ClassId} {ad : Int → Nat} {N : Int} {σ : Int → va_E} {x n k len : Int} {u : Int → Int → Int} {s tx : Int → Int} {r : Int} (hst : l.stackTraces = false) (hx : 0 ≤ x ∧ x + 145 ≤ N) (ho : okX s n u len tx) (hnr : ¬ (0 ≤ r ∧ r < 6)) (hrz : -2147483648 ≤ r ∧ r < 2147483648) : gThr l yX4_carried cX4_carried 2 (some .int) 7 220 [.ref (ad x), .int (gI r)] D ty ad N (xput ad ty σ x s n k u len tx) eI := by
  refine gThr_of [some (.ref (ad x)), some (.int (gI r))] hst (by decide +kernel) rfl (Nat.le_of_ble_eq_true rfl) rfl ?_
  intro X hl hD hty C hX hT
  subst hl hD hty
  have hs := ho.1
  have hn := ho.2.1
  have ht := ho.2.2.2
  have hlen := ht.1
  refine r_iload_n C dX4_carried_0 rfl rfl ?_
  exact r_thrS C hX hT cwX4_30 (t_X4_requireRoom hX.1 hnr hrz) dX4_carried_1 rfl rfl rfl (Nat.le_of_ble_eq_true rfl) ⟨Nat.le_of_ble_eq_true rfl, Nat.le_of_ble_eq_true rfl⟩ ⟨Nat.le_of_ble_eq_true rfl, Nat.le_of_ble_eq_true rfl⟩

set_option maxRecDepth 100000 in
set_option maxHeartbeats 4000000 in
theorem t_X4_saves_f1 {l : Launch} {D : va_G} {ty : Nat → ClassId} {ad : Int → Nat} {N : Int} {σ : Int → va_E} {x n k len : Int} {u : Int → Int → Int} {s tx : Int → Int} {r : Int} (hst : l.stackTraces = false) (hx : 0 ≤ x ∧ x + 145 ≤ N) (ho : okX s n u len tx) (hnr : ¬ (0 ≤ r ∧ r < 6)) (hrz : -2147483648 ≤ r ∧ r < 2147483648) : gThr l yX4_saves cX4_saves 2 (some .int) 7 220 [.ref (ad x), .int (gI r)] D ty ad N (xput ad ty σ x s n k u len tx) eI := by
  refine gThr_of [some (.ref (ad x)), some (.int (gI r))] hst (by decide +kernel) rfl (Nat.le_of_ble_eq_true rfl) rfl ?_
  intro X hl hD hty C hX hT
  subst hl hD hty
  have hs := ho.1
  have hn := ho.2.1
  have ht := ho.2.2.2
  have hlen := ht.1
  refine r_iload_n C dX4_saves_0 rfl rfl ?_
  exact r_thrS C hX hT cwX4_30 (t_X4_requireRoom hX.1 hnr hrz) dX4_saves_1 rfl rfl rfl (Nat.le_of_ble_eq_true rfl) ⟨Nat.le_of_ble_eq_true rfl, Nat.le_of_ble_eq_true rfl⟩ ⟨Nat.le_of_ble_eq_true rfl, Nat.le_of_ble_eq_true rfl⟩

set_option maxRecDepth 100000 in
set_option maxHeartbeats 4000000 in
theorem t_X4_strike_f2 {l : Launch} {D : va_G} {ty : Nat → ClassId} {ad : Int → Nat} {N : Int} {σ : Int → va_E} {x n k len : Int} {u : Int → Int → Int} {s tx : Int → Int} {r : Int} (hst : l.stackTraces = false) (hx : 0 ≤ x ∧ x + 145 ≤ N) (ho : okX s n u len tx) (hr : 0 ≤ r ∧ r < 6) (hm : ¬ mayS s r) : gThr l yX4_strike cX4_strike 2 (some .int) 7 220 [.ref (ad x), .int (gI r)] D ty ad N (xput ad ty σ x s n k u len tx) eS := by
  refine gThr_of [some (.ref (ad x)), some (.int (gI r))] hst (by decide +kernel) rfl (Nat.le_of_ble_eq_true rfl) rfl ?_
  intro X hl hD hty C hX hT
  subst hl hD hty
  have hs := ho.1
  have hn := ho.2.1
  have ht := ho.2.2.2
  have hlen := ht.1
  refine r_iload_n C dX4_strike_0 rfl rfl ?_
  refine r_cSv C cwX4_30 (c_X4_requireRoom (by omega)) dX4_strike_1 rfl rfl rfl (Nat.le_of_ble_eq_true rfl) ⟨Nat.le_of_ble_eq_true rfl, Nat.le_of_ble_eq_true rfl⟩ ⟨Nat.le_of_ble_eq_true rfl, Nat.le_of_ble_eq_true rfl⟩ ?_
  refine r_aload_n C dX4_strike_4 rfl rfl ?_
  refine r_get C flX4_10 dX4_strike_5 (by omega) xput_0 rfl ?_
  refine r_iload_n C dX4_strike_8 rfl rfl ?_
  refine r_cV C cwX4_34 (liftXs (c_X3_canStrike (by omega) hs (by omega))) dX4_strike_9 rfl (by omega) xput_st rfl rfl rfl (Nat.le_of_ble_eq_true rfl) ⟨Nat.le_of_ble_eq_true rfl, Nat.le_of_ble_eq_true rfl⟩ ⟨Nat.le_of_ble_eq_true rfl, Nat.le_of_ble_eq_true rfl⟩ ?_
  refine r_ifb_ne (tgt := 25) C dX4_strike_12 (by decide) (fun h12 => ?_) (fun h12 => ?_)
  · exact absurd h12 hm
  · exact r_throw C hX hT gTW_S (is := 40) (text := "some candle burns, or this one is burnt down") (by decide +kernel) dX4_strike_15 dX4_strike_18 dX4_strike_19 dX4_strike_21 dX4_strike_24 rfl ⟨Nat.le_of_ble_eq_true rfl, Nat.le_of_ble_eq_true rfl, Nat.le_of_ble_eq_true rfl, Nat.le_of_ble_eq_true rfl⟩

set_option maxRecDepth 100000 in
set_option maxHeartbeats 4000000 in
theorem t_X4_light_f1 {l : Launch} {D : va_G} {ty : Nat → ClassId} {ad : Int → Nat} {N : Int} {σ : Int → va_E} {x n k len : Int} {u : Int → Int → Int} {s tx : Int → Int} {r o : Int} (hst : l.stackTraces = false) (hx : 0 ≤ x ∧ x + 145 ≤ N) (ho : okX s n u len tx) (hnr : ¬ (0 ≤ r ∧ r < 6)) (hrz : -2147483648 ≤ r ∧ r < 2147483648) : gThr l yX4_light cX4_light 3 (some .int) 7 220 [.ref (ad x), .int (gI r), .int (gI o)] D ty ad N (xput ad ty σ x s n k u len tx) eI := by
  refine gThr_of [some (.ref (ad x)), some (.int (gI r)), some (.int (gI o))] hst (by decide +kernel) rfl (Nat.le_of_ble_eq_true rfl) rfl ?_
  intro X hl hD hty C hX hT
  subst hl hD hty
  have hs := ho.1
  have hn := ho.2.1
  have ht := ho.2.2.2
  have hlen := ht.1
  refine r_iload_n C dX4_light_0 rfl rfl ?_
  exact r_thrS C hX hT cwX4_30 (t_X4_requireRoom hX.1 hnr hrz) dX4_light_1 rfl rfl rfl (Nat.le_of_ble_eq_true rfl) ⟨Nat.le_of_ble_eq_true rfl, Nat.le_of_ble_eq_true rfl⟩ ⟨Nat.le_of_ble_eq_true rfl, Nat.le_of_ble_eq_true rfl⟩

set_option maxRecDepth 100000 in
set_option maxHeartbeats 4000000 in
theorem t_X4_light_f1b {l : Launch} {D : va_G} {ty : Nat → ClassId} {ad : Int → Nat} {N : Int} {σ : Int → va_E} {x n k len : Int} {u : Int → Int → Int} {s tx : Int → Int} {r o : Int} (hst : l.stackTraces = false) (hx : 0 ≤ x ∧ x + 145 ≤ N) (ho : okX s n u len tx) (hr : 0 ≤ r ∧ r < 6) (hnr : ¬ (0 ≤ o ∧ o < 6)) (hrz : -2147483648 ≤ o ∧ o < 2147483648) : gThr l yX4_light cX4_light 3 (some .int) 7 220 [.ref (ad x), .int (gI r), .int (gI o)] D ty ad N (xput ad ty σ x s n k u len tx) eI := by
  refine gThr_of [some (.ref (ad x)), some (.int (gI r)), some (.int (gI o))] hst (by decide +kernel) rfl (Nat.le_of_ble_eq_true rfl) rfl ?_
  intro X hl hD hty C hX hT
  subst hl hD hty
  have hs := ho.1
  have hn := ho.2.1
  have ht := ho.2.2.2
  have hlen := ht.1
  refine r_iload_n C dX4_light_0 rfl rfl ?_
  refine r_cSv C cwX4_30 (c_X4_requireRoom (by omega)) dX4_light_1 rfl rfl rfl (Nat.le_of_ble_eq_true rfl) ⟨Nat.le_of_ble_eq_true rfl, Nat.le_of_ble_eq_true rfl⟩ ⟨Nat.le_of_ble_eq_true rfl, Nat.le_of_ble_eq_true rfl⟩ ?_
  refine r_iload_n C dX4_light_4 rfl rfl ?_
  exact r_thrS C hX hT cwX4_30 (t_X4_requireRoom hX.1 hnr hrz) dX4_light_5 rfl rfl rfl (Nat.le_of_ble_eq_true rfl) ⟨Nat.le_of_ble_eq_true rfl, Nat.le_of_ble_eq_true rfl⟩ ⟨Nat.le_of_ble_eq_true rfl, Nat.le_of_ble_eq_true rfl⟩

set_option maxRecDepth 100000 in
set_option maxHeartbeats 4000000 in
theorem t_X4_light_f2 {l : Launch} {D : va_G} {ty : Nat → ClassId} {ad : Int → Nat} {N : Int} {σ : Int → va_E} {x n k len : Int} {u : Int → Int → Int} {s tx : Int → Int} {r o : Int} (hst : l.stackTraces = false) (hx : 0 ≤ x ∧ x + 145 ≤ N) (ho : okX s n u len tx) (hr : 0 ≤ r ∧ r < 6) (ho2 : 0 ≤ o ∧ o < 6) (hm : ¬ mayL s r o) : gThr l yX4_light cX4_light 3 (some .int) 7 220 [.ref (ad x), .int (gI r), .int (gI o)] D ty ad N (xput ad ty σ x s n k u len tx) eS := by
  refine gThr_of [some (.ref (ad x)), some (.int (gI r)), some (.int (gI o))] hst (by decide +kernel) rfl (Nat.le_of_ble_eq_true rfl) rfl ?_
  intro X hl hD hty C hX hT
  subst hl hD hty
  have hs := ho.1
  have hn := ho.2.1
  have ht := ho.2.2.2
  have hlen := ht.1
  refine r_iload_n C dX4_light_0 rfl rfl ?_
  refine r_cSv C cwX4_30 (c_X4_requireRoom (by omega)) dX4_light_1 rfl rfl rfl (Nat.le_of_ble_eq_true rfl) ⟨Nat.le_of_ble_eq_true rfl, Nat.le_of_ble_eq_true rfl⟩ ⟨Nat.le_of_ble_eq_true rfl, Nat.le_of_ble_eq_true rfl⟩ ?_
  refine r_iload_n C dX4_light_4 rfl rfl ?_
  refine r_cSv C cwX4_30 (c_X4_requireRoom (by omega)) dX4_light_5 rfl rfl rfl (Nat.le_of_ble_eq_true rfl) ⟨Nat.le_of_ble_eq_true rfl, Nat.le_of_ble_eq_true rfl⟩ ⟨Nat.le_of_ble_eq_true rfl, Nat.le_of_ble_eq_true rfl⟩ ?_
  refine r_aload_n C dX4_light_8 rfl rfl ?_
  refine r_get C flX4_10 dX4_light_9 (by omega) xput_0 rfl ?_
  refine r_iload_n C dX4_light_12 rfl rfl ?_
  refine r_iload_n C dX4_light_13 rfl rfl ?_
  refine r_cV C cwX4_53 (liftXs (c_X3_canLight (by omega) hs (by omega) (by omega))) dX4_light_14 rfl (by omega) xput_st rfl rfl rfl (Nat.le_of_ble_eq_true rfl) ⟨Nat.le_of_ble_eq_true rfl, Nat.le_of_ble_eq_true rfl⟩ ⟨Nat.le_of_ble_eq_true rfl, Nat.le_of_ble_eq_true rfl⟩ ?_
  refine r_ifb_ne (tgt := 30) C dX4_light_17 (by decide) (fun h17 => ?_) (fun h17 => ?_)
  · exact absurd h17 hm
  · exact r_throw C hX hT gTW_S (is := 57) (text := "this candle cannot be lit from that one") (by decide +kernel) dX4_light_20 dX4_light_23 dX4_light_24 dX4_light_26 dX4_light_29 rfl ⟨Nat.le_of_ble_eq_true rfl, Nat.le_of_ble_eq_true rfl, Nat.le_of_ble_eq_true rfl, Nat.le_of_ble_eq_true rfl⟩

set_option maxRecDepth 100000 in
set_option maxHeartbeats 4000000 in
theorem t_X4_fresh_f2 {l : Launch} {D : va_G} {ty : Nat → ClassId} {ad : Int → Nat} {N : Int} {σ : Int → va_E} {x n k len : Int} {u : Int → Int → Int} {s tx : Int → Int} {r : Int} (hst : l.stackTraces = false) (hx : 0 ≤ x ∧ x + 145 ≤ N) (ho : okX s n u len tx) (hr : 0 ≤ r ∧ r < 6) (hm : ¬ 0 < s 1) : gThr l yX4_fresh cX4_fresh 2 (some .int) 7 220 [.ref (ad x), .int (gI r)] D ty ad N (xput ad ty σ x s n k u len tx) eS := by
  refine gThr_of [some (.ref (ad x)), some (.int (gI r))] hst (by decide +kernel) rfl (Nat.le_of_ble_eq_true rfl) rfl ?_
  intro X hl hD hty C hX hT
  subst hl hD hty
  have hs := ho.1
  have hn := ho.2.1
  have ht := ho.2.2.2
  have hlen := ht.1
  refine r_iload_n C dX4_fresh_0 rfl rfl ?_
  refine r_cSv C cwX4_30 (c_X4_requireRoom (by omega)) dX4_fresh_1 rfl rfl rfl (Nat.le_of_ble_eq_true rfl) ⟨Nat.le_of_ble_eq_true rfl, Nat.le_of_ble_eq_true rfl⟩ ⟨Nat.le_of_ble_eq_true rfl, Nat.le_of_ble_eq_true rfl⟩ ?_
  refine r_aload_n C dX4_fresh_4 rfl rfl ?_
  refine r_get C flX4_10 dX4_fresh_5 (by omega) xput_0 rfl ?_
  refine r_cV C cwX4_59 (liftXs (c_X3_hasNewCandle (by omega) hs)) dX4_fresh_8 rfl (by omega) xput_st rfl rfl rfl (Nat.le_of_ble_eq_true rfl) ⟨Nat.le_of_ble_eq_true rfl, Nat.le_of_ble_eq_true rfl⟩ ⟨Nat.le_of_ble_eq_true rfl, Nat.le_of_ble_eq_true rfl⟩ ?_
  refine r_ifb_ne (tgt := 24) C dX4_fresh_11 (by decide) (fun h11 => ?_) (fun h11 => ?_)
  · exact absurd h11 hm
  · exact r_throw C hX hT gTW_S (is := 63) (text := "the box is empty") (by decide +kernel) dX4_fresh_14 dX4_fresh_17 dX4_fresh_18 dX4_fresh_20 dX4_fresh_23 rfl ⟨Nat.le_of_ble_eq_true rfl, Nat.le_of_ble_eq_true rfl, Nat.le_of_ble_eq_true rfl, Nat.le_of_ble_eq_true rfl⟩

set_option maxRecDepth 100000 in
set_option maxHeartbeats 4000000 in
theorem t_X4_door_f1 {l : Launch} {D : va_G} {ty : Nat → ClassId} {ad : Int → Nat} {N : Int} {σ : Int → va_E} {x n k len : Int} {u : Int → Int → Int} {s tx : Int → Int} {r z : Int} (hst : l.stackTraces = false) (hx : 0 ≤ x ∧ x + 145 ≤ N) (ho : okX s n u len tx) (hnr : ¬ (0 ≤ r ∧ r < 6)) (hrz : -2147483648 ≤ r ∧ r < 2147483648) : gThr l yX4_door cX4_door 5 (some .int) 6 200 [.ref (ad x), .int (gI r), .int (gI z)] D ty ad N (xput ad ty σ x s n k u len tx) eI := by
  refine gThr_of [some (.ref (ad x)), some (.int (gI r)), some (.int (gI z)), none, none] hst (by decide +kernel) rfl (Nat.le_of_ble_eq_true rfl) rfl ?_
  intro X hl hD hty C hX hT
  subst hl hD hty
  have hs := ho.1
  have hn := ho.2.1
  have ht := ho.2.2.2
  have hlen := ht.1
  refine r_iload_n C dX4_door_0 rfl rfl ?_
  refine r_cS C cwX4_68 (c_X4_isRoom (by omega)) dX4_door_1 rfl rfl rfl (Nat.le_of_ble_eq_true rfl) ⟨Nat.le_of_ble_eq_true rfl, Nat.le_of_ble_eq_true rfl⟩ ⟨Nat.le_of_ble_eq_true rfl, Nat.le_of_ble_eq_true rfl⟩ ?_
  refine r_ifb_ne (tgt := 17) C dX4_door_4 (by decide) (fun h4 => ?_) (fun h4 => ?_)
  · exact absurd h4 hnr
  · exact r_throw C hX hT gTW_I (is := 73) (text := "there is no such door") (by decide +kernel) dX4_door_7 dX4_door_10 dX4_door_11 dX4_door_13 dX4_door_16 rfl ⟨Nat.le_of_ble_eq_true rfl, Nat.le_of_ble_eq_true rfl, Nat.le_of_ble_eq_true rfl, Nat.le_of_ble_eq_true rfl⟩

set_option maxRecDepth 100000 in
set_option maxHeartbeats 4000000 in
theorem t_X4_shield_f1 {l : Launch} {D : va_G} {ty : Nat → ClassId} {ad : Int → Nat} {N : Int} {σ : Int → va_E} {x n k len : Int} {u : Int → Int → Int} {s tx : Int → Int} {r z : Int} (hst : l.stackTraces = false) (hx : 0 ≤ x ∧ x + 145 ≤ N) (ho : okX s n u len tx) (hnr : ¬ (0 ≤ r ∧ r < 6)) (hrz : -2147483648 ≤ r ∧ r < 2147483648) : gThr l yX4_shield cX4_shield 5 (some .int) 7 220 [.ref (ad x), .int (gI r), .int (gI z)] D ty ad N (xput ad ty σ x s n k u len tx) eI := by
  refine gThr_of [some (.ref (ad x)), some (.int (gI r)), some (.int (gI z)), none, none] hst (by decide +kernel) rfl (Nat.le_of_ble_eq_true rfl) rfl ?_
  intro X hl hD hty C hX hT
  subst hl hD hty
  have hs := ho.1
  have hn := ho.2.1
  have ht := ho.2.2.2
  have hlen := ht.1
  refine r_iload_n C dX4_shield_0 rfl rfl ?_
  exact r_thrS C hX hT cwX4_30 (t_X4_requireRoom hX.1 hnr hrz) dX4_shield_1 rfl rfl rfl (Nat.le_of_ble_eq_true rfl) ⟨Nat.le_of_ble_eq_true rfl, Nat.le_of_ble_eq_true rfl⟩ ⟨Nat.le_of_ble_eq_true rfl, Nat.le_of_ble_eq_true rfl⟩

set_option maxRecDepth 100000 in
set_option maxHeartbeats 4000000 in
theorem t_X4_draught_f1 {l : Launch} {D : va_G} {ty : Nat → ClassId} {ad : Int → Nat} {N : Int} {σ : Int → va_E} {x n k len : Int} {u : Int → Int → Int} {s tx : Int → Int} {r t : Int} (hst : l.stackTraces = false) (hx : 0 ≤ x ∧ x + 145 ≤ N) (ho : okX s n u len tx) (hnr : ¬ (0 ≤ r ∧ r < 6)) (hrz : -2147483648 ≤ r ∧ r < 2147483648) : gThr l yX4_draught cX4_draught 3 (some .int) 7 220 [.ref (ad x), .int (gI r), .int (gI t)] D ty ad N (xput ad ty σ x s n k u len tx) eI := by
  refine gThr_of [some (.ref (ad x)), some (.int (gI r)), some (.int (gI t))] hst (by decide +kernel) rfl (Nat.le_of_ble_eq_true rfl) rfl ?_
  intro X hl hD hty C hX hT
  subst hl hD hty
  have hs := ho.1
  have hn := ho.2.1
  have ht := ho.2.2.2
  have hlen := ht.1
  refine r_iload_n C dX4_draught_0 rfl rfl ?_
  exact r_thrS C hX hT cwX4_30 (t_X4_requireRoom hX.1 hnr hrz) dX4_draught_1 rfl rfl rfl (Nat.le_of_ble_eq_true rfl) ⟨Nat.le_of_ble_eq_true rfl, Nat.le_of_ble_eq_true rfl⟩ ⟨Nat.le_of_ble_eq_true rfl, Nat.le_of_ble_eq_true rfl⟩

set_option maxRecDepth 100000 in
set_option maxHeartbeats 4000000 in
theorem t_X4_draught_f2 {l : Launch} {D : va_G} {ty : Nat → ClassId} {ad : Int → Nat} {N : Int} {σ : Int → va_E} {x n k len : Int} {u : Int → Int → Int} {s tx : Int → Int} {r t : Int} (hst : l.stackTraces = false) (hx : 0 ≤ x ∧ x + 145 ≤ N) (ho : okX s n u len tx) (hr : 0 ≤ r ∧ r < 6) (hnt : ¬ (1 ≤ t ∧ t ≤ 6)) (hrz : -2147483648 ≤ t ∧ t < 2147483648) : gThr l yX4_draught cX4_draught 3 (some .int) 7 220 [.ref (ad x), .int (gI r), .int (gI t)] D ty ad N (xput ad ty σ x s n k u len tx) eA := by
  refine gThr_of [some (.ref (ad x)), some (.int (gI r)), some (.int (gI t))] hst (by decide +kernel) rfl (Nat.le_of_ble_eq_true rfl) rfl ?_
  intro X hl hD hty C hX hT
  subst hl hD hty
  have hs := ho.1
  have hn := ho.2.1
  have ht := ho.2.2.2
  have hlen := ht.1
  refine r_iload_n C dX4_draught_0 rfl rfl ?_
  refine r_cSv C cwX4_30 (c_X4_requireRoom (by omega)) dX4_draught_1 rfl rfl rfl (Nat.le_of_ble_eq_true rfl) ⟨Nat.le_of_ble_eq_true rfl, Nat.le_of_ble_eq_true rfl⟩ ⟨Nat.le_of_ble_eq_true rfl, Nat.le_of_ble_eq_true rfl⟩ ?_
  refine r_iload_n C dX4_draught_4 rfl rfl ?_
  refine r_iconst C dX4_draught_5 ?_
  refine r_icmp_lt (tgt := 15) C dX4_draught_6 (by decide) (by omega) (by omega) (fun h6 => ?_) (fun h6 => ?_)
  · exact r_throw C hX hT gTW_A (is := 95) (text := "strength is 1 to 6") (by decide +kernel) dX4_draught_15 dX4_draught_18 dX4_draught_19 dX4_draught_21 dX4_draught_24 rfl ⟨Nat.le_of_ble_eq_true rfl, Nat.le_of_ble_eq_true rfl, Nat.le_of_ble_eq_true rfl, Nat.le_of_ble_eq_true rfl⟩
  · refine r_iload_n C dX4_draught_9 rfl rfl ?_
    refine r_bipush C dX4_draught_10 (by decide) ?_
    refine r_icmp_le (tgt := 25) C dX4_draught_12 (by decide) (by omega) (by omega) (fun h12 => ?_) (fun h12 => ?_)
    · exact absurd h12 (by omega)
    · exact r_throw C hX hT gTW_A (is := 95) (text := "strength is 1 to 6") (by decide +kernel) dX4_draught_15 dX4_draught_18 dX4_draught_19 dX4_draught_21 dX4_draught_24 rfl ⟨Nat.le_of_ble_eq_true rfl, Nat.le_of_ble_eq_true rfl, Nat.le_of_ble_eq_true rfl, Nat.le_of_ble_eq_true rfl⟩

set_option maxRecDepth 100000 in
set_option maxHeartbeats 4000000 in
theorem t_X4_set_f1 {l : Launch} {D : va_G} {ty : Nat → ClassId} {ad : Int → Nat} {N : Int} {σ : Int → va_E} {x n k len : Int} {u : Int → Int → Int} {s tx : Int → Int} {z : Int} (hst : l.stackTraces = false) (hx : 0 ≤ x ∧ x + 145 ≤ N) (ho : okX s n u len tx) (hz : ¬ (1 ≤ z ∧ z ≤ 50)) (hrz : -2147483648 ≤ z ∧ z < 2147483648) : gThr l yX4_set cX4_set 3 (some .int) 6 200 [.ref (ad x), .int (gI z)] D ty ad N (xput ad ty σ x s n k u len tx) eA := by
  refine gThr_of [some (.ref (ad x)), some (.int (gI z)), none] hst (by decide +kernel) rfl (Nat.le_of_ble_eq_true rfl) rfl ?_
  intro X hl hD hty C hX hT
  subst hl hD hty
  have hs := ho.1
  have hn := ho.2.1
  have ht := ho.2.2.2
  have hlen := ht.1
  refine r_iload_n C dX4_set_0 rfl rfl ?_
  refine r_iconst C dX4_set_1 ?_
  refine r_icmp_lt (tgt := 11) C dX4_set_2 (by decide) (by omega) (by omega) (fun h2 => ?_) (fun h2 => ?_)
  · exact r_throw C hX hT gTW_A (is := 102) (text := "the setting is 1 to 50") (by decide +kernel) dX4_set_11 dX4_set_14 dX4_set_15 dX4_set_17 dX4_set_20 rfl ⟨Nat.le_of_ble_eq_true rfl, Nat.le_of_ble_eq_true rfl, Nat.le_of_ble_eq_true rfl, Nat.le_of_ble_eq_true rfl⟩
  · refine r_iload_n C dX4_set_5 rfl rfl ?_
    refine r_bipush C dX4_set_6 (by decide) ?_
    refine r_icmp_le (tgt := 21) C dX4_set_8 (by decide) (by omega) (by omega) (fun h8 => ?_) (fun h8 => ?_)
    · exact absurd h8 (by omega)
    · exact r_throw C hX hT gTW_A (is := 102) (text := "the setting is 1 to 50") (by decide +kernel) dX4_set_11 dX4_set_14 dX4_set_15 dX4_set_17 dX4_set_20 rfl ⟨Nat.le_of_ble_eq_true rfl, Nat.le_of_ble_eq_true rfl, Nat.le_of_ble_eq_true rfl, Nat.le_of_ble_eq_true rfl⟩

set_option maxRecDepth 100000 in
set_option maxHeartbeats 4000000 in
theorem t_X4_keep_f1 {l : Launch} {D : va_G} {ty : Nat → ClassId} {ad : Int → Nat} {N : Int} {σ : Int → va_E} {x n k len : Int} {u : Int → Int → Int} {s tx : Int → Int} {r key : Int} (hst : l.stackTraces = false) (hx : 0 ≤ x ∧ x + 145 ≤ N) (ho : okX s n u len tx) (hnr : ¬ (0 ≤ r ∧ r < 6)) (hrz : -2147483648 ≤ r ∧ r < 2147483648) : gThr l yX4_keep cX4_keep 3 (some .int) 7 220 [.ref (ad x), .int (gI r), .int (gI key)] D ty ad N (xput ad ty σ x s n k u len tx) eI := by
  refine gThr_of [some (.ref (ad x)), some (.int (gI r)), some (.int (gI key))] hst (by decide +kernel) rfl (Nat.le_of_ble_eq_true rfl) rfl ?_
  intro X hl hD hty C hX hT
  subst hl hD hty
  have hs := ho.1
  have hn := ho.2.1
  have ht := ho.2.2.2
  have hlen := ht.1
  refine r_iload_n C dX4_keep_0 rfl rfl ?_
  exact r_thrS C hX hT cwX4_30 (t_X4_requireRoom hX.1 hnr hrz) dX4_keep_1 rfl rfl rfl (Nat.le_of_ble_eq_true rfl) ⟨Nat.le_of_ble_eq_true rfl, Nat.le_of_ble_eq_true rfl⟩ ⟨Nat.le_of_ble_eq_true rfl, Nat.le_of_ble_eq_true rfl⟩

set_option maxRecDepth 100000 in
set_option maxHeartbeats 4000000 in
theorem t_X4_keep_f2 {l : Launch} {D : va_G} {ty : Nat → ClassId} {ad : Int → Nat} {N : Int} {σ : Int → va_E} {x n k len : Int} {u : Int → Int → Int} {s tx : Int → Int} {r key : Int} (hst : l.stackTraces = false) (hx : 0 ≤ x ∧ x + 145 ≤ N) (ho : okX s n u len tx) (hr : 0 ≤ r ∧ r < 6) (hnk : ¬ (0 ≤ key ∧ key < 100)) (hrz : -2147483648 ≤ key ∧ key < 2147483648) : gThr l yX4_keep cX4_keep 3 (some .int) 7 220 [.ref (ad x), .int (gI r), .int (gI key)] D ty ad N (xput ad ty σ x s n k u len tx) eA := by
  refine gThr_of [some (.ref (ad x)), some (.int (gI r)), some (.int (gI key))] hst (by decide +kernel) rfl (Nat.le_of_ble_eq_true rfl) rfl ?_
  intro X hl hD hty C hX hT
  subst hl hD hty
  have hs := ho.1
  have hn := ho.2.1
  have ht := ho.2.2.2
  have hlen := ht.1
  refine r_iload_n C dX4_keep_0 rfl rfl ?_
  refine r_cSv C cwX4_30 (c_X4_requireRoom (by omega)) dX4_keep_1 rfl rfl rfl (Nat.le_of_ble_eq_true rfl) ⟨Nat.le_of_ble_eq_true rfl, Nat.le_of_ble_eq_true rfl⟩ ⟨Nat.le_of_ble_eq_true rfl, Nat.le_of_ble_eq_true rfl⟩ ?_
  refine r_iload_n C dX4_keep_4 rfl rfl ?_
  exact r_thrS C hX hT cwX4_108 (t_X4_requireKey hX.1 hnk hrz) dX4_keep_5 rfl rfl rfl (Nat.le_of_ble_eq_true rfl) ⟨Nat.le_of_ble_eq_true rfl, Nat.le_of_ble_eq_true rfl⟩ ⟨Nat.le_of_ble_eq_true rfl, Nat.le_of_ble_eq_true rfl⟩

set_option maxRecDepth 100000 in
set_option maxHeartbeats 4000000 in
theorem t_X4_keep_f3 {l : Launch} {D : va_G} {ty : Nat → ClassId} {ad : Int → Nat} {N : Int} {σ : Int → va_E} {x n k len : Int} {u : Int → Int → Int} {s tx : Int → Int} {r key : Int} (hst : l.stackTraces = false) (hx : 0 ≤ x ∧ x + 145 ≤ N) (ho : okX s n u len tx) (hr : 0 ≤ r ∧ r < 6) (hk : 0 ≤ key ∧ key < 100) (hm : ¬ mayK s r key) : gThr l yX4_keep cX4_keep 3 (some .int) 7 220 [.ref (ad x), .int (gI r), .int (gI key)] D ty ad N (xput ad ty σ x s n k u len tx) eS := by
  refine gThr_of [some (.ref (ad x)), some (.int (gI r)), some (.int (gI key))] hst (by decide +kernel) rfl (Nat.le_of_ble_eq_true rfl) rfl ?_
  intro X hl hD hty C hX hT
  subst hl hD hty
  have hs := ho.1
  have hn := ho.2.1
  have ht := ho.2.2.2
  have hlen := ht.1
  refine r_iload_n C dX4_keep_0 rfl rfl ?_
  refine r_cSv C cwX4_30 (c_X4_requireRoom (by omega)) dX4_keep_1 rfl rfl rfl (Nat.le_of_ble_eq_true rfl) ⟨Nat.le_of_ble_eq_true rfl, Nat.le_of_ble_eq_true rfl⟩ ⟨Nat.le_of_ble_eq_true rfl, Nat.le_of_ble_eq_true rfl⟩ ?_
  refine r_iload_n C dX4_keep_4 rfl rfl ?_
  refine r_cSv C cwX4_108 (c_X4_requireKey (by omega)) dX4_keep_5 rfl rfl rfl (Nat.le_of_ble_eq_true rfl) ⟨Nat.le_of_ble_eq_true rfl, Nat.le_of_ble_eq_true rfl⟩ ⟨Nat.le_of_ble_eq_true rfl, Nat.le_of_ble_eq_true rfl⟩ ?_
  refine r_aload_n C dX4_keep_8 rfl rfl ?_
  refine r_get C flX4_10 dX4_keep_9 (by omega) xput_0 rfl ?_
  refine r_iload_n C dX4_keep_12 rfl rfl ?_
  refine r_iload_n C dX4_keep_13 rfl rfl ?_
  refine r_cV C cwX4_111 (liftXs (c_X3_canKeep (by omega) hs (by omega) (by omega))) dX4_keep_14 rfl (by omega) xput_st rfl rfl rfl (Nat.le_of_ble_eq_true rfl) ⟨Nat.le_of_ble_eq_true rfl, Nat.le_of_ble_eq_true rfl⟩ ⟨Nat.le_of_ble_eq_true rfl, Nat.le_of_ble_eq_true rfl⟩ ?_
  refine r_ifb_ne (tgt := 30) C dX4_keep_17 (by decide) (fun h17 => ?_) (fun h17 => ?_)
  · exact absurd h17 hm
  · exact r_throw C hX hT gTW_S (is := 114) (text := "a thing has this key, or the room is full") (by decide +kernel) dX4_keep_20 dX4_keep_23 dX4_keep_24 dX4_keep_26 dX4_keep_29 rfl ⟨Nat.le_of_ble_eq_true rfl, Nat.le_of_ble_eq_true rfl, Nat.le_of_ble_eq_true rfl, Nat.le_of_ble_eq_true rfl⟩

set_option maxRecDepth 100000 in
set_option maxHeartbeats 4000000 in
theorem t_X4_read_f1 {l : Launch} {D : va_G} {ty : Nat → ClassId} {ad : Int → Nat} {N : Int} {σ : Int → va_E} {x n k len : Int} {u : Int → Int → Int} {s tx : Int → Int} {key : Int} (hst : l.stackTraces = false) (hx : 0 ≤ x ∧ x + 145 ≤ N) (ho : okX s n u len tx) (hnk : ¬ (0 ≤ key ∧ key < 100)) (hrz : -2147483648 ≤ key ∧ key < 2147483648) : gThr l yX4_read cX4_read 2 (some .int) 7 220 [.ref (ad x), .int (gI key)] D ty ad N (xput ad ty σ x s n k u len tx) eA := by
  refine gThr_of [some (.ref (ad x)), some (.int (gI key))] hst (by decide +kernel) rfl (Nat.le_of_ble_eq_true rfl) rfl ?_
  intro X hl hD hty C hX hT
  subst hl hD hty
  have hs := ho.1
  have hn := ho.2.1
  have ht := ho.2.2.2
  have hlen := ht.1
  refine r_iload_n C dX4_read_0 rfl rfl ?_
  exact r_thrS C hX hT cwX4_108 (t_X4_requireKey hX.1 hnk hrz) dX4_read_1 rfl rfl rfl (Nat.le_of_ble_eq_true rfl) ⟨Nat.le_of_ble_eq_true rfl, Nat.le_of_ble_eq_true rfl⟩ ⟨Nat.le_of_ble_eq_true rfl, Nat.le_of_ble_eq_true rfl⟩

set_option maxRecDepth 100000 in
set_option maxHeartbeats 4000000 in
theorem t_X4_pass_f1 {l : Launch} {D : va_G} {ty : Nat → ClassId} {ad : Int → Nat} {N : Int} {σ : Int → va_E} {x n k len : Int} {u : Int → Int → Int} {s tx : Int → Int} {z : Int} (hst : l.stackTraces = false) (hx : 0 ≤ x ∧ x + 145 ≤ N) (ho : okX s n u len tx) (hz : ¬ (1 ≤ z ∧ z ≤ 60)) (hrz : -2147483648 ≤ z ∧ z < 2147483648) : gThr l yX4_pass cX4_pass 2 (some .int) 6 200 [.ref (ad x), .int (gI z)] D ty ad N (xput ad ty σ x s n k u len tx) eA := by
  refine gThr_of [some (.ref (ad x)), some (.int (gI z))] hst (by decide +kernel) rfl (Nat.le_of_ble_eq_true rfl) rfl ?_
  intro X hl hD hty C hX hT
  subst hl hD hty
  have hs := ho.1
  have hn := ho.2.1
  have ht := ho.2.2.2
  have hlen := ht.1
  refine r_iload_n C dX4_pass_0 rfl rfl ?_
  refine r_iconst C dX4_pass_1 ?_
  refine r_icmp_lt (tgt := 11) C dX4_pass_2 (by decide) (by omega) (by omega) (fun h2 => ?_) (fun h2 => ?_)
  · exact r_throw C hX hT gTW_A (is := 122) (text := "1 to 60 beats pass") (by decide +kernel) dX4_pass_11 dX4_pass_14 dX4_pass_15 dX4_pass_17 dX4_pass_20 rfl ⟨Nat.le_of_ble_eq_true rfl, Nat.le_of_ble_eq_true rfl, Nat.le_of_ble_eq_true rfl, Nat.le_of_ble_eq_true rfl⟩
  · refine r_iload_n C dX4_pass_5 rfl rfl ?_
    refine r_bipush C dX4_pass_6 (by decide) ?_
    refine r_icmp_le (tgt := 21) C dX4_pass_8 (by decide) (by omega) (by omega) (fun h8 => ?_) (fun h8 => ?_)
    · exact absurd h8 (by omega)
    · exact r_throw C hX hT gTW_A (is := 122) (text := "1 to 60 beats pass") (by decide +kernel) dX4_pass_11 dX4_pass_14 dX4_pass_15 dX4_pass_17 dX4_pass_20 rfl ⟨Nat.le_of_ble_eq_true rfl, Nat.le_of_ble_eq_true rfl, Nat.le_of_ble_eq_true rfl, Nat.le_of_ble_eq_true rfl⟩

set_option maxRecDepth 100000 in
set_option maxHeartbeats 4000000 in
theorem t_X4_undo_f1 {l : Launch} {D : va_G} {ty : Nat → ClassId} {ad : Int → Nat} {N : Int} {σ : Int → va_E} {x n k len : Int} {u : Int → Int → Int} {s tx : Int → Int} (hst : l.stackTraces = false) (hx : 0 ≤ x ∧ x + 145 ≤ N) (ho : okX s n u len tx) (hn0 : n = 0) : gThr l yX4_undo cX4_undo 1 (some .int) 6 200 [.ref (ad x)] D ty ad N (xput ad ty σ x s n k u len tx) eS := by
  refine gThr_of [some (.ref (ad x))] hst (by decide +kernel) rfl (Nat.le_of_ble_eq_true rfl) rfl ?_
  intro X hl hD hty C hX hT
  subst hl hD hty
  have hs := ho.1
  have hn := ho.2.1
  have ht := ho.2.2.2
  have hlen := ht.1
  refine r_aload_n C dX4_undo_0 rfl rfl ?_
  refine r_get C flX4_19 dX4_undo_1 (by omega) xput_0 rfl ?_
  refine r_get C flX4_153 dX4_undo_4 (by omega) xput_sv rfl ?_
  refine r_if_ne (tgt := 20) C dX4_undo_7 (by decide) (by omega) (fun h7 => ?_) (fun h7 => ?_)
  · exact absurd h7 (by omega)
  · exact r_throw C hX hT gTW_S (is := 156) (text := "no state is saved") (by decide +kernel) dX4_undo_10 dX4_undo_13 dX4_undo_14 dX4_undo_16 dX4_undo_19 rfl ⟨Nat.le_of_ble_eq_true rfl, Nat.le_of_ble_eq_true rfl, Nat.le_of_ble_eq_true rfl, Nat.le_of_ble_eq_true rfl⟩

set_option maxRecDepth 100000 in
set_option maxHeartbeats 4000000 in
theorem t_X4_room_f1 {l : Launch} {D : va_G} {ty : Nat → ClassId} {ad : Int → Nat} {N : Int} {σ : Int → va_E} {x n k len : Int} {u : Int → Int → Int} {s tx : Int → Int} {r w : Int} (hst : l.stackTraces = false) (hx : 0 ≤ x ∧ x + 145 ≤ N) (ho : okX s n u len tx) (hnr : ¬ (0 ≤ r ∧ r < 6)) (hrz : -2147483648 ≤ r ∧ r < 2147483648) : gThr l yX4_room cX4_room 3 (some .int) 7 221 [.ref (ad x), .int (gI r), .int (gI w)] D ty ad N (xput ad ty σ x s n k u len tx) eI := by
  refine gThr_of [some (.ref (ad x)), some (.int (gI r)), some (.int (gI w))] hst (by decide +kernel) rfl (Nat.le_of_ble_eq_true rfl) rfl ?_
  intro X hl hD hty C hX hT
  subst hl hD hty
  have hs := ho.1
  have hn := ho.2.1
  have ht := ho.2.2.2
  have hlen := ht.1
  refine r_iload_n C dX4_room_0 rfl rfl ?_
  exact r_thrS C hX hT cwX4_30 (t_X4_requireRoom hX.1 hnr hrz) dX4_room_1 rfl rfl rfl (Nat.le_of_ble_eq_true rfl) ⟨Nat.le_of_ble_eq_true rfl, Nat.le_of_ble_eq_true rfl⟩ ⟨Nat.le_of_ble_eq_true rfl, Nat.le_of_ble_eq_true rfl⟩

set_option maxRecDepth 100000 in
set_option maxHeartbeats 4000000 in
theorem t_X4_room_f2 {l : Launch} {D : va_G} {ty : Nat → ClassId} {ad : Int → Nat} {N : Int} {σ : Int → va_E} {x n k len : Int} {u : Int → Int → Int} {s tx : Int → Int} {r w : Int} (hst : l.stackTraces = false) (hx : 0 ≤ x ∧ x + 145 ≤ N) (ho : okX s n u len tx) (hr : 0 ≤ r ∧ r < 6) (hnw : ¬ (0 ≤ w ∧ w < 8)) (hrz : -2147483648 ≤ w ∧ w < 2147483648) : gThr l yX4_room cX4_room 3 (some .int) 7 221 [.ref (ad x), .int (gI r), .int (gI w)] D ty ad N (xput ad ty σ x s n k u len tx) eA := by
  refine gThr_of [some (.ref (ad x)), some (.int (gI r)), some (.int (gI w))] hst (by decide +kernel) rfl (Nat.le_of_ble_eq_true rfl) rfl ?_
  intro X hl hD hty C hX hT
  subst hl hD hty
  have hs := ho.1
  have hn := ho.2.1
  have ht := ho.2.2.2
  have hlen := ht.1
  refine r_iload_n C dX4_room_0 rfl rfl ?_
  refine r_cSv C cwX4_30 (c_X4_requireRoom (by omega)) dX4_room_1 rfl rfl rfl (Nat.le_of_ble_eq_true rfl) ⟨Nat.le_of_ble_eq_true rfl, Nat.le_of_ble_eq_true rfl⟩ ⟨Nat.le_of_ble_eq_true rfl, Nat.le_of_ble_eq_true rfl⟩ ?_
  refine r_iload_n C dX4_room_4 rfl rfl ?_
  refine r_bipush C dX4_room_5 (by decide) ?_
  exact r_thrS C hX hT cwX4_162 (t_X4_requireNumber hX.1 (by omega) hnw hrz) dX4_room_7 rfl rfl rfl (Nat.le_of_ble_eq_true rfl) ⟨Nat.le_of_ble_eq_true rfl, Nat.le_of_ble_eq_true rfl⟩ ⟨Nat.le_of_ble_eq_true rfl, Nat.le_of_ble_eq_true rfl⟩

set_option maxRecDepth 100000 in
set_option maxHeartbeats 4000000 in
theorem t_X4_thing_f1 {l : Launch} {D : va_G} {ty : Nat → ClassId} {ad : Int → Nat} {N : Int} {σ : Int → va_E} {x n k len : Int} {u : Int → Int → Int} {s tx : Int → Int} {key w : Int} (hst : l.stackTraces = false) (hx : 0 ≤ x ∧ x + 145 ≤ N) (ho : okX s n u len tx) (hnk : ¬ (0 ≤ key ∧ key < 100)) (hrz : -2147483648 ≤ key ∧ key < 2147483648) : gThr l yX4_thing cX4_thing 3 (some .int) 7 221 [.ref (ad x), .int (gI key), .int (gI w)] D ty ad N (xput ad ty σ x s n k u len tx) eA := by
  refine gThr_of [some (.ref (ad x)), some (.int (gI key)), some (.int (gI w))] hst (by decide +kernel) rfl (Nat.le_of_ble_eq_true rfl) rfl ?_
  intro X hl hD hty C hX hT
  subst hl hD hty
  have hs := ho.1
  have hn := ho.2.1
  have ht := ho.2.2.2
  have hlen := ht.1
  refine r_iload_n C dX4_thing_0 rfl rfl ?_
  exact r_thrS C hX hT cwX4_108 (t_X4_requireKey hX.1 hnk hrz) dX4_thing_1 rfl rfl rfl (Nat.le_of_ble_eq_true rfl) ⟨Nat.le_of_ble_eq_true rfl, Nat.le_of_ble_eq_true rfl⟩ ⟨Nat.le_of_ble_eq_true rfl, Nat.le_of_ble_eq_true rfl⟩

set_option maxRecDepth 100000 in
set_option maxHeartbeats 4000000 in
theorem t_X4_thing_f2 {l : Launch} {D : va_G} {ty : Nat → ClassId} {ad : Int → Nat} {N : Int} {σ : Int → va_E} {x n k len : Int} {u : Int → Int → Int} {s tx : Int → Int} {key w : Int} (hst : l.stackTraces = false) (hx : 0 ≤ x ∧ x + 145 ≤ N) (ho : okX s n u len tx) (hk : 0 ≤ key ∧ key < 100) (hnw : ¬ (0 ≤ w ∧ w < 3)) (hrz : -2147483648 ≤ w ∧ w < 2147483648) : gThr l yX4_thing cX4_thing 3 (some .int) 7 221 [.ref (ad x), .int (gI key), .int (gI w)] D ty ad N (xput ad ty σ x s n k u len tx) eA := by
  refine gThr_of [some (.ref (ad x)), some (.int (gI key)), some (.int (gI w))] hst (by decide +kernel) rfl (Nat.le_of_ble_eq_true rfl) rfl ?_
  intro X hl hD hty C hX hT
  subst hl hD hty
  have hs := ho.1
  have hn := ho.2.1
  have ht := ho.2.2.2
  have hlen := ht.1
  refine r_iload_n C dX4_thing_0 rfl rfl ?_
  refine r_cSv C cwX4_108 (c_X4_requireKey (by omega)) dX4_thing_1 rfl rfl rfl (Nat.le_of_ble_eq_true rfl) ⟨Nat.le_of_ble_eq_true rfl, Nat.le_of_ble_eq_true rfl⟩ ⟨Nat.le_of_ble_eq_true rfl, Nat.le_of_ble_eq_true rfl⟩ ?_
  refine r_iload_n C dX4_thing_4 rfl rfl ?_
  refine r_iconst C dX4_thing_5 ?_
  exact r_thrS C hX hT cwX4_162 (t_X4_requireNumber hX.1 (by omega) hnw hrz) dX4_thing_6 rfl rfl rfl (Nat.le_of_ble_eq_true rfl) ⟨Nat.le_of_ble_eq_true rfl, Nat.le_of_ble_eq_true rfl⟩ ⟨Nat.le_of_ble_eq_true rfl, Nat.le_of_ble_eq_true rfl⟩

set_option maxRecDepth 100000 in
set_option maxHeartbeats 4000000 in
theorem t_X4_count_f1 {l : Launch} {D : va_G} {ty : Nat → ClassId} {ad : Int → Nat} {N : Int} {σ : Int → va_E} {x n k len : Int} {u : Int → Int → Int} {s tx : Int → Int} {w : Int} (hst : l.stackTraces = false) (hx : 0 ≤ x ∧ x + 145 ≤ N) (ho : okX s n u len tx) (hnw : ¬ (0 ≤ w ∧ w < 12)) (hrz : -2147483648 ≤ w ∧ w < 2147483648) : gThr l yX4_count cX4_count 2 (some .int) 7 221 [.ref (ad x), .int (gI w)] D ty ad N (xput ad ty σ x s n k u len tx) eA := by
  refine gThr_of [some (.ref (ad x)), some (.int (gI w))] hst (by decide +kernel) rfl (Nat.le_of_ble_eq_true rfl) rfl ?_
  intro X hl hD hty C hX hT
  subst hl hD hty
  have hs := ho.1
  have hn := ho.2.1
  have ht := ho.2.2.2
  have hlen := ht.1
  refine r_iload_n C dX4_count_0 rfl rfl ?_
  refine r_bipush C dX4_count_1 (by decide) ?_
  exact r_thrS C hX hT cwX4_162 (t_X4_requireNumber hX.1 (by omega) hnw hrz) dX4_count_3 rfl rfl rfl (Nat.le_of_ble_eq_true rfl) ⟨Nat.le_of_ble_eq_true rfl, Nat.le_of_ble_eq_true rfl⟩ ⟨Nat.le_of_ble_eq_true rfl, Nat.le_of_ble_eq_true rfl⟩
