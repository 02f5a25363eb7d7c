/-! the law's wrappers -/
set_option maxRecDepth 100000 in
set_option maxHeartbeats 4000000 in
theorem w_L_strike {l : Launch} {D : va_G} {ty : Nat → ClassId} {ad : Int → Nat} {N : Int} {σ : Int → va_E} {x n k len y : Int} {u : Int → Int → Int} {s tx : Int → Int} {g : Nat → Int64} {r : Int} (hst : l.stackTraces = false) (hx : 0 ≤ x ∧ x + 145 ≤ N) (ho : okX s n u len tx) (hy : (0 ≤ y ∧ y < N) ∧ (y < x ∨ x + 145 ≤ y)) (hg : σ y = gLA (ty 2) 1 g) (hr : 0 ≤ r ∧ r < 6) (hm : mayS s r) : gMetW l yL_strike cL_strike 4 (some .int) [(0, 9, 12, 13), (0, 9, 15, 15)] { frames := 8, cells := 1, slots := 6, locals := 241 } [.ref (ad x), .int (gI r), .ref (ad y)] D ty ad N (xput ad ty σ x s n k u len tx) (gD (some (.int (gI 0))) ad N (xput ad ty (up σ y (gLA (ty 2) 1 (vp_updL g 0 (gI (rm s r 0)).toInt64))) x (light1 s r) (pshN n) (pshK n k) (pshU n k u s) (len) (tx))) := by
  refine gMetW_of [some (.ref (ad x)), some (.int (gI r)), some (.ref (ad y)), none] hst (by decide +kernel) rfl (Nat.le_of_ble_eq_true rfl) rfl ?_
  intro X hl hD hty C hX hT
  subst hl hD hty
  refine r_aload_n C dL_strike_0 rfl rfl ?_
  refine r_iconst C dL_strike_1 ?_
  refine r_aload_n C dL_strike_2 rfl rfl ?_
  refine r_iload_n C dL_strike_3 rfl rfl ?_
  refine r_cV C cwL_7 (c_X4_strike (by omega) ho hr hm) dL_strike_4 rfl (by omega) xput_0 rfl rfl rfl (Nat.le_of_ble_eq_true rfl) ⟨Nat.le_of_ble_eq_true rfl, Nat.le_of_ble_eq_true rfl⟩ ⟨Nat.le_of_ble_eq_true rfl, Nat.le_of_ble_eq_true rfl⟩ ?_
  refine r_i2l C dL_strike_7 ?_
  refine r_last C dL_strike_8 (by omega) ((xput_x (by omega)).trans hg) (by omega) (by decide) ?_
  rw [up_xput (by omega)]
  refine r_goto (tgt := 18) C dL_strike_9 (by decide) ?_
  refine r_iconst C dL_strike_18 ?_
  exact r_iret C dL_strike_19 ⟨rfl, rfl, rfl, rfl⟩ (Nat.le_of_ble_eq_true rfl) (Nat.le_of_ble_eq_true rfl)

set_option maxRecDepth 100000 in
set_option maxHeartbeats 4000000 in
theorem w_L_strike_f1 {l : Launch} {D : va_G} {ty : Nat → ClassId} {ad : Int → Nat} {N : Int} {σ : Int → va_E} {x n k len y : Int} {u : Int → Int → Int} {s tx : Int → Int} {g : Nat → Int64} {r : Int} (hst : l.stackTraces = false) (hx : 0 ≤ x ∧ x + 145 ≤ N) (ho : okX s n u len tx) (hy : (0 ≤ y ∧ y < N) ∧ (y < x ∨ x + 145 ≤ y)) (hg : σ y = gLA (ty 2) 1 g) (hnr : ¬ (0 ≤ r ∧ r < 6)) (hrz : -2147483648 ≤ r ∧ r < 2147483648) : gMetW l yL_strike cL_strike 4 (some .int) [(0, 9, 12, 13), (0, 9, 15, 15)] { frames := 8, cells := 1, slots := 6, locals := 241 } [.ref (ad x), .int (gI r), .ref (ad y)] D ty ad N (xput ad ty σ x s n k u len tx) (gD (some (.int (gI 1))) ad N (xput ad ty σ x s n k u len tx)) := by
  refine gMetW_of [some (.ref (ad x)), some (.int (gI r)), some (.ref (ad y)), none] hst (by decide +kernel) rfl (Nat.le_of_ble_eq_true rfl) rfl ?_
  intro X hl hD hty C hX hT
  subst hl hD hty
  refine r_aload_n C dL_strike_0 rfl rfl ?_
  refine r_iconst C dL_strike_1 ?_
  refine r_aload_n C dL_strike_2 rfl rfl ?_
  refine r_iload_n C dL_strike_3 rfl rfl ?_
  refine r_catV C hX hT cwL_7 (t_X4_strike_f1 hX.1 (by omega) ho hnr hrz) dL_strike_4 rfl (by omega) xput_0 rfl rfl (Nat.le_of_ble_eq_true rfl) ⟨Nat.le_of_ble_eq_true rfl, Nat.le_of_ble_eq_true rfl⟩ ⟨Nat.le_of_ble_eq_true rfl, Nat.le_of_ble_eq_true rfl⟩ [] ⟨0, 9, 12, 13⟩ [⟨0, 9, 15, 15⟩] rfl (fun _ h => absurd h List.not_mem_nil) rfl (by decide) klL_13 hX.2.2.1.1 (fun q9 => ?_)
  show V X 1 6 _ 12 _ _ _ _ _
  refine r_astore_n C dL_strike_12 rfl (Nat.le_of_ble_eq_true rfl) rfl ?_
  dsimp only [List.set]
  refine r_iconst C dL_strike_13 ?_
  exact r_iret C dL_strike_14 ⟨rfl, rfl, rfl, rfl⟩ (Nat.le_of_ble_eq_true rfl) (Nat.le_of_ble_eq_true rfl)

set_option maxRecDepth 100000 in
set_option maxHeartbeats 4000000 in
theorem w_L_strike_f2 {l : Launch} {D : va_G} {ty : Nat → ClassId} {ad : Int → Nat} {N : Int} {σ : Int → va_E} {x n k len y : Int} {u : Int → Int → Int} {s tx : Int → Int} {g : Nat → Int64} {r : Int} (hst : l.stackTraces = false) (hx : 0 ≤ x ∧ x + 145 ≤ N) (ho : okX s n u len tx) (hy : (0 ≤ y ∧ y < N) ∧ (y < x ∨ x + 145 ≤ y)) (hg : σ y = gLA (ty 2) 1 g) (hr : 0 ≤ r ∧ r < 6) (hm : ¬ mayS s r) : gMetW l yL_strike cL_strike 4 (some .int) [(0, 9, 12, 13), (0, 9, 15, 15)] { frames := 8, cells := 1, slots := 6, locals := 241 } [.ref (ad x), .int (gI r), .ref (ad y)] D ty ad N (xput ad ty σ x s n k u len tx) (gD (some (.int (gI 2))) ad N (xput ad ty σ x s n k u len tx)) := by
  refine gMetW_of [some (.ref (ad x)), some (.int (gI r)), some (.ref (ad y)), none] hst (by decide +kernel) rfl (Nat.le_of_ble_eq_true rfl) rfl ?_
  intro X hl hD hty C hX hT
  subst hl hD hty
  refine r_aload_n C dL_strike_0 rfl rfl ?_
  refine r_iconst C dL_strike_1 ?_
  refine r_aload_n C dL_strike_2 rfl rfl ?_
  refine r_iload_n C dL_strike_3 rfl rfl ?_
  refine r_catV C hX hT cwL_7 (t_X4_strike_f2 hX.1 (by omega) ho hr hm) dL_strike_4 rfl (by omega) xput_0 rfl rfl (Nat.le_of_ble_eq_true rfl) ⟨Nat.le_of_ble_eq_true rfl, Nat.le_of_ble_eq_true rfl⟩ ⟨Nat.le_of_ble_eq_true rfl, Nat.le_of_ble_eq_true rfl⟩ [⟨0, 9, 12, 13⟩] ⟨0, 9, 15, 15⟩ [] rfl (List.forall_mem_cons.mpr ⟨Or.inr ⟨by decide, eI, klL_13, hX.2.2.2.1.1⟩, (fun _ h => absurd h List.not_mem_nil)⟩) rfl (by decide) klL_15 hX.2.2.1.2.2 (fun q9 => ?_)
  show V X 1 6 _ 15 _ _ _ _ _
  refine r_astore_n C dL_strike_15 rfl (Nat.le_of_ble_eq_true rfl) rfl ?_
  dsimp only [List.set]
  refine r_iconst C dL_strike_16 ?_
  exact r_iret C dL_strike_17 ⟨rfl, rfl, rfl, rfl⟩ (Nat.le_of_ble_eq_true rfl) (Nat.le_of_ble_eq_true rfl)

set_option maxRecDepth 100000 in
set_option maxHeartbeats 4000000 in
theorem w_L_light {l : Launch} {D : va_G} {ty : Nat → ClassId} {ad : Int → Nat} {N : Int} {σ : Int → va_E} {x n k len y : Int} {u : Int → Int → Int} {s tx : Int → Int} {g : Nat → Int64} {r o : Int} (hst : l.stackTraces = false) (hx : 0 ≤ x ∧ x + 145 ≤ N) (ho : okX s n u len tx) (hy : (0 ≤ y ∧ y < N) ∧ (y < x ∨ x + 145 ≤ y)) (hg : σ y = gLA (ty 2) 1 g) (hr : 0 ≤ r ∧ r < 6) (ho2 : 0 ≤ o ∧ o < 6) (hm : mayL s r o) : gMetW l yL_light cL_light 5 (some .int) [(0, 10, 13, 13), (0, 10, 17, 15)] { frames := 8, cells := 1, slots := 6, locals := 242 } [.ref (ad x), .int (gI r), .int (gI o), .ref (ad y)] D ty ad N (xput ad ty σ x s n k u len tx) (gD (some (.int (gI 0))) ad N (xput ad ty (up σ y (gLA (ty 2) 1 (vp_updL g 0 (gI (rm s r 0)).toInt64))) x (light1 s r) (pshN n) (pshK n k) (pshU n k u s) (len) (tx))) := by
  refine gMetW_of [some (.ref (ad x)), some (.int (gI r)), some (.int (gI o)), some (.ref (ad y)), none] hst (by decide +kernel) rfl (Nat.le_of_ble_eq_true rfl) rfl ?_
  intro X hl hD hty C hX hT
  subst hl hD hty
  refine r_aload_n C dL_light_0 rfl rfl ?_
  refine r_iconst C dL_light_1 ?_
  refine r_aload_n C dL_light_2 rfl rfl ?_
  refine r_iload_n C dL_light_3 rfl rfl ?_
  refine r_iload_n C dL_light_4 rfl rfl ?_
  refine r_cV C cwL_17 (c_X4_light (by omega) ho hr ho2 hm) dL_light_5 rfl (by omega) xput_0 rfl rfl rfl (Nat.le_of_ble_eq_true rfl) ⟨Nat.le_of_ble_eq_true rfl, Nat.le_of_ble_eq_true rfl⟩ ⟨Nat.le_of_ble_eq_true rfl, Nat.le_of_ble_eq_true rfl⟩ ?_
  refine r_i2l C dL_light_8 ?_
  refine r_last C dL_light_9 (by omega) ((xput_x (by omega)).trans hg) (by omega) (by decide) ?_
  rw [up_xput (by omega)]
  refine r_goto (tgt := 21) C dL_light_10 (by decide) ?_
  refine r_iconst C dL_light_21 ?_
  exact r_iret C dL_light_22 ⟨rfl, rfl, rfl, rfl⟩ (Nat.le_of_ble_eq_true rfl) (Nat.le_of_ble_eq_true rfl)

set_option maxRecDepth 100000 in
set_option maxHeartbeats 4000000 in
theorem w_L_light_f1 {l : Launch} {D : va_G} {ty : Nat → ClassId} {ad : Int → Nat} {N : Int} {σ : Int → va_E} {x n k len y : Int} {u : Int → Int → Int} {s tx : Int → Int} {g : Nat → Int64} {r o : Int} (hst : l.stackTraces = false) (hx : 0 ≤ x ∧ x + 145 ≤ N) (ho : okX s n u len tx) (hy : (0 ≤ y ∧ y < N) ∧ (y < x ∨ x + 145 ≤ y)) (hg : σ y = gLA (ty 2) 1 g) (hnr : ¬ (0 ≤ r ∧ r < 6)) (hrz : -2147483648 ≤ r ∧ r < 2147483648) : gMetW l yL_light cL_light 5 (some .int) [(0, 10, 13, 13), (0, 10, 17, 15)] { frames := 8, cells := 1, slots := 6, locals := 242 } [.ref (ad x), .int (gI r), .int (gI o), .ref (ad y)] D ty ad N (xput ad ty σ x s n k u len tx) (gD (some (.int (gI 1))) ad N (xput ad ty σ x s n k u len tx)) := by
  refine gMetW_of [some (.ref (ad x)), some (.int (gI r)), some (.int (gI o)), some (.ref (ad y)), none] hst (by decide +kernel) rfl (Nat.le_of_ble_eq_true rfl) rfl ?_
  intro X hl hD hty C hX hT
  subst hl hD hty
  refine r_aload_n C dL_light_0 rfl rfl ?_
  refine r_iconst C dL_light_1 ?_
  refine r_aload_n C dL_light_2 rfl rfl ?_
  refine r_iload_n C dL_light_3 rfl rfl ?_
  refine r_iload_n C dL_light_4 rfl rfl ?_
  refine r_catV C hX hT cwL_17 (t_X4_light_f1 hX.1 (by omega) ho hnr hrz) dL_light_5 rfl (by omega) xput_0 rfl rfl (Nat.le_of_ble_eq_true rfl) ⟨Nat.le_of_ble_eq_true rfl, Nat.le_of_ble_eq_true rfl⟩ ⟨Nat.le_of_ble_eq_true rfl, Nat.le_of_ble_eq_true rfl⟩ [] ⟨0, 10, 13, 13⟩ [⟨0, 10, 17, 15⟩] rfl (fun _ h => absurd h List.not_mem_nil) rfl (by decide) klL_13 hX.2.2.1.1 (fun q9 => ?_)
  show V X 1 6 _ 13 _ _ _ _ _
  refine r_astore C dL_light_13 (Nat.le_of_ble_eq_true rfl) rfl ?_
  dsimp only [List.set]
  refine r_iconst C dL_light_15 ?_
  exact r_iret C dL_light_16 ⟨rfl, rfl, rfl, rfl⟩ (Nat.le_of_ble_eq_true rfl) (Nat.le_of_ble_eq_true rfl)

set_option maxRecDepth 100000 in
set_option maxHeartbeats 4000000 in
theorem w_L_light_f1b {l : Launch} {D : va_G} {ty : Nat → ClassId} {ad : Int → Nat} {N : Int} {σ : Int → va_E} {x n k len y : Int} {u : Int → Int → Int} {s tx : Int → Int} {g : Nat → Int64} {r o : Int} (hst : l.stackTraces = false) (hx : 0 ≤ x ∧ x + 145 ≤ N) (ho : okX s n u len tx) (hy : (0 ≤ y ∧ y < N) ∧ (y < x ∨ x + 145 ≤ y)) (hg : σ y = gLA (ty 2) 1 g) (hr : 0 ≤ r ∧ r < 6) (hnr : ¬ (0 ≤ o ∧ o < 6)) (hrz : -2147483648 ≤ o ∧ o < 2147483648) : gMetW l yL_light cL_light 5 (some .int) [(0, 10, 13, 13), (0, 10, 17, 15)] { frames := 8, cells := 1, slots := 6, locals := 242 } [.ref (ad x), .int (gI r), .int (gI o), .ref (ad y)] D ty ad N (xput ad ty σ x s n k u len tx) (gD (some (.int (gI 1))) ad N (xput ad ty σ x s n k u len tx)) := by
  refine gMetW_of [some (.ref (ad x)), some (.int (gI r)), some (.int (gI o)), some (.ref (ad y)), none] hst (by decide +kernel) rfl (Nat.le_of_ble_eq_true rfl) rfl ?_
  intro X hl hD hty C hX hT
  subst hl hD hty
  refine r_aload_n C dL_light_0 rfl rfl ?_
  refine r_iconst C dL_light_1 ?_
  refine r_aload_n C dL_light_2 rfl rfl ?_
  refine r_iload_n C dL_light_3 rfl rfl ?_
  refine r_iload_n C dL_light_4 rfl rfl ?_
  refine r_catV C hX hT cwL_17 (t_X4_light_f1b hX.1 (by omega) ho hr hnr hrz) dL_light_5 rfl (by omega) xput_0 rfl rfl (Nat.le_of_ble_eq_true rfl) ⟨Nat.le_of_ble_eq_true rfl, Nat.le_of_ble_eq_true rfl⟩ ⟨Nat.le_of_ble_eq_true rfl, Nat.le_of_ble_eq_true rfl⟩ [] ⟨0, 10, 13, 13⟩ [⟨0, 10, 17, 15⟩] rfl (fun _ h => absurd h List.not_mem_nil) rfl (by decide) klL_13 hX.2.2.1.1 (fun q9 => ?_)
  show V X 1 6 _ 13 _ _ _ _ _
  refine r_astore C dL_light_13 (Nat.le_of_ble_eq_true rfl) rfl ?_
  dsimp only [List.set]
  refine r_iconst C dL_light_15 ?_
  exact r_iret C dL_light_16 ⟨rfl, rfl, rfl, rfl⟩ (Nat.le_of_ble_eq_true rfl) (Nat.le_of_ble_eq_true rfl)

set_option maxRecDepth 100000 in
set_option maxHeartbeats 4000000 in
theorem w_L_light_f2 {l : Launch} {D : va_G} {ty : Nat → ClassId} {ad : Int → Nat} {N : Int} {σ : Int → va_E} {x n k len y : Int} {u : Int → Int → Int} {s tx : Int → Int} {g : Nat → Int64} {r o : Int} (hst : l.stackTraces = false) (hx : 0 ≤ x ∧ x + 145 ≤ N) (ho : okX s n u len tx) (hy : (0 ≤ y ∧ y < N) ∧ (y < x ∨ x + 145 ≤ y)) (hg : σ y = gLA (ty 2) 1 g) (hr : 0 ≤ r ∧ r < 6) (ho2 : 0 ≤ o ∧ o < 6) (hm : ¬ mayL s r o) : gMetW l yL_light cL_light 5 (some .int) [(0, 10, 13, 13), (0, 10, 17, 15)] { frames := 8, cells := 1, slots := 6, locals := 242 } [.ref (ad x), .int (gI r), .int (gI o), .ref (ad y)] D ty ad N (xput ad ty σ x s n k u len tx) (gD (some (.int (gI 2))) ad N (xput ad ty σ x s n k u len tx)) := by
  refine gMetW_of [some (.ref (ad x)), some (.int (gI r)), some (.int (gI o)), some (.ref (ad y)), none] hst (by decide +kernel) rfl (Nat.le_of_ble_eq_true rfl) rfl ?_
  intro X hl hD hty C hX hT
  subst hl hD hty
  refine r_aload_n C dL_light_0 rfl rfl ?_
  refine r_iconst C dL_light_1 ?_
  refine r_aload_n C dL_light_2 rfl rfl ?_
  refine r_iload_n C dL_light_3 rfl rfl ?_
  refine r_iload_n C dL_light_4 rfl rfl ?_
  refine r_catV C hX hT cwL_17 (t_X4_light_f2 hX.1 (by omega) ho hr ho2 hm) dL_light_5 rfl (by omega) xput_0 rfl rfl (Nat.le_of_ble_eq_true rfl) ⟨Nat.le_of_ble_eq_true rfl, Nat.le_of_ble_eq_true rfl⟩ ⟨Nat.le_of_ble_eq_true rfl, Nat.le_of_ble_eq_true rfl⟩ [⟨0, 10, 13, 13⟩] ⟨0, 10, 17, 15⟩ [] rfl (List.forall_mem_cons.mpr ⟨Or.inr ⟨by decide, eI, klL_13, hX.2.2.2.1.1⟩, (fun _ h => absurd h List.not_mem_nil)⟩) rfl (by decide) klL_15 hX.2.2.1.2.2 (fun q9 => ?_)
  show V X 1 6 _ 17 _ _ _ _ _
  refine r_astore C dL_light_17 (Nat.le_of_ble_eq_true rfl) rfl ?_
  dsimp only [List.set]
  refine r_iconst C dL_light_19 ?_
  exact r_iret C dL_light_20 ⟨rfl, rfl, rfl, rfl⟩ (Nat.le_of_ble_eq_true rfl) (Nat.le_of_ble_eq_true rfl)

set_option maxRecDepth 100000 in
set_option maxHeartbeats 4000000 in
theorem w_L_fresh {l : Launch} {D : va_G} {ty : Nat → ClassId} {ad : Int → Nat} {N : Int} {σ : Int → va_E} {x n k len y : Int} {u : Int → Int → Int} {s tx : Int → Int} {g : Nat → Int64} {r : Int} (hst : l.stackTraces = false) (hx : 0 ≤ x ∧ x + 145 ≤ N) (ho : okX s n u len tx) (hy : (0 ≤ y ∧ y < N) ∧ (y < x ∨ x + 145 ≤ y)) (hg : σ y = gLA (ty 2) 1 g) (hr : 0 ≤ r ∧ r < 6) (hm : 0 < s 1) : gMetW l yL_fresh cL_fresh 4 (some .int) [(0, 9, 12, 13), (0, 9, 15, 15)] { frames := 8, cells := 1, slots := 6, locals := 241 } [.ref (ad x), .int (gI r), .ref (ad y)] D ty ad N (xput ad ty σ x s n k u len tx) (gD (some (.int (gI 0))) ad N (xput ad ty (up σ y (gLA (ty 2) 1 (vp_updL g 0 (gI (s 1 - 1)).toInt64))) x (renew s r) (pshN n) (pshK n k) (pshU n k u s) (len) (tx))) := by
  refine gMetW_of [some (.ref (ad x)), some (.int (gI r)), some (.ref (ad y)), none] hst (by decide +kernel) rfl (Nat.le_of_ble_eq_true rfl) rfl ?_
  intro X hl hD hty C hX hT
  subst hl hD hty
  refine r_aload_n C dL_fresh_0 rfl rfl ?_
  refine r_iconst C dL_fresh_1 ?_
  refine r_aload_n C dL_fresh_2 rfl rfl ?_
  refine r_iload_n C dL_fresh_3 rfl rfl ?_
  refine r_cV C cwL_21 (c_X4_fresh (by omega) ho hr hm) dL_fresh_4 rfl (by omega) xput_0 rfl rfl rfl (Nat.le_of_ble_eq_true rfl) ⟨Nat.le_of_ble_eq_true rfl, Nat.le_of_ble_eq_true rfl⟩ ⟨Nat.le_of_ble_eq_true rfl, Nat.le_of_ble_eq_true rfl⟩ ?_
  refine r_i2l C dL_fresh_7 ?_
  refine r_last C dL_fresh_8 (by omega) ((xput_x (by omega)).trans hg) (by omega) (by decide) ?_
  rw [up_xput (by omega)]
  refine r_goto (tgt := 18) C dL_fresh_9 (by decide) ?_
  refine r_iconst C dL_fresh_18 ?_
  exact r_iret C dL_fresh_19 ⟨rfl, rfl, rfl, rfl⟩ (Nat.le_of_ble_eq_true rfl) (Nat.le_of_ble_eq_true rfl)

set_option maxRecDepth 100000 in
set_option maxHeartbeats 4000000 in
theorem w_L_fresh_f1 {l : Launch} {D : va_G} {ty : Nat → ClassId} {ad : Int → Nat} {N : Int} {σ : Int → va_E} {x n k len y : Int} {u : Int → Int → Int} {s tx : Int → Int} {g : Nat → Int64} {r : Int} (hst : l.stackTraces = false) (hx : 0 ≤ x ∧ x + 145 ≤ N) (ho : okX s n u len tx) (hy : (0 ≤ y ∧ y < N) ∧ (y < x ∨ x + 145 ≤ y)) (hg : σ y = gLA (ty 2) 1 g) (hnr : ¬ (0 ≤ r ∧ r < 6)) (hrz : -2147483648 ≤ r ∧ r < 2147483648) : gMetW l yL_fresh cL_fresh 4 (some .int) [(0, 9, 12, 13), (0, 9, 15, 15)] { frames := 8, cells := 1, slots := 6, locals := 241 } [.ref (ad x), .int (gI r), .ref (ad y)] D ty ad N (xput ad ty σ x s n k u len tx) (gD (some (.int (gI 1))) ad N (xput ad ty σ x s n k u len tx)) := by
  refine gMetW_of [some (.ref (ad x)), some (.int (gI r)), some (.ref (ad y)), none] hst (by decide +kernel) rfl (Nat.le_of_ble_eq_true rfl) rfl ?_
  intro X hl hD hty C hX hT
  subst hl hD hty
  refine r_aload_n C dL_fresh_0 rfl rfl ?_
  refine r_iconst C dL_fresh_1 ?_
  refine r_aload_n C dL_fresh_2 rfl rfl ?_
  refine r_iload_n C dL_fresh_3 rfl rfl ?_
  refine r_catV C hX hT cwL_21 (t_X4_fresh_f1 hX.1 (by omega) ho hnr hrz) dL_fresh_4 rfl (by omega) xput_0 rfl rfl (Nat.le_of_ble_eq_true rfl) ⟨Nat.le_of_ble_eq_true rfl, Nat.le_of_ble_eq_true rfl⟩ ⟨Nat.le_of_ble_eq_true rfl, Nat.le_of_ble_eq_true rfl⟩ [] ⟨0, 9, 12, 13⟩ [⟨0, 9, 15, 15⟩] rfl (fun _ h => absurd h List.not_mem_nil) rfl (by decide) klL_13 hX.2.2.1.1 (fun q9 => ?_)
  show V X 1 6 _ 12 _ _ _ _ _
  refine r_astore_n C dL_fresh_12 rfl (Nat.le_of_ble_eq_true rfl) rfl ?_
  dsimp only [List.set]
  refine r_iconst C dL_fresh_13 ?_
  exact r_iret C dL_fresh_14 ⟨rfl, rfl, rfl, rfl⟩ (Nat.le_of_ble_eq_true rfl) (Nat.le_of_ble_eq_true rfl)

set_option maxRecDepth 100000 in
set_option maxHeartbeats 4000000 in
theorem w_L_fresh_f2 {l : Launch} {D : va_G} {ty : Nat → ClassId} {ad : Int → Nat} {N : Int} {σ : Int → va_E} {x n k len y : Int} {u : Int → Int → Int} {s tx : Int → Int} {g : Nat → Int64} {r : Int} (hst : l.stackTraces = false) (hx : 0 ≤ x ∧ x + 145 ≤ N) (ho : okX s n u len tx) (hy : (0 ≤ y ∧ y < N) ∧ (y < x ∨ x + 145 ≤ y)) (hg : σ y = gLA (ty 2) 1 g) (hr : 0 ≤ r ∧ r < 6) (hm : ¬ 0 < s 1) : gMetW l yL_fresh cL_fresh 4 (some .int) [(0, 9, 12, 13), (0, 9, 15, 15)] { frames := 8, cells := 1, slots := 6, locals := 241 } [.ref (ad x), .int (gI r), .ref (ad y)] D ty ad N (xput ad ty σ x s n k u len tx) (gD (some (.int (gI 2))) ad N (xput ad ty σ x s n k u len tx)) := by
  refine gMetW_of [some (.ref (ad x)), some (.int (gI r)), some (.ref (ad y)), none] hst (by decide +kernel) rfl (Nat.le_of_ble_eq_true rfl) rfl ?_
  intro X hl hD hty C hX hT
  subst hl hD hty
  refine r_aload_n C dL_fresh_0 rfl rfl ?_
  refine r_iconst C dL_fresh_1 ?_
  refine r_aload_n C dL_fresh_2 rfl rfl ?_
  refine r_iload_n C dL_fresh_3 rfl rfl ?_
  refine r_catV C hX hT cwL_21 (t_X4_fresh_f2 hX.1 (by omega) ho hr hm) dL_fresh_4 rfl (by omega) xput_0 rfl rfl (Nat.le_of_ble_eq_true rfl) ⟨Nat.le_of_ble_eq_true rfl, Nat.le_of_ble_eq_true rfl⟩ ⟨Nat.le_of_ble_eq_true rfl, Nat.le_of_ble_eq_true rfl⟩ [⟨0, 9, 12, 13⟩] ⟨0, 9, 15, 15⟩ [] rfl (List.forall_mem_cons.mpr ⟨Or.inr ⟨by decide, eI, klL_13, hX.2.2.2.1.1⟩, (fun _ h => absurd h List.not_mem_nil)⟩) rfl (by decide) klL_15 hX.2.2.1.2.2 (fun q9 => ?_)
  show V X 1 6 _ 15 _ _ _ _ _
  refine r_astore_n C dL_fresh_15 rfl (Nat.le_of_ble_eq_true rfl) rfl ?_
  dsimp only [List.set]
  refine r_iconst C dL_fresh_16 ?_
  exact r_iret C dL_fresh_17 ⟨rfl, rfl, rfl, rfl⟩ (Nat.le_of_ble_eq_true rfl) (Nat.le_of_ble_eq_true rfl)

set_option maxRecDepth 100000 in
set_option maxHeartbeats 4000000 in
theorem w_L_door {l : Launch} {D : va_G} {ty : Nat → ClassId} {ad : Int → Nat} {N : Int} {σ : Int → va_E} {x n k len y : Int} {u : Int → Int → Int} {s tx : Int → Int} {g : Nat → Int64} {r z : Int} (hst : l.stackTraces = false) (hx : 0 ≤ x ∧ x + 145 ≤ N) (ho : okX s n u len tx) (hy : (0 ≤ y ∧ y < N) ∧ (y < x ∨ x + 145 ≤ y)) (hg : σ y = gLA (ty 2) 1 g) (hr : 0 ≤ r ∧ r < 6) (hz : z = 0 ∨ z = 1) : gMetW l yL_door cL_door 5 (some .int) [(0, 10, 13, 13)] { frames := 7, cells := 1, slots := 6, locals := 224 } [.ref (ad x), .int (gI r), .int (gI z), .ref (ad y)] D ty ad N (xput ad ty σ x s n k u len tx) (gD (some (.int (gI 0))) ad N (xput ad ty (up σ y (gLA (ty 2) 1 (vp_updL g 0 (gI (rm s r 5)).toInt64))) x (up s (9 + 15 * r + 5) z) (pshN n) (pshK n k) (pshU n k u s) (len) (tx))) := by
  refine gMetW_of [some (.ref (ad x)), some (.int (gI r)), some (.int (gI z)), some (.ref (ad y)), none] hst (by decide +kernel) rfl (Nat.le_of_ble_eq_true rfl) rfl ?_
  intro X hl hD hty C hX hT
  subst hl hD hty
  refine r_aload_n C dL_door_0 rfl rfl ?_
  refine r_iconst C dL_door_1 ?_
  refine r_aload_n C dL_door_2 rfl rfl ?_
  refine r_iload_n C dL_door_3 rfl rfl ?_
  refine r_iload_n C dL_door_4 rfl rfl ?_
  refine r_cV C cwL_24 (c_X4_door (by omega) ho hr hz) dL_door_5 rfl (by omega) xput_0 rfl rfl rfl (Nat.le_of_ble_eq_true rfl) ⟨Nat.le_of_ble_eq_true rfl, Nat.le_of_ble_eq_true rfl⟩ ⟨Nat.le_of_ble_eq_true rfl, Nat.le_of_ble_eq_true rfl⟩ ?_
  refine r_i2l C dL_door_8 ?_
  refine r_last C dL_door_9 (by omega) ((xput_x (by omega)).trans hg) (by omega) (by decide) ?_
  rw [up_xput (by omega)]
  refine r_goto (tgt := 17) C dL_door_10 (by decide) ?_
  refine r_iconst C dL_door_17 ?_
  exact r_iret C dL_door_18 ⟨rfl, rfl, rfl, rfl⟩ (Nat.le_of_ble_eq_true rfl) (Nat.le_of_ble_eq_true rfl)

set_option maxRecDepth 100000 in
set_option maxHeartbeats 4000000 in
theorem w_L_door_f1 {l : Launch} {D : va_G} {ty : Nat → ClassId} {ad : Int → Nat} {N : Int} {σ : Int → va_E} {x n k len y : Int} {u : Int → Int → Int} {s tx : Int → Int} {g : Nat → Int64} {r z : Int} (hst : l.stackTraces = false) (hx : 0 ≤ x ∧ x + 145 ≤ N) (ho : okX s n u len tx) (hy : (0 ≤ y ∧ y < N) ∧ (y < x ∨ x + 145 ≤ y)) (hg : σ y = gLA (ty 2) 1 g) (hnr : ¬ (0 ≤ r ∧ r < 6)) (hrz : -2147483648 ≤ r ∧ r < 2147483648) : gMetW l yL_door cL_door 5 (some .int) [(0, 10, 13, 13)] { frames := 7, cells := 1, slots := 6, locals := 224 } [.ref (ad x), .int (gI r), .int (gI z), .ref (ad y)] D ty ad N (xput ad ty σ x s n k u len tx) (gD (some (.int (gI 1))) ad N (xput ad ty σ x s n k u len tx)) := by
  refine gMetW_of [some (.ref (ad x)), some (.int (gI r)), some (.int (gI z)), some (.ref (ad y)), none] hst (by decide +kernel) rfl (Nat.le_of_ble_eq_true rfl) rfl ?_
  intro X hl hD hty C hX hT
  subst hl hD hty
  refine r_aload_n C dL_door_0 rfl rfl ?_
  refine r_iconst C dL_door_1 ?_
  refine r_aload_n C dL_door_2 rfl rfl ?_
  refine r_iload_n C dL_door_3 rfl rfl ?_
  refine r_iload_n C dL_door_4 rfl rfl ?_
  refine r_catV C hX hT cwL_24 (t_X4_door_f1 hX.1 (by omega) ho hnr hrz) dL_door_5 rfl (by omega) xput_0 rfl rfl (Nat.le_of_ble_eq_true rfl) ⟨Nat.le_of_ble_eq_true rfl, Nat.le_of_ble_eq_true rfl⟩ ⟨Nat.le_of_ble_eq_true rfl, Nat.le_of_ble_eq_true rfl⟩ [] ⟨0, 10, 13, 13⟩ [] rfl (fun _ h => absurd h List.not_mem_nil) rfl (by decide) klL_13 hX.2.2.1.1 (fun q9 => ?_)
  show V X 1 6 _ 13 _ _ _ _ _
  refine r_astore C dL_door_13 (Nat.le_of_ble_eq_true rfl) rfl ?_
  dsimp only [List.set]
  refine r_iconst C dL_door_15 ?_
  exact r_iret C dL_door_16 ⟨rfl, rfl, rfl, rfl⟩ (Nat.le_of_ble_eq_true rfl) (Nat.le_of_ble_eq_true rfl)

set_option maxRecDepth 100000 in
set_option maxHeartbeats 4000000 in
theorem w_L_shield {l : Launch} {D : va_G} {ty : Nat → ClassId} {ad : Int → Nat} {N : Int} {σ : Int → va_E} {x n k len y : Int} {u : Int → Int → Int} {s tx : Int → Int} {g : Nat → Int64} {r z : Int} (hst : l.stackTraces = false) (hx : 0 ≤ x ∧ x + 145 ≤ N) (ho : okX s n u len tx) (hy : (0 ≤ y ∧ y < N) ∧ (y < x ∨ x + 145 ≤ y)) (hg : σ y = gLA (ty 2) 1 g) (hr : 0 ≤ r ∧ r < 6) (hz : z = 0 ∨ z = 1) : gMetW l yL_shield cL_shield 5 (some .int) [(0, 10, 13, 13)] { frames := 8, cells := 1, slots := 6, locals := 244 } [.ref (ad x), .int (gI r), .int (gI z), .ref (ad y)] D ty ad N (xput ad ty σ x s n k u len tx) (gD (some (.int (gI 0))) ad N (xput ad ty (up σ y (gLA (ty 2) 1 (vp_updL g 0 (gI (rm s r 3)).toInt64))) x (up s (9 + 15 * r + 3) z) (pshN n) (pshK n k) (pshU n k u s) (len) (tx))) := by
  refine gMetW_of [some (.ref (ad x)), some (.int (gI r)), some (.int (gI z)), some (.ref (ad y)), none] hst (by decide +kernel) rfl (Nat.le_of_ble_eq_true rfl) rfl ?_
  intro X hl hD hty C hX hT
  subst hl hD hty
  refine r_aload_n C dL_shield_0 rfl rfl ?_
  refine r_iconst C dL_shield_1 ?_
  refine r_aload_n C dL_shield_2 rfl rfl ?_
  refine r_iload_n C dL_shield_3 rfl rfl ?_
  refine r_iload_n C dL_shield_4 rfl rfl ?_
  refine r_cV C cwL_28 (c_X4_shield (by omega) ho hr hz) dL_shield_5 rfl (by omega) xput_0 rfl rfl rfl (Nat.le_of_ble_eq_true rfl) ⟨Nat.le_of_ble_eq_true rfl, Nat.le_of_ble_eq_true rfl⟩ ⟨Nat.le_of_ble_eq_true rfl, Nat.le_of_ble_eq_true rfl⟩ ?_
  refine r_i2l C dL_shield_8 ?_
  refine r_last C dL_shield_9 (by omega) ((xput_x (by omega)).trans hg) (by omega) (by decide) ?_
  rw [up_xput (by omega)]
  refine r_goto (tgt := 17) C dL_shield_10 (by decide) ?_
  refine r_iconst C dL_shield_17 ?_
  exact r_iret C dL_shield_18 ⟨rfl, rfl, rfl, rfl⟩ (Nat.le_of_ble_eq_true rfl) (Nat.le_of_ble_eq_true rfl)

set_option maxRecDepth 100000 in
set_option maxHeartbeats 4000000 in
theorem w_L_shield_f1 {l : Launch} {D : va_G} {ty : Nat → ClassId} {ad : Int → Nat} {N : Int} {σ : Int → va_E} {x n k len y : Int} {u : Int → Int → Int} {s tx : Int → Int} {g : Nat → Int64} {r z : Int} (hst : l.stackTraces = false) (hx : 0 ≤ x ∧ x + 145 ≤ N) (ho : okX s n u len tx) (hy : (0 ≤ y ∧ y < N) ∧ (y < x ∨ x + 145 ≤ y)) (hg : σ y = gLA (ty 2) 1 g) (hnr : ¬ (0 ≤ r ∧ r < 6)) (hrz : -2147483648 ≤ r ∧ r < 2147483648) : gMetW l yL_shield cL_shield 5 (some .int) [(0, 10, 13, 13)] { frames := 8, cells := 1, slots := 6, locals := 244 } [.ref (ad x), .int (gI r), .int (gI z), .ref (ad y)] D ty ad N (xput ad ty σ x s n k u len tx) (gD (some (.int (gI 1))) ad N (xput ad ty σ x s n k u len tx)) := by
  refine gMetW_of [some (.ref (ad x)), some (.int (gI r)), some (.int (gI z)), some (.ref (ad y)), none] hst (by decide +kernel) rfl (Nat.le_of_ble_eq_true rfl) rfl ?_
  intro X hl hD hty C hX hT
  subst hl hD hty
  refine r_aload_n C dL_shield_0 rfl rfl ?_
  refine r_iconst C dL_shield_1 ?_
  refine r_aload_n C dL_shield_2 rfl rfl ?_
  refine r_iload_n C dL_shield_3 rfl rfl ?_
  refine r_iload_n C dL_shield_4 rfl rfl ?_
  refine r_catV C hX hT cwL_28 (t_X4_shield_f1 hX.1 (by omega) ho hnr hrz) dL_shield_5 rfl (by omega) xput_0 rfl rfl (Nat.le_of_ble_eq_true rfl) ⟨Nat.le_of_ble_eq_true rfl, Nat.le_of_ble_eq_true rfl⟩ ⟨Nat.le_of_ble_eq_true rfl, Nat.le_of_ble_eq_true rfl⟩ [] ⟨0, 10, 13, 13⟩ [] rfl (fun _ h => absurd h List.not_mem_nil) rfl (by decide) klL_13 hX.2.2.1.1 (fun q9 => ?_)
  show V X 1 6 _ 13 _ _ _ _ _
  refine r_astore C dL_shield_13 (Nat.le_of_ble_eq_true rfl) rfl ?_
  dsimp only [List.set]
  refine r_iconst C dL_shield_15 ?_
  exact r_iret C dL_shield_16 ⟨rfl, rfl, rfl, rfl⟩ (Nat.le_of_ble_eq_true rfl) (Nat.le_of_ble_eq_true rfl)

set_option maxRecDepth 100000 in
set_option maxHeartbeats 4000000 in
theorem w_L_draught {l : Launch} {D : va_G} {ty : Nat → ClassId} {ad : Int → Nat} {N : Int} {σ : Int → va_E} {x n k len y : Int} {u : Int → Int → Int} {s tx : Int → Int} {g : Nat → Int64} {r t : Int} (hst : l.stackTraces = false) (hx : 0 ≤ x ∧ x + 145 ≤ N) (ho : okX s n u len tx) (hy : (0 ≤ y ∧ y < N) ∧ (y < x ∨ x + 145 ≤ y)) (hg : σ y = gLA (ty 2) 1 g) (hr : 0 ≤ r ∧ r < 6) (ht2 : 1 ≤ t ∧ t ≤ 6) : gMetW l yL_draught cL_draught 5 (some .int) [(0, 10, 13, 13), (0, 10, 17, 34)] { frames := 8, cells := 1, slots := 6, locals := 242 } [.ref (ad x), .int (gI r), .int (gI t), .ref (ad y)] D ty ad N (xput ad ty σ x s n k u len tx) (gD (some (.int (gI 0))) ad N (xput ad ty (up σ y (gLA (ty 2) 1 (vp_updL g 0 (gI (cbF (draS s r t) r (blown (draS s r t)))).toInt64))) x (draS s r t) (pshN n) (pshK n k) (pshU n k u s) (len) (tx))) := by
  refine gMetW_of [some (.ref (ad x)), some (.int (gI r)), some (.int (gI t)), some (.ref (ad y)), none] hst (by decide +kernel) rfl (Nat.le_of_ble_eq_true rfl) rfl ?_
  intro X hl hD hty C hX hT
  subst hl hD hty
  refine r_aload_n C dL_draught_0 rfl rfl ?_
  refine r_iconst C dL_draught_1 ?_
  refine r_aload_n C dL_draught_2 rfl rfl ?_
  refine r_iload_n C dL_draught_3 rfl rfl ?_
  refine r_iload_n C dL_draught_4 rfl rfl ?_
  refine r_cV C cwL_31 (c_X4_draught (by omega) ho hr ht2) dL_draught_5 rfl (by omega) xput_0 rfl rfl rfl (Nat.le_of_ble_eq_true rfl) ⟨Nat.le_of_ble_eq_true rfl, Nat.le_of_ble_eq_true rfl⟩ ⟨Nat.le_of_ble_eq_true rfl, Nat.le_of_ble_eq_true rfl⟩ ?_
  refine r_i2l C dL_draught_8 ?_
  refine r_last C dL_draught_9 (by omega) ((xput_x (by omega)).trans hg) (by omega) (by decide) ?_
  rw [up_xput (by omega)]
  refine r_goto (tgt := 21) C dL_draught_10 (by decide) ?_
  refine r_iconst C dL_draught_21 ?_
  exact r_iret C dL_draught_22 ⟨rfl, rfl, rfl, rfl⟩ (Nat.le_of_ble_eq_true rfl) (Nat.le_of_ble_eq_true rfl)

set_option maxRecDepth 100000 in
set_option maxHeartbeats 4000000 in
theorem w_L_draught_f1 {l : Launch} {D : va_G} {ty : Nat → ClassId} {ad : Int → Nat} {N : Int} {σ : Int → va_E} {x n k len y : Int} {u : Int → Int → Int} {s tx : Int → Int} {g : Nat → Int64} {r t : Int} (hst : l.stackTraces = false) (hx : 0 ≤ x ∧ x + 145 ≤ N) (ho : okX s n u len tx) (hy : (0 ≤ y ∧ y < N) ∧ (y < x ∨ x + 145 ≤ y)) (hg : σ y = gLA (ty 2) 1 g) (hnr : ¬ (0 ≤ r ∧ r < 6)) (hrz : -2147483648 ≤ r ∧ r < 2147483648) : gMetW l yL_draught cL_draught 5 (some .int) [(0, 10, 13, 13), (0, 10, 17, 34)] { frames := 8, cells := 1, slots := 6, locals := 242 } [.ref (ad x), .int (gI r), .int (gI t), .ref (ad y)] D ty ad N (xput ad ty σ x s n k u len tx) (gD (some (.int (gI 1))) ad N (xput ad ty σ x s n k u len tx)) := by
  refine gMetW_of [some (.ref (ad x)), some (.int (gI r)), some (.int (gI t)), some (.ref (ad y)), none] hst (by decide +kernel) rfl (Nat.le_of_ble_eq_true rfl) rfl ?_
  intro X hl hD hty C hX hT
  subst hl hD hty
  refine r_aload_n C dL_draught_0 rfl rfl ?_
  refine r_iconst C dL_draught_1 ?_
  refine r_aload_n C dL_draught_2 rfl rfl ?_
  refine r_iload_n C dL_draught_3 rfl rfl ?_
  refine r_iload_n C dL_draught_4 rfl rfl ?_
  refine r_catV C hX hT cwL_31 (t_X4_draught_f1 hX.1 (by omega) ho hnr hrz) dL_draught_5 rfl (by omega) xput_0 rfl rfl (Nat.le_of_ble_eq_true rfl) ⟨Nat.le_of_ble_eq_true rfl, Nat.le_of_ble_eq_true rfl⟩ ⟨Nat.le_of_ble_eq_true rfl, Nat.le_of_ble_eq_true rfl⟩ [] ⟨0, 10, 13, 13⟩ [⟨0, 10, 17, 34⟩] rfl (fun _ h => absurd h List.not_mem_nil) rfl (by decide) klL_13 hX.2.2.1.1 (fun q9 => ?_)
  show V X 1 6 _ 13 _ _ _ _ _
  refine r_astore C dL_draught_13 (Nat.le_of_ble_eq_true rfl) rfl ?_
  dsimp only [List.set]
  refine r_iconst C dL_draught_15 ?_
  exact r_iret C dL_draught_16 ⟨rfl, rfl, rfl, rfl⟩ (Nat.le_of_ble_eq_true rfl) (Nat.le_of_ble_eq_true rfl)

set_option maxRecDepth 100000 in
set_option maxHeartbeats 4000000 in
theorem w_L_draught_f2 {l : Launch} {D : va_G} {ty : Nat → ClassId} {ad : Int → Nat} {N : Int} {σ : Int → va_E} {x n k len y : Int} {u : Int → Int → Int} {s tx : Int → Int} {g : Nat → Int64} {r t : Int} (hst : l.stackTraces = false) (hx : 0 ≤ x ∧ x + 145 ≤ N) (ho : okX s n u len tx) (hy : (0 ≤ y ∧ y < N) ∧ (y < x ∨ x + 145 ≤ y)) (hg : σ y = gLA (ty 2) 1 g) (hr : 0 ≤ r ∧ r < 6) (hnt : ¬ (1 ≤ t ∧ t ≤ 6)) (hrz : -2147483648 ≤ t ∧ t < 2147483648) : gMetW l yL_draught cL_draught 5 (some .int) [(0, 10, 13, 13), (0, 10, 17, 34)] { frames := 8, cells := 1, slots := 6, locals := 242 } [.ref (ad x), .int (gI r), .int (gI t), .ref (ad y)] D ty ad N (xput ad ty σ x s n k u len tx) (gD (some (.int (gI 2))) ad N (xput ad ty σ x s n k u len tx)) := by
  refine gMetW_of [some (.ref (ad x)), some (.int (gI r)), some (.int (gI t)), some (.ref (ad y)), none] hst (by decide +kernel) rfl (Nat.le_of_ble_eq_true rfl) rfl ?_
  intro X hl hD hty C hX hT
  subst hl hD hty
  refine r_aload_n C dL_draught_0 rfl rfl ?_
  refine r_iconst C dL_draught_1 ?_
  refine r_aload_n C dL_draught_2 rfl rfl ?_
  refine r_iload_n C dL_draught_3 rfl rfl ?_
  refine r_iload_n C dL_draught_4 rfl rfl ?_
  refine r_catV C hX hT cwL_31 (t_X4_draught_f2 hX.1 (by omega) ho hr hnt hrz) dL_draught_5 rfl (by omega) xput_0 rfl rfl (Nat.le_of_ble_eq_true rfl) ⟨Nat.le_of_ble_eq_true rfl, Nat.le_of_ble_eq_true rfl⟩ ⟨Nat.le_of_ble_eq_true rfl, Nat.le_of_ble_eq_true rfl⟩ [⟨0, 10, 13, 13⟩] ⟨0, 10, 17, 34⟩ [] rfl (List.forall_mem_cons.mpr ⟨Or.inr ⟨by decide, eI, klL_13, hX.2.2.2.1.2.1⟩, (fun _ h => absurd h List.not_mem_nil)⟩) rfl (by decide) klL_34 hX.2.2.1.2.1 (fun q9 => ?_)
  show V X 1 6 _ 17 _ _ _ _ _
  refine r_astore C dL_draught_17 (Nat.le_of_ble_eq_true rfl) rfl ?_
  dsimp only [List.set]
  refine r_iconst C dL_draught_19 ?_
  exact r_iret C dL_draught_20 ⟨rfl, rfl, rfl, rfl⟩ (Nat.le_of_ble_eq_true rfl) (Nat.le_of_ble_eq_true rfl)

set_option maxRecDepth 100000 in
set_option maxHeartbeats 4000000 in
theorem w_L_set {l : Launch} {D : va_G} {ty : Nat → ClassId} {ad : Int → Nat} {N : Int} {σ : Int → va_E} {x n k len y : Int} {u : Int → Int → Int} {s tx : Int → Int} {g : Nat → Int64} {z : Int} (hst : l.stackTraces = false) (hx : 0 ≤ x ∧ x + 145 ≤ N) (ho : okX s n u len tx) (hy : (0 ≤ y ∧ y < N) ∧ (y < x ∨ x + 145 ≤ y)) (hg : σ y = gLA (ty 2) 1 g) (hz : 1 ≤ z ∧ z ≤ 50) : gMetW l yL_set cL_set 4 (some .int) [(0, 9, 12, 34)] { frames := 7, cells := 1, slots := 6, locals := 222 } [.ref (ad x), .int (gI z), .ref (ad y)] D ty ad N (xput ad ty σ x s n k u len tx) (gD (some (.int (gI 0))) ad N (xput ad ty (up σ y (gLA (ty 2) 1 (vp_updL g 0 (gI (s 0)).toInt64))) x (up s 0 z) (pshN n) (pshK n k) (pshU n k u s) (len) (tx))) := by
  refine gMetW_of [some (.ref (ad x)), some (.int (gI z)), some (.ref (ad y)), none] hst (by decide +kernel) rfl (Nat.le_of_ble_eq_true rfl) rfl ?_
  intro X hl hD hty C hX hT
  subst hl hD hty
  refine r_aload_n C dL_set_0 rfl rfl ?_
  refine r_iconst C dL_set_1 ?_
  refine r_aload_n C dL_set_2 rfl rfl ?_
  refine r_iload_n C dL_set_3 rfl rfl ?_
  refine r_cV C cwL_36 (c_X4_set (by omega) ho hz) dL_set_4 rfl (by omega) xput_0 rfl rfl rfl (Nat.le_of_ble_eq_true rfl) ⟨Nat.le_of_ble_eq_true rfl, Nat.le_of_ble_eq_true rfl⟩ ⟨Nat.le_of_ble_eq_true rfl, Nat.le_of_ble_eq_true rfl⟩ ?_
  refine r_i2l C dL_set_7 ?_
  refine r_last C dL_set_8 (by omega) ((xput_x (by omega)).trans hg) (by omega) (by decide) ?_
  rw [up_xput (by omega)]
  refine r_goto (tgt := 15) C dL_set_9 (by decide) ?_
  refine r_iconst C dL_set_15 ?_
  exact r_iret C dL_set_16 ⟨rfl, rfl, rfl, rfl⟩ (Nat.le_of_ble_eq_true rfl) (Nat.le_of_ble_eq_true rfl)

set_option maxRecDepth 100000 in
set_option maxHeartbeats 4000000 in
theorem w_L_set_f1 {l : Launch} {D : va_G} {ty : Nat → ClassId} {ad : Int → Nat} {N : Int} {σ : Int → va_E} {x n k len y : Int} {u : Int → Int → Int} {s tx : Int → Int} {g : Nat → Int64} {z : Int} (hst : l.stackTraces = false) (hx : 0 ≤ x ∧ x + 145 ≤ N) (ho : okX s n u len tx) (hy : (0 ≤ y ∧ y < N) ∧ (y < x ∨ x + 145 ≤ y)) (hg : σ y = gLA (ty 2) 1 g) (hz : ¬ (1 ≤ z ∧ z ≤ 50)) (hrz : -2147483648 ≤ z ∧ z < 2147483648) : gMetW l yL_set cL_set 4 (some .int) [(0, 9, 12, 34)] { frames := 7, cells := 1, slots := 6, locals := 222 } [.ref (ad x), .int (gI z), .ref (ad y)] D ty ad N (xput ad ty σ x s n k u len tx) (gD (some (.int (gI 1))) ad N (xput ad ty σ x s n k u len tx)) := by
  refine gMetW_of [some (.ref (ad x)), some (.int (gI z)), some (.ref (ad y)), none] hst (by decide +kernel) rfl (Nat.le_of_ble_eq_true rfl) rfl ?_
  intro X hl hD hty C hX hT
  subst hl hD hty
  refine r_aload_n C dL_set_0 rfl rfl ?_
  refine r_iconst C dL_set_1 ?_
  refine r_aload_n C dL_set_2 rfl rfl ?_
  refine r_iload_n C dL_set_3 rfl rfl ?_
  refine r_catV C hX hT cwL_36 (t_X4_set_f1 hX.1 (by omega) ho hz hrz) dL_set_4 rfl (by omega) xput_0 rfl rfl (Nat.le_of_ble_eq_true rfl) ⟨Nat.le_of_ble_eq_true rfl, Nat.le_of_ble_eq_true rfl⟩ ⟨Nat.le_of_ble_eq_true rfl, Nat.le_of_ble_eq_true rfl⟩ [] ⟨0, 9, 12, 34⟩ [] rfl (fun _ h => absurd h List.not_mem_nil) rfl (by decide) klL_34 hX.2.2.1.2.1 (fun q9 => ?_)
  show V X 1 6 _ 12 _ _ _ _ _
  refine r_astore_n C dL_set_12 rfl (Nat.le_of_ble_eq_true rfl) rfl ?_
  dsimp only [List.set]
  refine r_iconst C dL_set_13 ?_
  exact r_iret C dL_set_14 ⟨rfl, rfl, rfl, rfl⟩ (Nat.le_of_ble_eq_true rfl) (Nat.le_of_ble_eq_true rfl)

set_option maxRecDepth 100000 in
set_option maxHeartbeats 4000000 in
theorem w_L_keep {l : Launch} {D : va_G} {ty : Nat → ClassId} {ad : Int → Nat} {N : Int} {σ : Int → va_E} {x n k len y : Int} {u : Int → Int → Int} {s tx : Int → Int} {g : Nat → Int64} {r key : Int} (hst : l.stackTraces = false) (hx : 0 ≤ x ∧ x + 145 ≤ N) (ho : okX s n u len tx) (hy : (0 ≤ y ∧ y < N) ∧ (y < x ∨ x + 145 ≤ y)) (hg : σ y = gLA (ty 2) 1 g) (hr : 0 ≤ r ∧ r < 6) (hk : 0 ≤ key ∧ key < 100) (hm : mayK s r key) : gMetW l yL_keep cL_keep 5 (some .int) [(0, 10, 13, 13), (0, 10, 17, 34), (0, 10, 21, 15)] { frames := 8, cells := 1, slots := 6, locals := 242 } [.ref (ad x), .int (gI r), .int (gI key), .ref (ad y)] D ty ad N (xput ad ty σ x s n k u len tx) (gD (some (.int (gI 0))) ad N (xput ad ty (up σ y (gLA (ty 2) 1 (vp_updL g 0 (gI (rm s r 6 + 1)).toInt64))) x (keepS s r key) (pshN n) (pshK n k) (pshU n k u s) (len) (tx))) := by
  refine gMetW_of [some (.ref (ad x)), some (.int (gI r)), some (.int (gI key)), some (.ref (ad y)), none] hst (by decide +kernel) rfl (Nat.le_of_ble_eq_true rfl) rfl ?_
  intro X hl hD hty C hX hT
  subst hl hD hty
  refine r_aload_n C dL_keep_0 rfl rfl ?_
  refine r_iconst C dL_keep_1 ?_
  refine r_aload_n C dL_keep_2 rfl rfl ?_
  refine r_iload_n C dL_keep_3 rfl rfl ?_
  refine r_iload_n C dL_keep_4 rfl rfl ?_
  refine r_cV C cwL_39 (c_X4_keep (by omega) ho hr hk hm) dL_keep_5 rfl (by omega) xput_0 rfl rfl rfl (Nat.le_of_ble_eq_true rfl) ⟨Nat.le_of_ble_eq_true rfl, Nat.le_of_ble_eq_true rfl⟩ ⟨Nat.le_of_ble_eq_true rfl, Nat.le_of_ble_eq_true rfl⟩ ?_
  refine r_i2l C dL_keep_8 ?_
  refine r_last C dL_keep_9 (by omega) ((xput_x (by omega)).trans hg) (by omega) (by decide) ?_
  rw [up_xput (by omega)]
  refine r_goto (tgt := 25) C dL_keep_10 (by decide) ?_
  refine r_iconst C dL_keep_25 ?_
  exact r_iret C dL_keep_26 ⟨rfl, rfl, rfl, rfl⟩ (Nat.le_of_ble_eq_true rfl) (Nat.le_of_ble_eq_true rfl)

set_option maxRecDepth 100000 in
set_option maxHeartbeats 4000000 in
theorem w_L_keep_f1 {l : Launch} {D : va_G} {ty : Nat → ClassId} {ad : Int → Nat} {N : Int} {σ : Int → va_E} {x n k len y : Int} {u : Int → Int → Int} {s tx : Int → Int} {g : Nat → Int64} {r key : Int} (hst : l.stackTraces = false) (hx : 0 ≤ x ∧ x + 145 ≤ N) (ho : okX s n u len tx) (hy : (0 ≤ y ∧ y < N) ∧ (y < x ∨ x + 145 ≤ y)) (hg : σ y = gLA (ty 2) 1 g) (hnr : ¬ (0 ≤ r ∧ r < 6)) (hrz : -2147483648 ≤ r ∧ r < 2147483648) : gMetW l yL_keep cL_keep 5 (some .int) [(0, 10, 13, 13), (0, 10, 17, 34), (0, 10, 21, 15)] { frames := 8, cells := 1, slots := 6, locals := 242 } [.ref (ad x), .int (gI r), .int (gI key), .ref (ad y)] D ty ad N (xput ad ty σ x s n k u len tx) (gD (some (.int (gI 1))) ad N (xput ad ty σ x s n k u len tx)) := by
  refine gMetW_of [some (.ref (ad x)), some (.int (gI r)), some (.int (gI key)), some (.ref (ad y)), none] hst (by decide +kernel) rfl (Nat.le_of_ble_eq_true rfl) rfl ?_
  intro X hl hD hty C hX hT
  subst hl hD hty
  refine r_aload_n C dL_keep_0 rfl rfl ?_
  refine r_iconst C dL_keep_1 ?_
  refine r_aload_n C dL_keep_2 rfl rfl ?_
  refine r_iload_n C dL_keep_3 rfl rfl ?_
  refine r_iload_n C dL_keep_4 rfl rfl ?_
  refine r_catV C hX hT cwL_39 (t_X4_keep_f1 hX.1 (by omega) ho hnr hrz) dL_keep_5 rfl (by omega) xput_0 rfl rfl (Nat.le_of_ble_eq_true rfl) ⟨Nat.le_of_ble_eq_true rfl, Nat.le_of_ble_eq_true rfl⟩ ⟨Nat.le_of_ble_eq_true rfl, Nat.le_of_ble_eq_true rfl⟩ [] ⟨0, 10, 13, 13⟩ [⟨0, 10, 17, 34⟩, ⟨0, 10, 21, 15⟩] rfl (fun _ h => absurd h List.not_mem_nil) rfl (by decide) klL_13 hX.2.2.1.1 (fun q9 => ?_)
  show V X 1 6 _ 13 _ _ _ _ _
  refine r_astore C dL_keep_13 (Nat.le_of_ble_eq_true rfl) rfl ?_
  dsimp only [List.set]
  refine r_iconst C dL_keep_15 ?_
  exact r_iret C dL_keep_16 ⟨rfl, rfl, rfl, rfl⟩ (Nat.le_of_ble_eq_true rfl) (Nat.le_of_ble_eq_true rfl)

set_option maxRecDepth 100000 in
set_option maxHeartbeats 4000000 in
theorem w_L_keep_f2 {l : Launch} {D : va_G} {ty : Nat → ClassId} {ad : Int → Nat} {N : Int} {σ : Int → va_E} {x n k len y : Int} {u : Int → Int → Int} {s tx : Int → Int} {g : Nat → Int64} {r key : Int} (hst : l.stackTraces = false) (hx : 0 ≤ x ∧ x + 145 ≤ N) (ho : okX s n u len tx) (hy : (0 ≤ y ∧ y < N) ∧ (y < x ∨ x + 145 ≤ y)) (hg : σ y = gLA (ty 2) 1 g) (hr : 0 ≤ r ∧ r < 6) (hnk : ¬ (0 ≤ key ∧ key < 100)) (hrz : -2147483648 ≤ key ∧ key < 2147483648) : gMetW l yL_keep cL_keep 5 (some .int) [(0, 10, 13, 13), (0, 10, 17, 34), (0, 10, 21, 15)] { frames := 8, cells := 1, slots := 6, locals := 242 } [.ref (ad x), .int (gI r), .int (gI key), .ref (ad y)] D ty ad N (xput ad ty σ x s n k u len tx) (gD (some (.int (gI 2))) ad N (xput ad ty σ x s n k u len tx)) := by
  refine gMetW_of [some (.ref (ad x)), some (.int (gI r)), some (.int (gI key)), some (.ref (ad y)), none] hst (by decide +kernel) rfl (Nat.le_of_ble_eq_true rfl) rfl ?_
  intro X hl hD hty C hX hT
  subst hl hD hty
  refine r_aload_n C dL_keep_0 rfl rfl ?_
  refine r_iconst C dL_keep_1 ?_
  refine r_aload_n C dL_keep_2 rfl rfl ?_
  refine r_iload_n C dL_keep_3 rfl rfl ?_
  refine r_iload_n C dL_keep_4 rfl rfl ?_
  refine r_catV C hX hT cwL_39 (t_X4_keep_f2 hX.1 (by omega) ho hr hnk hrz) dL_keep_5 rfl (by omega) xput_0 rfl rfl (Nat.le_of_ble_eq_true rfl) ⟨Nat.le_of_ble_eq_true rfl, Nat.le_of_ble_eq_true rfl⟩ ⟨Nat.le_of_ble_eq_true rfl, Nat.le_of_ble_eq_true rfl⟩ [⟨0, 10, 13, 13⟩] ⟨0, 10, 17, 34⟩ [⟨0, 10, 21, 15⟩] rfl (List.forall_mem_cons.mpr ⟨Or.inr ⟨by decide, eI, klL_13, hX.2.2.2.1.2.1⟩, (fun _ h => absurd h List.not_mem_nil)⟩) rfl (by decide) klL_34 hX.2.2.1.2.1 (fun q9 => ?_)
  show V X 1 6 _ 17 _ _ _ _ _
  refine r_astore C dL_keep_17 (Nat.le_of_ble_eq_true rfl) rfl ?_
  dsimp only [List.set]
  refine r_iconst C dL_keep_19 ?_
  exact r_iret C dL_keep_20 ⟨rfl, rfl, rfl, rfl⟩ (Nat.le_of_ble_eq_true rfl) (Nat.le_of_ble_eq_true rfl)

set_option maxRecDepth 100000 in
set_option maxHeartbeats 4000000 in
theorem w_L_keep_f3 {l : Launch} {D : va_G} {ty : Nat → ClassId} {ad : Int → Nat} {N : Int} {σ : Int → va_E} {x n k len y : Int} {u : Int → Int → Int} {s tx : Int → Int} {g : Nat → Int64} {r key : Int} (hst : l.stackTraces = false) (hx : 0 ≤ x ∧ x + 145 ≤ N) (ho : okX s n u len tx) (hy : (0 ≤ y ∧ y < N) ∧ (y < x ∨ x + 145 ≤ y)) (hg : σ y = gLA (ty 2) 1 g) (hr : 0 ≤ r ∧ r < 6) (hk : 0 ≤ key ∧ key < 100) (hm : ¬ mayK s r key) : gMetW l yL_keep cL_keep 5 (some .int) [(0, 10, 13, 13), (0, 10, 17, 34), (0, 10, 21, 15)] { frames := 8, cells := 1, slots := 6, locals := 242 } [.ref (ad x), .int (gI r), .int (gI key), .ref (ad y)] D ty ad N (xput ad ty σ x s n k u len tx) (gD (some (.int (gI 3))) ad N (xput ad ty σ x s n k u len tx)) := by
  refine gMetW_of [some (.ref (ad x)), some (.int (gI r)), some (.int (gI key)), some (.ref (ad y)), none] hst (by decide +kernel) rfl (Nat.le_of_ble_eq_true rfl) rfl ?_
  intro X hl hD hty C hX hT
  subst hl hD hty
  refine r_aload_n C dL_keep_0 rfl rfl ?_
  refine r_iconst C dL_keep_1 ?_
  refine r_aload_n C dL_keep_2 rfl rfl ?_
  refine r_iload_n C dL_keep_3 rfl rfl ?_
  refine r_iload_n C dL_keep_4 rfl rfl ?_
  refine r_catV C hX hT cwL_39 (t_X4_keep_f3 hX.1 (by omega) ho hr hk hm) dL_keep_5 rfl (by omega) xput_0 rfl rfl (Nat.le_of_ble_eq_true rfl) ⟨Nat.le_of_ble_eq_true rfl, Nat.le_of_ble_eq_true rfl⟩ ⟨Nat.le_of_ble_eq_true rfl, Nat.le_of_ble_eq_true rfl⟩ [⟨0, 10, 13, 13⟩, ⟨0, 10, 17, 34⟩] ⟨0, 10, 21, 15⟩ [] rfl (List.forall_mem_cons.mpr ⟨Or.inr ⟨by decide, eI, klL_13, hX.2.2.2.1.1⟩, (List.forall_mem_cons.mpr ⟨Or.inr ⟨by decide, eA, klL_34, hX.2.2.2.1.2.2⟩, (fun _ h => absurd h List.not_mem_nil)⟩)⟩) rfl (by decide) klL_15 hX.2.2.1.2.2 (fun q9 => ?_)
  show V X 1 6 _ 21 _ _ _ _ _
  refine r_astore C dL_keep_21 (Nat.le_of_ble_eq_true rfl) rfl ?_
  dsimp only [List.set]
  refine r_iconst C dL_keep_23 ?_
  exact r_iret C dL_keep_24 ⟨rfl, rfl, rfl, rfl⟩ (Nat.le_of_ble_eq_true rfl) (Nat.le_of_ble_eq_true rfl)

set_option maxRecDepth 100000 in
set_option maxHeartbeats 4000000 in
theorem w_L_read {l : Launch} {D : va_G} {ty : Nat → ClassId} {ad : Int → Nat} {N : Int} {σ : Int → va_E} {x n k len y : Int} {u : Int → Int → Int} {s tx : Int → Int} {g : Nat → Int64} {key : Int} (hst : l.stackTraces = false) (hx : 0 ≤ x ∧ x + 145 ≤ N) (ho : okX s n u len tx) (hy : (0 ≤ y ∧ y < N) ∧ (y < x ∨ x + 145 ≤ y)) (hg : σ y = gLA (ty 2) 1 g) (hk : 0 ≤ key ∧ key < 100) : gMetW l yL_read cL_read 4 (some .int) [(0, 9, 12, 34)] { frames := 8, cells := 1, slots := 6, locals := 241 } [.ref (ad x), .int (gI key), .ref (ad y)] D ty ad N (xput ad ty σ x s n k u len tx) (gD (some (.int (gI 0))) ad N (xput ad ty (up σ y (gLA (ty 2) 1 (vp_updL g 0 (gI (rof s key)).toInt64))) x (rdS s key) (pshN n) (pshK n k) (pshU n k u s) (len) (tx))) := by
  refine gMetW_of [some (.ref (ad x)), some (.int (gI key)), some (.ref (ad y)), none] hst (by decide +kernel) rfl (Nat.le_of_ble_eq_true rfl) rfl ?_
  intro X hl hD hty C hX hT
  subst hl hD hty
  refine r_aload_n C dL_read_0 rfl rfl ?_
  refine r_iconst C dL_read_1 ?_
  refine r_aload_n C dL_read_2 rfl rfl ?_
  refine r_iload_n C dL_read_3 rfl rfl ?_
  refine r_cV C cwL_42 (c_X4_read (by omega) ho hk) dL_read_4 rfl (by omega) xput_0 rfl rfl rfl (Nat.le_of_ble_eq_true rfl) ⟨Nat.le_of_ble_eq_true rfl, Nat.le_of_ble_eq_true rfl⟩ ⟨Nat.le_of_ble_eq_true rfl, Nat.le_of_ble_eq_true rfl⟩ ?_
  refine r_i2l C dL_read_7 ?_
  refine r_last C dL_read_8 (by omega) ((xput_x (by omega)).trans hg) (by omega) (by decide) ?_
  rw [up_xput (by omega)]
  refine r_goto (tgt := 15) C dL_read_9 (by decide) ?_
  refine r_iconst C dL_read_15 ?_
  exact r_iret C dL_read_16 ⟨rfl, rfl, rfl, rfl⟩ (Nat.le_of_ble_eq_true rfl) (Nat.le_of_ble_eq_true rfl)

set_option maxRecDepth 100000 in
set_option maxHeartbeats 4000000 in
theorem w_L_read_f1 {l : Launch} {D : va_G} {ty : Nat → ClassId} {ad : Int → Nat} {N : Int} {σ : Int → va_E} {x n k len y : Int} {u : Int → Int → Int} {s tx : Int → Int} {g : Nat → Int64} {key : Int} (hst : l.stackTraces = false) (hx : 0 ≤ x ∧ x + 145 ≤ N) (ho : okX s n u len tx) (hy : (0 ≤ y ∧ y < N) ∧ (y < x ∨ x + 145 ≤ y)) (hg : σ y = gLA (ty 2) 1 g) (hnk : ¬ (0 ≤ key ∧ key < 100)) (hrz : -2147483648 ≤ key ∧ key < 2147483648) : gMetW l yL_read cL_read 4 (some .int) [(0, 9, 12, 34)] { frames := 8, cells := 1, slots := 6, locals := 241 } [.ref (ad x), .int (gI key), .ref (ad y)] D ty ad N (xput ad ty σ x s n k u len tx) (gD (some (.int (gI 1))) ad N (xput ad ty σ x s n k u len tx)) := by
  refine gMetW_of [some (.ref (ad x)), some (.int (gI key)), some (.ref (ad y)), none] hst (by decide +kernel) rfl (Nat.le_of_ble_eq_true rfl) rfl ?_
  intro X hl hD hty C hX hT
  subst hl hD hty
  refine r_aload_n C dL_read_0 rfl rfl ?_
  refine r_iconst C dL_read_1 ?_
  refine r_aload_n C dL_read_2 rfl rfl ?_
  refine r_iload_n C dL_read_3 rfl rfl ?_
  refine r_catV C hX hT cwL_42 (t_X4_read_f1 hX.1 (by omega) ho hnk hrz) dL_read_4 rfl (by omega) xput_0 rfl rfl (Nat.le_of_ble_eq_true rfl) ⟨Nat.le_of_ble_eq_true rfl, Nat.le_of_ble_eq_true rfl⟩ ⟨Nat.le_of_ble_eq_true rfl, Nat.le_of_ble_eq_true rfl⟩ [] ⟨0, 9, 12, 34⟩ [] rfl (fun _ h => absurd h List.not_mem_nil) rfl (by decide) klL_34 hX.2.2.1.2.1 (fun q9 => ?_)
  show V X 1 6 _ 12 _ _ _ _ _
  refine r_astore_n C dL_read_12 rfl (Nat.le_of_ble_eq_true rfl) rfl ?_
  dsimp only [List.set]
  refine r_iconst C dL_read_13 ?_
  exact r_iret C dL_read_14 ⟨rfl, rfl, rfl, rfl⟩ (Nat.le_of_ble_eq_true rfl) (Nat.le_of_ble_eq_true rfl)

set_option maxRecDepth 100000 in
set_option maxHeartbeats 4000000 in
theorem w_L_pass {l : Launch} {D : va_G} {ty : Nat → ClassId} {ad : Int → Nat} {N : Int} {σ : Int → va_E} {x n k len y : Int} {u : Int → Int → Int} {s tx : Int → Int} {g : Nat → Int64} {z : Int} (hst : l.stackTraces = false) (hx : 0 ≤ x ∧ x + 145 ≤ N) (ho : okX s n u len tx) (hy : (0 ≤ y ∧ y < N) ∧ (y < x ∨ x + 145 ≤ y)) (hg : σ y = gLA (ty 2) 1 g) (hz : 1 ≤ z ∧ z ≤ 60) : gMetW l yL_pass cL_pass 4 (some .int) [(0, 9, 12, 34)] { frames := 7, cells := 1, slots := 6, locals := 221 } [.ref (ad x), .int (gI z), .ref (ad y)] D ty ad N (xput ad ty σ x s n k u len tx) (gD (some (.int (gI 0))) ad N (xput ad ty (up σ y (gLA (ty 2) 1 (vp_updL g 0 (gI ((bts z.toNat s 0).2)).toInt64))) x ((bts z.toNat s 0).1) (pshN n) (pshK n k) (pshU n k u s) (len) (tx))) := by
  refine gMetW_of [some (.ref (ad x)), some (.int (gI z)), some (.ref (ad y)), none] hst (by decide +kernel) rfl (Nat.le_of_ble_eq_true rfl) rfl ?_
  intro X hl hD hty C hX hT
  subst hl hD hty
  refine r_aload_n C dL_pass_0 rfl rfl ?_
  refine r_iconst C dL_pass_1 ?_
  refine r_aload_n C dL_pass_2 rfl rfl ?_
  refine r_iload_n C dL_pass_3 rfl rfl ?_
  refine r_cV C cwL_45 (c_X4_pass (by omega) ho hz) dL_pass_4 rfl (by omega) xput_0 rfl rfl rfl (Nat.le_of_ble_eq_true rfl) ⟨Nat.le_of_ble_eq_true rfl, Nat.le_of_ble_eq_true rfl⟩ ⟨Nat.le_of_ble_eq_true rfl, Nat.le_of_ble_eq_true rfl⟩ ?_
  refine r_i2l C dL_pass_7 ?_
  refine r_last C dL_pass_8 (by omega) ((xput_x (by omega)).trans hg) (by omega) (by decide) ?_
  rw [up_xput (by omega)]
  refine r_goto (tgt := 15) C dL_pass_9 (by decide) ?_
  refine r_iconst C dL_pass_15 ?_
  exact r_iret C dL_pass_16 ⟨rfl, rfl, rfl, rfl⟩ (Nat.le_of_ble_eq_true rfl) (Nat.le_of_ble_eq_true rfl)

set_option maxRecDepth 100000 in
set_option maxHeartbeats 4000000 in
theorem w_L_pass_f1 {l : Launch} {D : va_G} {ty : Nat → ClassId} {ad : Int → Nat} {N : Int} {σ : Int → va_E} {x n k len y : Int} {u : Int → Int → Int} {s tx : Int → Int} {g : Nat → Int64} {z : Int} (hst : l.stackTraces = false) (hx : 0 ≤ x ∧ x + 145 ≤ N) (ho : okX s n u len tx) (hy : (0 ≤ y ∧ y < N) ∧ (y < x ∨ x + 145 ≤ y)) (hg : σ y = gLA (ty 2) 1 g) (hz : ¬ (1 ≤ z ∧ z ≤ 60)) (hrz : -2147483648 ≤ z ∧ z < 2147483648) : gMetW l yL_pass cL_pass 4 (some .int) [(0, 9, 12, 34)] { frames := 7, cells := 1, slots := 6, locals := 221 } [.ref (ad x), .int (gI z), .ref (ad y)] D ty ad N (xput ad ty σ x s n k u len tx) (gD (some (.int (gI 1))) ad N (xput ad ty σ x s n k u len tx)) := by
  refine gMetW_of [some (.ref (ad x)), some (.int (gI z)), some (.ref (ad y)), none] hst (by decide +kernel) rfl (Nat.le_of_ble_eq_true rfl) rfl ?_
  intro X hl hD hty C hX hT
  subst hl hD hty
  refine r_aload_n C dL_pass_0 rfl rfl ?_
  refine r_iconst C dL_pass_1 ?_
  refine r_aload_n C dL_pass_2 rfl rfl ?_
  refine r_iload_n C dL_pass_3 rfl rfl ?_
  refine r_catV C hX hT cwL_45 (t_X4_pass_f1 hX.1 (by omega) ho hz hrz) dL_pass_4 rfl (by omega) xput_0 rfl rfl (Nat.le_of_ble_eq_true rfl) ⟨Nat.le_of_ble_eq_true rfl, Nat.le_of_ble_eq_true rfl⟩ ⟨Nat.le_of_ble_eq_true rfl, Nat.le_of_ble_eq_true rfl⟩ [] ⟨0, 9, 12, 34⟩ [] rfl (fun _ h => absurd h List.not_mem_nil) rfl (by decide) klL_34 hX.2.2.1.2.1 (fun q9 => ?_)
  show V X 1 6 _ 12 _ _ _ _ _
  refine r_astore_n C dL_pass_12 rfl (Nat.le_of_ble_eq_true rfl) rfl ?_
  dsimp only [List.set]
  refine r_iconst C dL_pass_13 ?_
  exact r_iret C dL_pass_14 ⟨rfl, rfl, rfl, rfl⟩ (Nat.le_of_ble_eq_true rfl) (Nat.le_of_ble_eq_true rfl)

set_option maxRecDepth 100000 in
set_option maxHeartbeats 4000000 in
theorem w_L_append {l : Launch} {D : va_G} {ty : Nat → ClassId} {ad : Int → Nat} {N : Int} {σ : Int → va_E} {x n k len y : Int} {u : Int → Int → Int} {s tx : Int → Int} {g : Nat → Int64} {z : Int} (hst : l.stackTraces = false) (hx : 0 ≤ x ∧ x + 145 ≤ N) (ho : okX s n u len tx) (hy : (0 ≤ y ∧ y < N) ∧ (y < x ∨ x + 145 ≤ y)) (hg : σ y = gLA (ty 2) 1 g) (hz : 33 ≤ z ∧ z ≤ 126) (hl : len < 60) : gMetW l yL_append cL_append 4 (some .int) [(0, 9, 12, 34), (0, 9, 15, 15)] { frames := 7, cells := 1, slots := 6, locals := 221 } [.ref (ad x), .int (gI z), .ref (ad y)] D ty ad N (xput ad ty σ x s n k u len tx) (gD (some (.int (gI 0))) ad N (xput ad ty (up σ y (gLA (ty 2) 1 (vp_updL g 0 (gI (len + 1)).toInt64))) x (s) (n) (k) (u) (len + 1) (up tx len z))) := by
  refine gMetW_of [some (.ref (ad x)), some (.int (gI z)), some (.ref (ad y)), none] hst (by decide +kernel) rfl (Nat.le_of_ble_eq_true rfl) rfl ?_
  intro X hl hD hty C hX hT
  subst hl hD hty
  refine r_aload_n C dL_append_0 rfl rfl ?_
  refine r_iconst C dL_append_1 ?_
  refine r_aload_n C dL_append_2 rfl rfl ?_
  refine r_iload_n C dL_append_3 rfl rfl ?_
  refine r_cV C cwL_48 (c_X4_append (by omega) ho hz hl) dL_append_4 rfl (by omega) xput_0 rfl rfl rfl (Nat.le_of_ble_eq_true rfl) ⟨Nat.le_of_ble_eq_true rfl, Nat.le_of_ble_eq_true rfl⟩ ⟨Nat.le_of_ble_eq_true rfl, Nat.le_of_ble_eq_true rfl⟩ ?_
  refine r_i2l C dL_append_7 ?_
  refine r_last C dL_append_8 (by omega) ((xput_x (by omega)).trans hg) (by omega) (by decide) ?_
  rw [up_xput (by omega)]
  refine r_goto (tgt := 18) C dL_append_9 (by decide) ?_
  refine r_iconst C dL_append_18 ?_
  exact r_iret C dL_append_19 ⟨rfl, rfl, rfl, rfl⟩ (Nat.le_of_ble_eq_true rfl) (Nat.le_of_ble_eq_true rfl)

set_option maxRecDepth 100000 in
set_option maxHeartbeats 4000000 in
theorem w_L_append_f1 {l : Launch} {D : va_G} {ty : Nat → ClassId} {ad : Int → Nat} {N : Int} {σ : Int → va_E} {x n k len y : Int} {u : Int → Int → Int} {s tx : Int → Int} {g : Nat → Int64} {z : Int} (hst : l.stackTraces = false) (hx : 0 ≤ x ∧ x + 145 ≤ N) (ho : okX s n u len tx) (hy : (0 ≤ y ∧ y < N) ∧ (y < x ∨ x + 145 ≤ y)) (hg : σ y = gLA (ty 2) 1 g) (hz : ¬ (33 ≤ z ∧ z ≤ 126)) (hrz : -2147483648 ≤ z ∧ z < 2147483648) : gMetW l yL_append cL_append 4 (some .int) [(0, 9, 12, 34), (0, 9, 15, 15)] { frames := 7, cells := 1, slots := 6, locals := 221 } [.ref (ad x), .int (gI z), .ref (ad y)] D ty ad N (xput ad ty σ x s n k u len tx) (gD (some (.int (gI 1))) ad N (xput ad ty σ x s n k u len tx)) := by
  refine gMetW_of [some (.ref (ad x)), some (.int (gI z)), some (.ref (ad y)), none] hst (by decide +kernel) rfl (Nat.le_of_ble_eq_true rfl) rfl ?_
  intro X hl hD hty C hX hT
  subst hl hD hty
  refine r_aload_n C dL_append_0 rfl rfl ?_
  refine r_iconst C dL_append_1 ?_
  refine r_aload_n C dL_append_2 rfl rfl ?_
  refine r_iload_n C dL_append_3 rfl rfl ?_
  refine r_catV C hX hT cwL_48 (t_X4_append_f1 hX.1 (by omega) ho hz hrz) dL_append_4 rfl (by omega) xput_0 rfl rfl (Nat.le_of_ble_eq_true rfl) ⟨Nat.le_of_ble_eq_true rfl, Nat.le_of_ble_eq_true rfl⟩ ⟨Nat.le_of_ble_eq_true rfl, Nat.le_of_ble_eq_true rfl⟩ [] ⟨0, 9, 12, 34⟩ [⟨0, 9, 15, 15⟩] rfl (fun _ h => absurd h List.not_mem_nil) rfl (by decide) klL_34 hX.2.2.1.2.1 (fun q9 => ?_)
  show V X 1 6 _ 12 _ _ _ _ _
  refine r_astore_n C dL_append_12 rfl (Nat.le_of_ble_eq_true rfl) rfl ?_
  dsimp only [List.set]
  refine r_iconst C dL_append_13 ?_
  exact r_iret C dL_append_14 ⟨rfl, rfl, rfl, rfl⟩ (Nat.le_of_ble_eq_true rfl) (Nat.le_of_ble_eq_true rfl)

set_option maxRecDepth 100000 in
set_option maxHeartbeats 4000000 in
theorem w_L_append_f2 {l : Launch} {D : va_G} {ty : Nat → ClassId} {ad : Int → Nat} {N : Int} {σ : Int → va_E} {x n k len y : Int} {u : Int → Int → Int} {s tx : Int → Int} {g : Nat → Int64} {z : Int} (hst : l.stackTraces = false) (hx : 0 ≤ x ∧ x + 145 ≤ N) (ho : okX s n u len tx) (hy : (0 ≤ y ∧ y < N) ∧ (y < x ∨ x + 145 ≤ y)) (hg : σ y = gLA (ty 2) 1 g) (hz : 33 ≤ z ∧ z ≤ 126) (hl : ¬ len < 60) : gMetW l yL_append cL_append 4 (some .int) [(0, 9, 12, 34), (0, 9, 15, 15)] { frames := 7, cells := 1, slots := 6, locals := 221 } [.ref (ad x), .int (gI z), .ref (ad y)] D ty ad N (xput ad ty σ x s n k u len tx) (gD (some (.int (gI 2))) ad N (xput ad ty σ x s n k u len tx)) := by
  refine gMetW_of [some (.ref (ad x)), some (.int (gI z)), some (.ref (ad y)), none] hst (by decide +kernel) rfl (Nat.le_of_ble_eq_true rfl) rfl ?_
  intro X hl hD hty C hX hT
  subst hl hD hty
  refine r_aload_n C dL_append_0 rfl rfl ?_
  refine r_iconst C dL_append_1 ?_
  refine r_aload_n C dL_append_2 rfl rfl ?_
  refine r_iload_n C dL_append_3 rfl rfl ?_
  refine r_catV C hX hT cwL_48 (t_X4_append_f2 hX.1 (by omega) ho hz hl) dL_append_4 rfl (by omega) xput_0 rfl rfl (Nat.le_of_ble_eq_true rfl) ⟨Nat.le_of_ble_eq_true rfl, Nat.le_of_ble_eq_true rfl⟩ ⟨Nat.le_of_ble_eq_true rfl, Nat.le_of_ble_eq_true rfl⟩ [⟨0, 9, 12, 34⟩] ⟨0, 9, 15, 15⟩ [] rfl (List.forall_mem_cons.mpr ⟨Or.inr ⟨by decide, eA, klL_34, hX.2.2.2.1.2.2⟩, (fun _ h => absurd h List.not_mem_nil)⟩) rfl (by decide) klL_15 hX.2.2.1.2.2 (fun q9 => ?_)
  show V X 1 6 _ 15 _ _ _ _ _
  refine r_astore_n C dL_append_15 rfl (Nat.le_of_ble_eq_true rfl) rfl ?_
  dsimp only [List.set]
  refine r_iconst C dL_append_16 ?_
  exact r_iret C dL_append_17 ⟨rfl, rfl, rfl, rfl⟩ (Nat.le_of_ble_eq_true rfl) (Nat.le_of_ble_eq_true rfl)

set_option maxRecDepth 100000 in
set_option maxHeartbeats 4000000 in
theorem w_L_play {l : Launch} {D : va_G} {ty : Nat → ClassId} {ad : Int → Nat} {N : Int} {σ : Int → va_E} {x n k len y : Int} {u : Int → Int → Int} {s tx : Int → Int} {g : Nat → Int64}  (hst : l.stackTraces = false) (hx : 0 ≤ x ∧ x + 145 ≤ N) (ho : okX s n u len tx) (hy : (0 ≤ y ∧ y < N) ∧ (y < x ∨ x + 145 ≤ y)) (hg : σ y = gLA (ty 2) 1 g) (hc : cmpl len tx) (hv : vT len tx) : gMetW l yL_play cL_play 3 (some .int) [(0, 8, 11, 34)] { frames := 8, cells := 1, slots := 6, locals := 221 } [.ref (ad x), .ref (ad y)] D ty ad N (xput ad ty σ x s n k u len tx) (gD (some (.int (gI 0))) ad N (xput ad ty (up σ y (gLA (ty 2) 1 (vp_updL g 0 (gI ((plN len tx len.toNat 0 0 s).2)).toInt64))) x ((plN len tx len.toNat 0 0 s).1) (pshN n) (pshK n k) (pshU n k u s) (0) (tx))) := by
  refine gMetW_of [some (.ref (ad x)), some (.ref (ad y)), none] hst (by decide +kernel) rfl (Nat.le_of_ble_eq_true rfl) rfl ?_
  intro X hl hD hty C hX hT
  subst hl hD hty
  refine r_aload_n C dL_play_0 rfl rfl ?_
  refine r_iconst C dL_play_1 ?_
  refine r_aload_n C dL_play_2 rfl rfl ?_
  refine r_cV C cwL_51 (c_X4_play (by omega) ho hc hv) dL_play_3 rfl (by omega) xput_0 rfl rfl rfl (Nat.le_of_ble_eq_true rfl) ⟨Nat.le_of_ble_eq_true rfl, Nat.le_of_ble_eq_true rfl⟩ ⟨Nat.le_of_ble_eq_true rfl, Nat.le_of_ble_eq_true rfl⟩ ?_
  refine r_i2l C dL_play_6 ?_
  refine r_last C dL_play_7 (by omega) ((xput_x (by omega)).trans hg) (by omega) (by decide) ?_
  rw [up_xput (by omega)]
  refine r_goto (tgt := 14) C dL_play_8 (by decide) ?_
  refine r_iconst C dL_play_14 ?_
  exact r_iret C dL_play_15 ⟨rfl, rfl, rfl, rfl⟩ (Nat.le_of_ble_eq_true rfl) (Nat.le_of_ble_eq_true rfl)

set_option maxRecDepth 100000 in
set_option maxHeartbeats 4000000 in
theorem w_L_play_f1 {l : Launch} {D : va_G} {ty : Nat → ClassId} {ad : Int → Nat} {N : Int} {σ : Int → va_E} {x n k len y : Int} {u : Int → Int → Int} {s tx : Int → Int} {g : Nat → Int64}  (hst : l.stackTraces = false) (hx : 0 ≤ x ∧ x + 145 ≤ N) (ho : okX s n u len tx) (hy : (0 ≤ y ∧ y < N) ∧ (y < x ∨ x + 145 ≤ y)) (hg : σ y = gLA (ty 2) 1 g) (hc : ¬ cmpl len tx) : gMetW l yL_play cL_play 3 (some .int) [(0, 8, 11, 34)] { frames := 8, cells := 1, slots := 6, locals := 221 } [.ref (ad x), .ref (ad y)] D ty ad N (xput ad ty σ x s n k u len tx) (gD (some (.int (gI 1))) ad N (xput ad ty σ x s n k u len tx)) := by
  refine gMetW_of [some (.ref (ad x)), some (.ref (ad y)), none] hst (by decide +kernel) rfl (Nat.le_of_ble_eq_true rfl) rfl ?_
  intro X hl hD hty C hX hT
  subst hl hD hty
  refine r_aload_n C dL_play_0 rfl rfl ?_
  refine r_iconst C dL_play_1 ?_
  refine r_aload_n C dL_play_2 rfl rfl ?_
  refine r_catV C hX hT cwL_51 (t_X4_play_f1 hX.1 (by omega) ho hc) dL_play_3 rfl (by omega) xput_0 rfl rfl (Nat.le_of_ble_eq_true rfl) ⟨Nat.le_of_ble_eq_true rfl, Nat.le_of_ble_eq_true rfl⟩ ⟨Nat.le_of_ble_eq_true rfl, Nat.le_of_ble_eq_true rfl⟩ [] ⟨0, 8, 11, 34⟩ [] rfl (fun _ h => absurd h List.not_mem_nil) rfl (by decide) klL_34 hX.2.2.1.2.1 (fun q9 => ?_)
  show V X 1 6 _ 11 _ _ _ _ _
  refine r_astore_n C dL_play_11 rfl (Nat.le_of_ble_eq_true rfl) rfl ?_
  dsimp only [List.set]
  refine r_iconst C dL_play_12 ?_
  exact r_iret C dL_play_13 ⟨rfl, rfl, rfl, rfl⟩ (Nat.le_of_ble_eq_true rfl) (Nat.le_of_ble_eq_true rfl)

set_option maxRecDepth 100000 in
set_option maxHeartbeats 4000000 in
theorem w_L_undo {l : Launch} {D : va_G} {ty : Nat → ClassId} {ad : Int → Nat} {N : Int} {σ : Int → va_E} {x n k len y : Int} {u : Int → Int → Int} {s tx : Int → Int} {g : Nat → Int64}  (hst : l.stackTraces = false) (hx : 0 ≤ x ∧ x + 145 ≤ N) (ho : okX s n u len tx) (hy : (0 ≤ y ∧ y < N) ∧ (y < x ∨ x + 145 ≤ y)) (hg : σ y = gLA (ty 2) 1 g) (hn1 : 1 ≤ n) : gMetW l yL_undo cL_undo 3 (some .int) [(0, 8, 11, 15)] { frames := 7, cells := 1, slots := 6, locals := 220 } [.ref (ad x), .ref (ad y)] D ty ad N (xput ad ty σ x s n k u len tx) (gD (some (.int (gI 0))) ad N (xput ad ty (up σ y (gLA (ty 2) 1 (vp_updL g 0 (gI (n - 1)).toInt64))) x (u ((n - 1 + k) % 6)) (n - 1) (k) (u) (len) (tx))) := by
  refine gMetW_of [some (.ref (ad x)), some (.ref (ad y)), none] hst (by decide +kernel) rfl (Nat.le_of_ble_eq_true rfl) rfl ?_
  intro X hl hD hty C hX hT
  subst hl hD hty
  refine r_aload_n C dL_undo_0 rfl rfl ?_
  refine r_iconst C dL_undo_1 ?_
  refine r_aload_n C dL_undo_2 rfl rfl ?_
  refine r_cV C cwL_55 (c_X4_undo (by omega) ho hn1) dL_undo_3 rfl (by omega) xput_0 rfl rfl rfl (Nat.le_of_ble_eq_true rfl) ⟨Nat.le_of_ble_eq_true rfl, Nat.le_of_ble_eq_true rfl⟩ ⟨Nat.le_of_ble_eq_true rfl, Nat.le_of_ble_eq_true rfl⟩ ?_
  refine r_i2l C dL_undo_6 ?_
  refine r_last C dL_undo_7 (by omega) ((xput_x (by omega)).trans hg) (by omega) (by decide) ?_
  rw [up_xput (by omega)]
  refine r_goto (tgt := 14) C dL_undo_8 (by decide) ?_
  refine r_iconst C dL_undo_14 ?_
  exact r_iret C dL_undo_15 ⟨rfl, rfl, rfl, rfl⟩ (Nat.le_of_ble_eq_true rfl) (Nat.le_of_ble_eq_true rfl)

set_option maxRecDepth 100000 in
set_option maxHeartbeats 4000000 in
theorem w_L_undo_f1 {l : Launch} {D : va_G} {ty : Nat → ClassId} {ad : Int → Nat} {N : Int} {σ : Int → va_E} {x n k len y : Int} {u : Int → Int → Int} {s tx : Int → Int} {g : Nat → Int64}  (hst : l.stackTraces = false) (hx : 0 ≤ x ∧ x + 145 ≤ N) (ho : okX s n u len tx) (hy : (0 ≤ y ∧ y < N) ∧ (y < x ∨ x + 145 ≤ y)) (hg : σ y = gLA (ty 2) 1 g) (hn0 : n = 0) : gMetW l yL_undo cL_undo 3 (some .int) [(0, 8, 11, 15)] { frames := 7, cells := 1, slots := 6, locals := 220 } [.ref (ad x), .ref (ad y)] D ty ad N (xput ad ty σ x s n k u len tx) (gD (some (.int (gI 1))) ad N (xput ad ty σ x s n k u len tx)) := by
  refine gMetW_of [some (.ref (ad x)), some (.ref (ad y)), none] hst (by decide +kernel) rfl (Nat.le_of_ble_eq_true rfl) rfl ?_
  intro X hl hD hty C hX hT
  subst hl hD hty
  refine r_aload_n C dL_undo_0 rfl rfl ?_
  refine r_iconst C dL_undo_1 ?_
  refine r_aload_n C dL_undo_2 rfl rfl ?_
  refine r_catV C hX hT cwL_55 (t_X4_undo_f1 hX.1 (by omega) ho hn0) dL_undo_3 rfl (by omega) xput_0 rfl rfl (Nat.le_of_ble_eq_true rfl) ⟨Nat.le_of_ble_eq_true rfl, Nat.le_of_ble_eq_true rfl⟩ ⟨Nat.le_of_ble_eq_true rfl, Nat.le_of_ble_eq_true rfl⟩ [] ⟨0, 8, 11, 15⟩ [] rfl (fun _ h => absurd h List.not_mem_nil) rfl (by decide) klL_15 hX.2.2.1.2.2 (fun q9 => ?_)
  show V X 1 6 _ 11 _ _ _ _ _
  refine r_astore_n C dL_undo_11 rfl (Nat.le_of_ble_eq_true rfl) rfl ?_
  dsimp only [List.set]
  refine r_iconst C dL_undo_12 ?_
  exact r_iret C dL_undo_13 ⟨rfl, rfl, rfl, rfl⟩ (Nat.le_of_ble_eq_true rfl) (Nat.le_of_ble_eq_true rfl)

set_option maxRecDepth 100000 in
set_option maxHeartbeats 4000000 in
theorem w_L_room {l : Launch} {D : va_G} {ty : Nat → ClassId} {ad : Int → Nat} {N : Int} {σ : Int → va_E} {x n k len y : Int} {u : Int → Int → Int} {s tx : Int → Int} {g : Nat → Int64} {r w : Int} (hst : l.stackTraces = false) (hx : 0 ≤ x ∧ x + 145 ≤ N) (ho : okX s n u len tx) (hy : (0 ≤ y ∧ y < N) ∧ (y < x ∨ x + 145 ≤ y)) (hg : σ y = gLA (ty 2) 1 g) (hr : 0 ≤ r ∧ r < 6) (hw : 0 ≤ w ∧ w < 8) : gMetW l yL_room cL_room 5 (some .int) [(0, 10, 13, 13), (0, 10, 17, 34)] { frames := 8, cells := 1, slots := 6, locals := 243 } [.ref (ad x), .int (gI r), .int (gI w), .ref (ad y)] D ty ad N (xput ad ty σ x s n k u len tx) (gD (some (.int (gI 0))) ad N (xput ad ty (up σ y (gLA (ty 2) 1 (vp_updL g 0 (gI (numR (rm s r) w)).toInt64))) x (s) (n) (k) (u) (len) (tx))) := by
  refine gMetW_of [some (.ref (ad x)), some (.int (gI r)), some (.int (gI w)), some (.ref (ad y)), none] hst (by decide +kernel) rfl (Nat.le_of_ble_eq_true rfl) rfl ?_
  intro X hl hD hty C hX hT
  subst hl hD hty
  refine r_aload_n C dL_room_0 rfl rfl ?_
  refine r_iconst C dL_room_1 ?_
  refine r_aload_n C dL_room_2 rfl rfl ?_
  refine r_iload_n C dL_room_3 rfl rfl ?_
  refine r_iload_n C dL_room_4 rfl rfl ?_
  refine r_cV C cwL_58 (c_X4_room (by omega) ho hr hw) dL_room_5 rfl (by omega) xput_0 rfl rfl rfl (Nat.le_of_ble_eq_true rfl) ⟨Nat.le_of_ble_eq_true rfl, Nat.le_of_ble_eq_true rfl⟩ ⟨Nat.le_of_ble_eq_true rfl, Nat.le_of_ble_eq_true rfl⟩ ?_
  refine r_i2l C dL_room_8 ?_
  refine r_last C dL_room_9 (by omega) ((xput_x (by omega)).trans hg) (by omega) (by decide) ?_
  rw [up_xput (by omega)]
  refine r_goto (tgt := 21) C dL_room_10 (by decide) ?_
  refine r_iconst C dL_room_21 ?_
  exact r_iret C dL_room_22 ⟨rfl, rfl, rfl, rfl⟩ (Nat.le_of_ble_eq_true rfl) (Nat.le_of_ble_eq_true rfl)

set_option maxRecDepth 100000 in
set_option maxHeartbeats 4000000 in
theorem w_L_room_f1 {l : Launch} {D : va_G} {ty : Nat → ClassId} {ad : Int → Nat} {N : Int} {σ : Int → va_E} {x n k len y : Int} {u : Int → Int → Int} {s tx : Int → Int} {g : Nat → Int64} {r w : Int} (hst : l.stackTraces = false) (hx : 0 ≤ x ∧ x + 145 ≤ N) (ho : okX s n u len tx) (hy : (0 ≤ y ∧ y < N) ∧ (y < x ∨ x + 145 ≤ y)) (hg : σ y = gLA (ty 2) 1 g) (hnr : ¬ (0 ≤ r ∧ r < 6)) (hrz : -2147483648 ≤ r ∧ r < 2147483648) : gMetW l yL_room cL_room 5 (some .int) [(0, 10, 13, 13), (0, 10, 17, 34)] { frames := 8, cells := 1, slots := 6, locals := 243 } [.ref (ad x), .int (gI r), .int (gI w), .ref (ad y)] D ty ad N (xput ad ty σ x s n k u len tx) (gD (some (.int (gI 1))) ad N (xput ad ty σ x s n k u len tx)) := by
  refine gMetW_of [some (.ref (ad x)), some (.int (gI r)), some (.int (gI w)), some (.ref (ad y)), none] hst (by decide +kernel) rfl (Nat.le_of_ble_eq_true rfl) rfl ?_
  intro X hl hD hty C hX hT
  subst hl hD hty
  refine r_aload_n C dL_room_0 rfl rfl ?_
  refine r_iconst C dL_room_1 ?_
  refine r_aload_n C dL_room_2 rfl rfl ?_
  refine r_iload_n C dL_room_3 rfl rfl ?_
  refine r_iload_n C dL_room_4 rfl rfl ?_
  refine r_catV C hX hT cwL_58 (t_X4_room_f1 hX.1 (by omega) ho hnr hrz) dL_room_5 rfl (by omega) xput_0 rfl rfl (Nat.le_of_ble_eq_true rfl) ⟨Nat.le_of_ble_eq_true rfl, Nat.le_of_ble_eq_true rfl⟩ ⟨Nat.le_of_ble_eq_true rfl, Nat.le_of_ble_eq_true rfl⟩ [] ⟨0, 10, 13, 13⟩ [⟨0, 10, 17, 34⟩] rfl (fun _ h => absurd h List.not_mem_nil) rfl (by decide) klL_13 hX.2.2.1.1 (fun q9 => ?_)
  show V X 1 6 _ 13 _ _ _ _ _
  refine r_astore C dL_room_13 (Nat.le_of_ble_eq_true rfl) rfl ?_
  dsimp only [List.set]
  refine r_iconst C dL_room_15 ?_
  exact r_iret C dL_room_16 ⟨rfl, rfl, rfl, rfl⟩ (Nat.le_of_ble_eq_true rfl) (Nat.le_of_ble_eq_true rfl)

set_option maxRecDepth 100000 in
set_option maxHeartbeats 4000000 in
theorem w_L_room_f2 {l : Launch} {D : va_G} {ty : Nat → ClassId} {ad : Int → Nat} {N : Int} {σ : Int → va_E} {x n k len y : Int} {u : Int → Int → Int} {s tx : Int → Int} {g : Nat → Int64} {r w : Int} (hst : l.stackTraces = false) (hx : 0 ≤ x ∧ x + 145 ≤ N) (ho : okX s n u len tx) (hy : (0 ≤ y ∧ y < N) ∧ (y < x ∨ x + 145 ≤ y)) (hg : σ y = gLA (ty 2) 1 g) (hr : 0 ≤ r ∧ r < 6) (hnw : ¬ (0 ≤ w ∧ w < 8)) (hrz : -2147483648 ≤ w ∧ w < 2147483648) : gMetW l yL_room cL_room 5 (some .int) [(0, 10, 13, 13), (0, 10, 17, 34)] { frames := 8, cells := 1, slots := 6, locals := 243 } [.ref (ad x), .int (gI r), .int (gI w), .ref (ad y)] D ty ad N (xput ad ty σ x s n k u len tx) (gD (some (.int (gI 2))) ad N (xput ad ty σ x s n k u len tx)) := by
  refine gMetW_of [some (.ref (ad x)), some (.int (gI r)), some (.int (gI w)), some (.ref (ad y)), none] hst (by decide +kernel) rfl (Nat.le_of_ble_eq_true rfl) rfl ?_
  intro X hl hD hty C hX hT
  subst hl hD hty
  refine r_aload_n C dL_room_0 rfl rfl ?_
  refine r_iconst C dL_room_1 ?_
  refine r_aload_n C dL_room_2 rfl rfl ?_
  refine r_iload_n C dL_room_3 rfl rfl ?_
  refine r_iload_n C dL_room_4 rfl rfl ?_
  refine r_catV C hX hT cwL_58 (t_X4_room_f2 hX.1 (by omega) ho hr hnw hrz) dL_room_5 rfl (by omega) xput_0 rfl rfl (Nat.le_of_ble_eq_true rfl) ⟨Nat.le_of_ble_eq_true rfl, Nat.le_of_ble_eq_true rfl⟩ ⟨Nat.le_of_ble_eq_true rfl, Nat.le_of_ble_eq_true rfl⟩ [⟨0, 10, 13, 13⟩] ⟨0, 10, 17, 34⟩ [] rfl (List.forall_mem_cons.mpr ⟨Or.inr ⟨by decide, eI, klL_13, hX.2.2.2.1.2.1⟩, (fun _ h => absurd h List.not_mem_nil)⟩) rfl (by decide) klL_34 hX.2.2.1.2.1 (fun q9 => ?_)
  show V X 1 6 _ 17 _ _ _ _ _
  refine r_astore C dL_room_17 (Nat.le_of_ble_eq_true rfl) rfl ?_
  dsimp only [List.set]
  refine r_iconst C dL_room_19 ?_
  exact r_iret C dL_room_20 ⟨rfl, rfl, rfl, rfl⟩ (Nat.le_of_ble_eq_true rfl) (Nat.le_of_ble_eq_true rfl)

set_option maxRecDepth 100000 in
set_option maxHeartbeats 4000000 in
theorem w_L_thing {l : Launch} {D : va_G} {ty : Nat → ClassId} {ad : Int → Nat} {N : Int} {σ : Int → va_E} {x n k len y : Int} {u : Int → Int → Int} {s tx : Int → Int} {g : Nat → Int64} {key w : Int} (hst : l.stackTraces = false) (hx : 0 ≤ x ∧ x + 145 ≤ N) (ho : okX s n u len tx) (hy : (0 ≤ y ∧ y < N) ∧ (y < x ∨ x + 145 ≤ y)) (hg : σ y = gLA (ty 2) 1 g) (hk : 0 ≤ key ∧ key < 100) (hw : 0 ≤ w ∧ w < 3) : gMetW l yL_thing cL_thing 5 (some .int) [(0, 10, 13, 34)] { frames := 8, cells := 1, slots := 6, locals := 243 } [.ref (ad x), .int (gI key), .int (gI w), .ref (ad y)] D ty ad N (xput ad ty σ x s n k u len tx) (gD (some (.int (gI 0))) ad N (xput ad ty (up σ y (gLA (ty 2) 1 (vp_updL g 0 (gI (thn s key w)).toInt64))) x (s) (n) (k) (u) (len) (tx))) := by
  refine gMetW_of [some (.ref (ad x)), some (.int (gI key)), some (.int (gI w)), some (.ref (ad y)), none] hst (by decide +kernel) rfl (Nat.le_of_ble_eq_true rfl) rfl ?_
  intro X hl hD hty C hX hT
  subst hl hD hty
  refine r_aload_n C dL_thing_0 rfl rfl ?_
  refine r_iconst C dL_thing_1 ?_
  refine r_aload_n C dL_thing_2 rfl rfl ?_
  refine r_iload_n C dL_thing_3 rfl rfl ?_
  refine r_iload_n C dL_thing_4 rfl rfl ?_
  refine r_cV C cwL_61 (c_X4_thing (by omega) ho hk hw) dL_thing_5 rfl (by omega) xput_0 rfl rfl rfl (Nat.le_of_ble_eq_true rfl) ⟨Nat.le_of_ble_eq_true rfl, Nat.le_of_ble_eq_true rfl⟩ ⟨Nat.le_of_ble_eq_true rfl, Nat.le_of_ble_eq_true rfl⟩ ?_
  refine r_i2l C dL_thing_8 ?_
  refine r_last C dL_thing_9 (by omega) ((xput_x (by omega)).trans hg) (by omega) (by decide) ?_
  rw [up_xput (by omega)]
  refine r_goto (tgt := 17) C dL_thing_10 (by decide) ?_
  refine r_iconst C dL_thing_17 ?_
  exact r_iret C dL_thing_18 ⟨rfl, rfl, rfl, rfl⟩ (Nat.le_of_ble_eq_true rfl) (Nat.le_of_ble_eq_true rfl)

set_option maxRecDepth 100000 in
set_option maxHeartbeats 4000000 in
theorem w_L_thing_f1 {l : Launch} {D : va_G} {ty : Nat → ClassId} {ad : Int → Nat} {N : Int} {σ : Int → va_E} {x n k len y : Int} {u : Int → Int → Int} {s tx : Int → Int} {g : Nat → Int64} {key w : Int} (hst : l.stackTraces = false) (hx : 0 ≤ x ∧ x + 145 ≤ N) (ho : okX s n u len tx) (hy : (0 ≤ y ∧ y < N) ∧ (y < x ∨ x + 145 ≤ y)) (hg : σ y = gLA (ty 2) 1 g) (hnk : ¬ (0 ≤ key ∧ key < 100)) (hrz : -2147483648 ≤ key ∧ key < 2147483648) : gMetW l yL_thing cL_thing 5 (some .int) [(0, 10, 13, 34)] { frames := 8, cells := 1, slots := 6, locals := 243 } [.ref (ad x), .int (gI key), .int (gI w), .ref (ad y)] D ty ad N (xput ad ty σ x s n k u len tx) (gD (some (.int (gI 1))) ad N (xput ad ty σ x s n k u len tx)) := by
  refine gMetW_of [some (.ref (ad x)), some (.int (gI key)), some (.int (gI w)), some (.ref (ad y)), none] hst (by decide +kernel) rfl (Nat.le_of_ble_eq_true rfl) rfl ?_
  intro X hl hD hty C hX hT
  subst hl hD hty
  refine r_aload_n C dL_thing_0 rfl rfl ?_
  refine r_iconst C dL_thing_1 ?_
  refine r_aload_n C dL_thing_2 rfl rfl ?_
  refine r_iload_n C dL_thing_3 rfl rfl ?_
  refine r_iload_n C dL_thing_4 rfl rfl ?_
  refine r_catV C hX hT cwL_61 (t_X4_thing_f1 hX.1 (by omega) ho hnk hrz) dL_thing_5 rfl (by omega) xput_0 rfl rfl (Nat.le_of_ble_eq_true rfl) ⟨Nat.le_of_ble_eq_true rfl, Nat.le_of_ble_eq_true rfl⟩ ⟨Nat.le_of_ble_eq_true rfl, Nat.le_of_ble_eq_true rfl⟩ [] ⟨0, 10, 13, 34⟩ [] rfl (fun _ h => absurd h List.not_mem_nil) rfl (by decide) klL_34 hX.2.2.1.2.1 (fun q9 => ?_)
  show V X 1 6 _ 13 _ _ _ _ _
  refine r_astore C dL_thing_13 (Nat.le_of_ble_eq_true rfl) rfl ?_
  dsimp only [List.set]
  refine r_iconst C dL_thing_15 ?_
  exact r_iret C dL_thing_16 ⟨rfl, rfl, rfl, rfl⟩ (Nat.le_of_ble_eq_true rfl) (Nat.le_of_ble_eq_true rfl)

set_option maxRecDepth 100000 in
set_option maxHeartbeats 4000000 in
theorem w_L_thing_f2 {l : Launch} {D : va_G} {ty : Nat → ClassId} {ad : Int → Nat} {N : Int} {σ : Int → va_E} {x n k len y : Int} {u : Int → Int → Int} {s tx : Int → Int} {g : Nat → Int64} {key w : Int} (hst : l.stackTraces = false) (hx : 0 ≤ x ∧ x + 145 ≤ N) (ho : okX s n u len tx) (hy : (0 ≤ y ∧ y < N) ∧ (y < x ∨ x + 145 ≤ y)) (hg : σ y = gLA (ty 2) 1 g) (hk : 0 ≤ key ∧ key < 100) (hnw : ¬ (0 ≤ w ∧ w < 3)) (hrz : -2147483648 ≤ w ∧ w < 2147483648) : gMetW l yL_thing cL_thing 5 (some .int) [(0, 10, 13, 34)] { frames := 8, cells := 1, slots := 6, locals := 243 } [.ref (ad x), .int (gI key), .int (gI w), .ref (ad y)] D ty ad N (xput ad ty σ x s n k u len tx) (gD (some (.int (gI 1))) ad N (xput ad ty σ x s n k u len tx)) := by
  refine gMetW_of [some (.ref (ad x)), some (.int (gI key)), some (.int (gI w)), some (.ref (ad y)), none] hst (by decide +kernel) rfl (Nat.le_of_ble_eq_true rfl) rfl ?_
  intro X hl hD hty C hX hT
  subst hl hD hty
  refine r_aload_n C dL_thing_0 rfl rfl ?_
  refine r_iconst C dL_thing_1 ?_
  refine r_aload_n C dL_thing_2 rfl rfl ?_
  refine r_iload_n C dL_thing_3 rfl rfl ?_
  refine r_iload_n C dL_thing_4 rfl rfl ?_
  refine r_catV C hX hT cwL_61 (t_X4_thing_f2 hX.1 (by omega) ho hk hnw hrz) dL_thing_5 rfl (by omega) xput_0 rfl rfl (Nat.le_of_ble_eq_true rfl) ⟨Nat.le_of_ble_eq_true rfl, Nat.le_of_ble_eq_true rfl⟩ ⟨Nat.le_of_ble_eq_true rfl, Nat.le_of_ble_eq_true rfl⟩ [] ⟨0, 10, 13, 34⟩ [] rfl (fun _ h => absurd h List.not_mem_nil) rfl (by decide) klL_34 hX.2.2.1.2.1 (fun q9 => ?_)
  show V X 1 6 _ 13 _ _ _ _ _
  refine r_astore C dL_thing_13 (Nat.le_of_ble_eq_true rfl) rfl ?_
  dsimp only [List.set]
  refine r_iconst C dL_thing_15 ?_
  exact r_iret C dL_thing_16 ⟨rfl, rfl, rfl, rfl⟩ (Nat.le_of_ble_eq_true rfl) (Nat.le_of_ble_eq_true rfl)

set_option maxRecDepth 100000 in
set_option maxHeartbeats 4000000 in
theorem w_L_count {l : Launch} {D : va_G} {ty : Nat → ClassId} {ad : Int → Nat} {N : Int} {σ : Int → va_E} {x n k len y : Int} {u : Int → Int → Int} {s tx : Int → Int} {g : Nat → Int64} {w : Int} (hst : l.stackTraces = false) (hx : 0 ≤ x ∧ x + 145 ≤ N) (ho : okX s n u len tx) (hy : (0 ≤ y ∧ y < N) ∧ (y < x ∨ x + 145 ≤ y)) (hg : σ y = gLA (ty 2) 1 g) (hw0 : 0 ≤ w ∧ w < 12) : gMetW l yL_count cL_count 4 (some .int) [(0, 9, 12, 34)] { frames := 8, cells := 1, slots := 6, locals := 242 } [.ref (ad x), .int (gI w), .ref (ad y)] D ty ad N (xput ad ty σ x s n k u len tx) (gD (some (.int (gI 0))) ad N (xput ad ty (up σ y (gLA (ty 2) 1 (vp_updL g 0 (gI (cntX s n w)).toInt64))) x (s) (n) (k) (u) (len) (tx))) := by
  refine gMetW_of [some (.ref (ad x)), some (.int (gI w)), some (.ref (ad y)), none] hst (by decide +kernel) rfl (Nat.le_of_ble_eq_true rfl) rfl ?_
  intro X hl hD hty C hX hT
  subst hl hD hty
  refine r_aload_n C dL_count_0 rfl rfl ?_
  refine r_iconst C dL_count_1 ?_
  refine r_aload_n C dL_count_2 rfl rfl ?_
  refine r_iload_n C dL_count_3 rfl rfl ?_
  refine r_cV C cwL_64 (c_X4_count (by omega) ho hw0) dL_count_4 rfl (by omega) xput_0 rfl rfl rfl (Nat.le_of_ble_eq_true rfl) ⟨Nat.le_of_ble_eq_true rfl, Nat.le_of_ble_eq_true rfl⟩ ⟨Nat.le_of_ble_eq_true rfl, Nat.le_of_ble_eq_true rfl⟩ ?_
  refine r_i2l C dL_count_7 ?_
  refine r_last C dL_count_8 (by omega) ((xput_x (by omega)).trans hg) (by omega) (by decide) ?_
  rw [up_xput (by omega)]
  refine r_goto (tgt := 15) C dL_count_9 (by decide) ?_
  refine r_iconst C dL_count_15 ?_
  exact r_iret C dL_count_16 ⟨rfl, rfl, rfl, rfl⟩ (Nat.le_of_ble_eq_true rfl) (Nat.le_of_ble_eq_true rfl)

set_option maxRecDepth 100000 in
set_option maxHeartbeats 4000000 in
theorem w_L_count_f1 {l : Launch} {D : va_G} {ty : Nat → ClassId} {ad : Int → Nat} {N : Int} {σ : Int → va_E} {x n k len y : Int} {u : Int → Int → Int} {s tx : Int → Int} {g : Nat → Int64} {w : Int} (hst : l.stackTraces = false) (hx : 0 ≤ x ∧ x + 145 ≤ N) (ho : okX s n u len tx) (hy : (0 ≤ y ∧ y < N) ∧ (y < x ∨ x + 145 ≤ y)) (hg : σ y = gLA (ty 2) 1 g) (hnw : ¬ (0 ≤ w ∧ w < 12)) (hrz : -2147483648 ≤ w ∧ w < 2147483648) : gMetW l yL_count cL_count 4 (some .int) [(0, 9, 12, 34)] { frames := 8, cells := 1, slots := 6, locals := 242 } [.ref (ad x), .int (gI w), .ref (ad y)] D ty ad N (xput ad ty σ x s n k u len tx) (gD (some (.int (gI 1))) ad N (xput ad ty σ x s n k u len tx)) := by
  refine gMetW_of [some (.ref (ad x)), some (.int (gI w)), some (.ref (ad y)), none] hst (by decide +kernel) rfl (Nat.le_of_ble_eq_true rfl) rfl ?_
  intro X hl hD hty C hX hT
  subst hl hD hty
  refine r_aload_n C dL_count_0 rfl rfl ?_
  refine r_iconst C dL_count_1 ?_
  refine r_aload_n C dL_count_2 rfl rfl ?_
  refine r_iload_n C dL_count_3 rfl rfl ?_
  refine r_catV C hX hT cwL_64 (t_X4_count_f1 hX.1 (by omega) ho hnw hrz) dL_count_4 rfl (by omega) xput_0 rfl rfl (Nat.le_of_ble_eq_true rfl) ⟨Nat.le_of_ble_eq_true rfl, Nat.le_of_ble_eq_true rfl⟩ ⟨Nat.le_of_ble_eq_true rfl, Nat.le_of_ble_eq_true rfl⟩ [] ⟨0, 9, 12, 34⟩ [] rfl (fun _ h => absurd h List.not_mem_nil) rfl (by decide) klL_34 hX.2.2.1.2.1 (fun q9 => ?_)
  show V X 1 6 _ 12 _ _ _ _ _
  refine r_astore_n C dL_count_12 rfl (Nat.le_of_ble_eq_true rfl) rfl ?_
  dsimp only [List.set]
  refine r_iconst C dL_count_13 ?_
  exact r_iret C dL_count_14 ⟨rfl, rfl, rfl, rfl⟩ (Nat.le_of_ble_eq_true rfl) (Nat.le_of_ble_eq_true rfl)

set_option maxRecDepth 100000 in
set_option maxHeartbeats 4000000 in
theorem w_L_lasts {l : Launch} {D : va_G} {ty : Nat → ClassId} {ad : Int → Nat} {N : Int} {σ : Int → va_E} {x n k len y : Int} {u : Int → Int → Int} {s tx : Int → Int} {g : Nat → Int64} {r : Int} (hst : l.stackTraces = false) (hx : 0 ≤ x ∧ x + 145 ≤ N) (ho : okX s n u len tx) (hy : (0 ≤ y ∧ y < N) ∧ (y < x ∨ x + 145 ≤ y)) (hg : σ y = gLA (ty 2) 1 g) (hr : 0 ≤ r ∧ r < 6) : gMetW l yL_lasts cL_lasts 4 (some .int) [(0, 9, 12, 13)] { frames := 8, cells := 1, slots := 6, locals := 241 } [.ref (ad x), .int (gI r), .ref (ad y)] D ty ad N (xput ad ty σ x s n k u len tx) (gD (some (.int (gI 0))) ad N (xput ad ty (up σ y (gLA (ty 2) 1 (vp_updL g 0 (gI (blit s r)).toInt64))) x (s) (n) (k) (u) (len) (tx))) := by
  refine gMetW_of [some (.ref (ad x)), some (.int (gI r)), some (.ref (ad y)), none] hst (by decide +kernel) rfl (Nat.le_of_ble_eq_true rfl) rfl ?_
  intro X hl hD hty C hX hT
  subst hl hD hty
  refine r_aload_n C dL_lasts_0 rfl rfl ?_
  refine r_iconst C dL_lasts_1 ?_
  refine r_aload_n C dL_lasts_2 rfl rfl ?_
  refine r_iload_n C dL_lasts_3 rfl rfl ?_
  refine r_cV C cwL_67 (c_X4_lasts (by omega) ho hr) dL_lasts_4 rfl (by omega) xput_0 rfl rfl rfl (Nat.le_of_ble_eq_true rfl) ⟨Nat.le_of_ble_eq_true rfl, Nat.le_of_ble_eq_true rfl⟩ ⟨Nat.le_of_ble_eq_true rfl, Nat.le_of_ble_eq_true rfl⟩ ?_
  refine r_i2l C dL_lasts_7 ?_
  refine r_last C dL_lasts_8 (by omega) ((xput_x (by omega)).trans hg) (by omega) (by decide) ?_
  rw [up_xput (by omega)]
  refine r_goto (tgt := 15) C dL_lasts_9 (by decide) ?_
  refine r_iconst C dL_lasts_15 ?_
  exact r_iret C dL_lasts_16 ⟨rfl, rfl, rfl, rfl⟩ (Nat.le_of_ble_eq_true rfl) (Nat.le_of_ble_eq_true rfl)

set_option maxRecDepth 100000 in
set_option maxHeartbeats 4000000 in
theorem w_L_lasts_f1 {l : Launch} {D : va_G} {ty : Nat → ClassId} {ad : Int → Nat} {N : Int} {σ : Int → va_E} {x n k len y : Int} {u : Int → Int → Int} {s tx : Int → Int} {g : Nat → Int64} {r : Int} (hst : l.stackTraces = false) (hx : 0 ≤ x ∧ x + 145 ≤ N) (ho : okX s n u len tx) (hy : (0 ≤ y ∧ y < N) ∧ (y < x ∨ x + 145 ≤ y)) (hg : σ y = gLA (ty 2) 1 g) (hnr : ¬ (0 ≤ r ∧ r < 6)) (hrz : -2147483648 ≤ r ∧ r < 2147483648) : gMetW l yL_lasts cL_lasts 4 (some .int) [(0, 9, 12, 13)] { frames := 8, cells := 1, slots := 6, locals := 241 } [.ref (ad x), .int (gI r), .ref (ad y)] D ty ad N (xput ad ty σ x s n k u len tx) (gD (some (.int (gI 1))) ad N (xput ad ty σ x s n k u len tx)) := by
  refine gMetW_of [some (.ref (ad x)), some (.int (gI r)), some (.ref (ad y)), none] hst (by decide +kernel) rfl (Nat.le_of_ble_eq_true rfl) rfl ?_
  intro X hl hD hty C hX hT
  subst hl hD hty
  refine r_aload_n C dL_lasts_0 rfl rfl ?_
  refine r_iconst C dL_lasts_1 ?_
  refine r_aload_n C dL_lasts_2 rfl rfl ?_
  refine r_iload_n C dL_lasts_3 rfl rfl ?_
  refine r_catV C hX hT cwL_67 (t_X4_lasts_f1 hX.1 (by omega) ho hnr hrz) dL_lasts_4 rfl (by omega) xput_0 rfl rfl (Nat.le_of_ble_eq_true rfl) ⟨Nat.le_of_ble_eq_true rfl, Nat.le_of_ble_eq_true rfl⟩ ⟨Nat.le_of_ble_eq_true rfl, Nat.le_of_ble_eq_true rfl⟩ [] ⟨0, 9, 12, 13⟩ [] rfl (fun _ h => absurd h List.not_mem_nil) rfl (by decide) klL_13 hX.2.2.1.1 (fun q9 => ?_)
  show V X 1 6 _ 12 _ _ _ _ _
  refine r_astore_n C dL_lasts_12 rfl (Nat.le_of_ble_eq_true rfl) rfl ?_
  dsimp only [List.set]
  refine r_iconst C dL_lasts_13 ?_
  exact r_iret C dL_lasts_14 ⟨rfl, rfl, rfl, rfl⟩ (Nat.le_of_ble_eq_true rfl) (Nat.le_of_ble_eq_true rfl)

set_option maxRecDepth 100000 in
set_option maxHeartbeats 4000000 in
theorem w_L_carried {l : Launch} {D : va_G} {ty : Nat → ClassId} {ad : Int → Nat} {N : Int} {σ : Int → va_E} {x n k len y : Int} {u : Int → Int → Int} {s tx : Int → Int} {g : Nat → Int64} {r : Int} (hst : l.stackTraces = false) (hx : 0 ≤ x ∧ x + 145 ≤ N) (ho : okX s n u len tx) (hy : (0 ≤ y ∧ y < N) ∧ (y < x ∨ x + 145 ≤ y)) (hg : σ y = gLA (ty 2) 1 g) (hr : 0 ≤ r ∧ r < 6) : gMetW l yL_carried cL_carried 4 (some .int) [(0, 9, 12, 13)] { frames := 8, cells := 1, slots := 6, locals := 241 } [.ref (ad x), .int (gI r), .ref (ad y)] D ty ad N (xput ad ty σ x s n k u len tx) (gD (some (.int (gI 0))) ad N (xput ad ty (up σ y (gLA (ty 2) 1 (vp_updL g 0 (gI (toL s r)).toInt64))) x (s) (n) (k) (u) (len) (tx))) := by
  refine gMetW_of [some (.ref (ad x)), some (.int (gI r)), some (.ref (ad y)), none] hst (by decide +kernel) rfl (Nat.le_of_ble_eq_true rfl) rfl ?_
  intro X hl hD hty C hX hT
  subst hl hD hty
  refine r_aload_n C dL_carried_0 rfl rfl ?_
  refine r_iconst C dL_carried_1 ?_
  refine r_aload_n C dL_carried_2 rfl rfl ?_
  refine r_iload_n C dL_carried_3 rfl rfl ?_
  refine r_cV C cwL_70 (c_X4_carried (by omega) ho hr) dL_carried_4 rfl (by omega) xput_0 rfl rfl rfl (Nat.le_of_ble_eq_true rfl) ⟨Nat.le_of_ble_eq_true rfl, Nat.le_of_ble_eq_true rfl⟩ ⟨Nat.le_of_ble_eq_true rfl, Nat.le_of_ble_eq_true rfl⟩ ?_
  refine r_i2l C dL_carried_7 ?_
  refine r_last C dL_carried_8 (by omega) ((xput_x (by omega)).trans hg) (by omega) (by decide) ?_
  rw [up_xput (by omega)]
  refine r_goto (tgt := 15) C dL_carried_9 (by decide) ?_
  refine r_iconst C dL_carried_15 ?_
  exact r_iret C dL_carried_16 ⟨rfl, rfl, rfl, rfl⟩ (Nat.le_of_ble_eq_true rfl) (Nat.le_of_ble_eq_true rfl)

set_option maxRecDepth 100000 in
set_option maxHeartbeats 4000000 in
theorem w_L_carried_f1 {l : Launch} {D : va_G} {ty : Nat → ClassId} {ad : Int → Nat} {N : Int} {σ : Int → va_E} {x n k len y : Int} {u : Int → Int → Int} {s tx : Int → Int} {g : Nat → Int64} {r : Int} (hst : l.stackTraces = false) (hx : 0 ≤ x ∧ x + 145 ≤ N) (ho : okX s n u len tx) (hy : (0 ≤ y ∧ y < N) ∧ (y < x ∨ x + 145 ≤ y)) (hg : σ y = gLA (ty 2) 1 g) (hnr : ¬ (0 ≤ r ∧ r < 6)) (hrz : -2147483648 ≤ r ∧ r < 2147483648) : gMetW l yL_carried cL_carried 4 (some .int) [(0, 9, 12, 13)] { frames := 8, cells := 1, slots := 6, locals := 241 } [.ref (ad x), .int (gI r), .ref (ad y)] D ty ad N (xput ad ty σ x s n k u len tx) (gD (some (.int (gI 1))) ad N (xput ad ty σ x s n k u len tx)) := by
  refine gMetW_of [some (.ref (ad x)), some (.int (gI r)), some (.ref (ad y)), none] hst (by decide +kernel) rfl (Nat.le_of_ble_eq_true rfl) rfl ?_
  intro X hl hD hty C hX hT
  subst hl hD hty
  refine r_aload_n C dL_carried_0 rfl rfl ?_
  refine r_iconst C dL_carried_1 ?_
  refine r_aload_n C dL_carried_2 rfl rfl ?_
  refine r_iload_n C dL_carried_3 rfl rfl ?_
  refine r_catV C hX hT cwL_70 (t_X4_carried_f1 hX.1 (by omega) ho hnr hrz) dL_carried_4 rfl (by omega) xput_0 rfl rfl (Nat.le_of_ble_eq_true rfl) ⟨Nat.le_of_ble_eq_true rfl, Nat.le_of_ble_eq_true rfl⟩ ⟨Nat.le_of_ble_eq_true rfl, Nat.le_of_ble_eq_true rfl⟩ [] ⟨0, 9, 12, 13⟩ [] rfl (fun _ h => absurd h List.not_mem_nil) rfl (by decide) klL_13 hX.2.2.1.1 (fun q9 => ?_)
  show V X 1 6 _ 12 _ _ _ _ _
  refine r_astore_n C dL_carried_12 rfl (Nat.le_of_ble_eq_true rfl) rfl ?_
  dsimp only [List.set]
  refine r_iconst C dL_carried_13 ?_
  exact r_iret C dL_carried_14 ⟨rfl, rfl, rfl, rfl⟩ (Nat.le_of_ble_eq_true rfl) (Nat.le_of_ble_eq_true rfl)

set_option maxRecDepth 100000 in
set_option maxHeartbeats 4000000 in
theorem w_L_saves {l : Launch} {D : va_G} {ty : Nat → ClassId} {ad : Int → Nat} {N : Int} {σ : Int → va_E} {x n k len y : Int} {u : Int → Int → Int} {s tx : Int → Int} {g : Nat → Int64} {r : Int} (hst : l.stackTraces = false) (hx : 0 ≤ x ∧ x + 145 ≤ N) (ho : okX s n u len tx) (hy : (0 ≤ y ∧ y < N) ∧ (y < x ∨ x + 145 ≤ y)) (hg : σ y = gLA (ty 2) 1 g) (hr : 0 ≤ r ∧ r < 6) : gMetW l yL_saves cL_saves 4 (some .int) [(0, 9, 12, 13)] { frames := 8, cells := 1, slots := 6, locals := 241 } [.ref (ad x), .int (gI r), .ref (ad y)] D ty ad N (xput ad ty σ x s n k u len tx) (gD (some (.int (gI 0))) ad N (xput ad ty (up σ y (gLA (ty 2) 1 (vp_updL g 0 (gI (savR (rm s r))).toInt64))) x (s) (n) (k) (u) (len) (tx))) := by
  refine gMetW_of [some (.ref (ad x)), some (.int (gI r)), some (.ref (ad y)), none] hst (by decide +kernel) rfl (Nat.le_of_ble_eq_true rfl) rfl ?_
  intro X hl hD hty C hX hT
  subst hl hD hty
  refine r_aload_n C dL_saves_0 rfl rfl ?_
  refine r_iconst C dL_saves_1 ?_
  refine r_aload_n C dL_saves_2 rfl rfl ?_
  refine r_iload_n C dL_saves_3 rfl rfl ?_
  refine r_cV C cwL_73 (c_X4_saves (by omega) ho hr) dL_saves_4 rfl (by omega) xput_0 rfl rfl rfl (Nat.le_of_ble_eq_true rfl) ⟨Nat.le_of_ble_eq_true rfl, Nat.le_of_ble_eq_true rfl⟩ ⟨Nat.le_of_ble_eq_true rfl, Nat.le_of_ble_eq_true rfl⟩ ?_
  refine r_i2l C dL_saves_7 ?_
  refine r_last C dL_saves_8 (by omega) ((xput_x (by omega)).trans hg) (by omega) (by decide) ?_
  rw [up_xput (by omega)]
  refine r_goto (tgt := 15) C dL_saves_9 (by decide) ?_
  refine r_iconst C dL_saves_15 ?_
  exact r_iret C dL_saves_16 ⟨rfl, rfl, rfl, rfl⟩ (Nat.le_of_ble_eq_true rfl) (Nat.le_of_ble_eq_true rfl)

set_option maxRecDepth 100000 in
set_option maxHeartbeats 4000000 in
theorem w_L_saves_f1 {l : Launch} {D : va_G} {ty : Nat → ClassId} {ad : Int → Nat} {N : Int} {σ : Int → va_E} {x n k len y : Int} {u : Int → Int → Int} {s tx : Int → Int} {g : Nat → Int64} {r : Int} (hst : l.stackTraces = false) (hx : 0 ≤ x ∧ x + 145 ≤ N) (ho : okX s n u len tx) (hy : (0 ≤ y ∧ y < N) ∧ (y < x ∨ x + 145 ≤ y)) (hg : σ y = gLA (ty 2) 1 g) (hnr : ¬ (0 ≤ r ∧ r < 6)) (hrz : -2147483648 ≤ r ∧ r < 2147483648) : gMetW l yL_saves cL_saves 4 (some .int) [(0, 9, 12, 13)] { frames := 8, cells := 1, slots := 6, locals := 241 } [.ref (ad x), .int (gI r), .ref (ad y)] D ty ad N (xput ad ty σ x s n k u len tx) (gD (some (.int (gI 1))) ad N (xput ad ty σ x s n k u len tx)) := by
  refine gMetW_of [some (.ref (ad x)), some (.int (gI r)), some (.ref (ad y)), none] hst (by decide +kernel) rfl (Nat.le_of_ble_eq_true rfl) rfl ?_
  intro X hl hD hty C hX hT
  subst hl hD hty
  refine r_aload_n C dL_saves_0 rfl rfl ?_
  refine r_iconst C dL_saves_1 ?_
  refine r_aload_n C dL_saves_2 rfl rfl ?_
  refine r_iload_n C dL_saves_3 rfl rfl ?_
  refine r_catV C hX hT cwL_73 (t_X4_saves_f1 hX.1 (by omega) ho hnr hrz) dL_saves_4 rfl (by omega) xput_0 rfl rfl (Nat.le_of_ble_eq_true rfl) ⟨Nat.le_of_ble_eq_true rfl, Nat.le_of_ble_eq_true rfl⟩ ⟨Nat.le_of_ble_eq_true rfl, Nat.le_of_ble_eq_true rfl⟩ [] ⟨0, 9, 12, 13⟩ [] rfl (fun _ h => absurd h List.not_mem_nil) rfl (by decide) klL_13 hX.2.2.1.1 (fun q9 => ?_)
  show V X 1 6 _ 12 _ _ _ _ _
  refine r_astore_n C dL_saves_12 rfl (Nat.le_of_ble_eq_true rfl) rfl ?_
  dsimp only [List.set]
  refine r_iconst C dL_saves_13 ?_
  exact r_iret C dL_saves_14 ⟨rfl, rfl, rfl, rfl⟩ (Nat.le_of_ble_eq_true rfl) (Nat.le_of_ble_eq_true rfl)

