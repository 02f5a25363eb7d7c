/-! the law's small methods -/
set_option maxRecDepth 100000 in
set_option maxHeartbeats 4000000 in
theorem c_L_low {l : Launch} {D : va_G} {ty : Nat → ClassId} {ad : Int → Nat} {N : Int} {σ : Int → va_E} {v n : Int} (hn : 0 < n ∧ n < 1000) : gM0 l yL_low cL_low 2 (some .int) 0 0 [.int (gI v), .int (gI n)] D ty ad N σ (some (.int (gI (low31 v % n)))) σ := by
  refine gMet_of [some (.int (gI v)), some (.int (gI n))] (by decide +kernel) rfl (Nat.le_of_ble_eq_true rfl) rfl ?_
  intro X hl hD hty C hini
  subst hl hD hty
  refine r_iload_n C dL_low_0 rfl rfl ?_
  refine r_ldc (z := 2147483647) C dL_low_1 kcL_7 (by decide +kernel) ?_
  refine r_iand C dL_low_3 ?_
  rw [show gI v &&& gI 2147483647 = gI (low31 v) from (gI_of _).symm]
  refine r_iload_n C dL_low_4 rfl rfl ?_
  refine r_irem C dL_low_5 (low31_0 v) (by omega) ?_
  exact r_iretD C dL_low_6 rfl rfl
/-- a cell of the script -/
def cellF (Ls : Nat) (xz : Int → Int) (k : Int) : Int := if k < (Ls : Int) then xz k else 40503 * k + 977
set_option maxRecDepth 100000 in
set_option maxHeartbeats 4000000 in
theorem c_L_cell {l : Launch} {D : va_G} {ty : Nat → ClassId} {ad : Int → Nat} {N : Int} {σ : Int → va_E} {b Ls : Nat} {xz : Int → Int} {k : Int} (hst : l.stackTraces = false) (hLs : Ls ≤ 260) (hk : 0 ≤ k ∧ k ≤ 1000) : gMetP l yL_cell cL_cell 2 (some .int) { frames := 0, cells := 0, slots := 0, locals := 0 } [.ref b, .int (gI k)] D ty ad N σ b Ls xz (gD (some (.int (gI (cellF Ls xz k)))) ad N σ) := by
  refine gMetP_of [some (.ref b), some (.int (gI k))] hst (by decide +kernel) rfl (Nat.le_of_ble_eq_true rfl) rfl ?_
  intro X hl hD hty C hX hS
  subst hl hD hty
  refine r_iload_n C dL_cell_0 rfl rfl ?_
  refine r_aload_n C dL_cell_1 rfl rfl ?_
  refine r_slen C hS dL_cell_2 ?_
  refine r_icmp_ge (tgt := 12) C dL_cell_3 (by decide) (by omega) (by omega) (fun h3 => ?_) (fun h3 => ?_)
  · refine r_ldc (z := 40503) C dL_cell_12 kcL_8 (by decide +kernel) ?_
    refine r_iload_n C dL_cell_14 rfl rfl ?_
    refine r_imul C dL_cell_15 ?_
    refine r_sipush C dL_cell_16 (by decide) ?_
    refine r_iadd C dL_cell_19 ?_
    exact r_iretD C dL_cell_20 (by unfold cellF; rw [if_neg (by omega)]) rfl
  · refine r_aload_n C dL_cell_6 rfl rfl ?_
    refine r_iload_n C dL_cell_7 rfl rfl ?_
    refine r_sld C hS hLs dL_cell_8 (by omega) ?_
    refine r_goto (tgt := 20) C dL_cell_9 (by decide) ?_
    exact r_iretD C dL_cell_20 (by unfold cellF; rw [if_pos (by omega)]) rfl
set_option maxRecDepth 100000 in
set_option maxHeartbeats 4000000 in
theorem w_L_strike {l : Launch} {D : va_G} {ty : Nat → ClassId} {ad : Int → Nat} {N : Int} {σ : Int → va_E} {x n k len : Int} {u : Int → Int → Int} {s tx : Int → Int} {r : Int} (hst : l.stackTraces = false) (hx : 0 ≤ x ∧ x + 145 ≤ N) (ho : okX s n u len tx) (hr : 0 ≤ r ∧ r < 6) (hm : mayS s r) : gMetW l yL_strike cL_strike 3 (some .int) [(0, 5, 6, 15)] { frames := 8, cells := 1, slots := 6, locals := 250 } [.ref (ad x), .int (gI r)] D ty ad N (xput ad ty σ x s n k u len tx) (gD (some (.int (gI (rm s r 0)))) ad N (xput ad ty σ x (light1 s r) (pshN n) (pshK n k) (pshU n k u s) (len) (tx))) := by
  refine gMetW_of [some (.ref (ad x)), some (.int (gI r)), none] hst (by decide +kernel) rfl (Nat.le_of_ble_eq_true rfl) rfl ?_
  intro X hl hD hty C hX hT
  subst hl hD hty
  refine r_aload_n C dL_strike_0 rfl rfl ?_
  refine r_iload_n C dL_strike_1 rfl rfl ?_
  refine r_cV C cwL_9 (c_X4_strike (by omega) ho hr hm) dL_strike_2 rfl (by omega) xput_0 rfl rfl rfl (Nat.le_of_ble_eq_true rfl) ⟨Nat.le_of_ble_eq_true rfl, Nat.le_of_ble_eq_true rfl⟩ ⟨Nat.le_of_ble_eq_true rfl, Nat.le_of_ble_eq_true rfl⟩ ?_
  exact r_iret C dL_strike_5 ⟨rfl, rfl, rfl, rfl⟩ (Nat.le_of_ble_eq_true rfl) (Nat.le_of_ble_eq_true rfl)
set_option maxRecDepth 100000 in
set_option maxHeartbeats 4000000 in
theorem w_L_strike_f {l : Launch} {D : va_G} {ty : Nat → ClassId} {ad : Int → Nat} {N : Int} {σ : Int → va_E} {x n k len : Int} {u : Int → Int → Int} {s tx : Int → Int} {r : Int} (hst : l.stackTraces = false) (hx : 0 ≤ x ∧ x + 145 ≤ N) (ho : okX s n u len tx) (hr : 0 ≤ r ∧ r < 6) (hm : ¬ mayS s r) : gMetW l yL_strike cL_strike 3 (some .int) [(0, 5, 6, 15)] { frames := 8, cells := 1, slots := 6, locals := 250 } [.ref (ad x), .int (gI r)] D ty ad N (xput ad ty σ x s n k u len tx) (gD (some (.int (gI (-3)))) ad N (xput ad ty σ x s n k u len tx)) := by
  refine gMetW_of [some (.ref (ad x)), some (.int (gI r)), none] hst (by decide +kernel) rfl (Nat.le_of_ble_eq_true rfl) rfl ?_
  intro X hl hD hty C hX hT
  subst hl hD hty
  refine r_aload_n C dL_strike_0 rfl rfl ?_
  refine r_iload_n C dL_strike_1 rfl rfl ?_
  refine r_catV C hX hT cwL_9 (t_X4_strike_f2 hX.1 (by omega) ho hr hm) dL_strike_2 rfl (by omega) xput_0 rfl rfl (Nat.le_of_ble_eq_true rfl) ⟨Nat.le_of_ble_eq_true rfl, Nat.le_of_ble_eq_true rfl⟩ ⟨Nat.le_of_ble_eq_true rfl, Nat.le_of_ble_eq_true rfl⟩ [] ⟨0, 5, 6, 15⟩ [] rfl (fun _ h => absurd h List.not_mem_nil) rfl (by decide) klL_15 hX.2.2.1.2.2 (fun q9 => ?_)
  show V X 1 6 _ 6 _ _ _ _ _
  refine r_astore_n C dL_strike_6 rfl (Nat.le_of_ble_eq_true rfl) rfl ?_
  dsimp only [List.set]
  refine r_bipush C dL_strike_7 (by decide) ?_
  exact r_iret C dL_strike_9 ⟨rfl, rfl, rfl, rfl⟩ (Nat.le_of_ble_eq_true rfl) (Nat.le_of_ble_eq_true rfl)
set_option maxRecDepth 100000 in
set_option maxHeartbeats 4000000 in
theorem w_L_light {l : Launch} {D : va_G} {ty : Nat → ClassId} {ad : Int → Nat} {N : Int} {σ : Int → va_E} {x n k len : Int} {u : Int → Int → Int} {s tx : Int → Int} {r o : Int} (hst : l.stackTraces = false) (hx : 0 ≤ x ∧ x + 145 ≤ N) (ho : okX s n u len tx) (hr : 0 ≤ r ∧ r < 6) (ho2 : 0 ≤ o ∧ o < 6) (hm : mayL s r o) : gMetW l yL_light cL_light 4 (some .int) [(0, 6, 7, 15)] { frames := 8, cells := 1, slots := 6, locals := 250 } [.ref (ad x), .int (gI r), .int (gI o)] D ty ad N (xput ad ty σ x s n k u len tx) (gD (some (.int (gI (rm s r 0)))) ad N (xput ad ty σ x (light1 s r) (pshN n) (pshK n k) (pshU n k u s) (len) (tx))) := by
  refine gMetW_of [some (.ref (ad x)), some (.int (gI r)), some (.int (gI o)), none] hst (by decide +kernel) rfl (Nat.le_of_ble_eq_true rfl) rfl ?_
  intro X hl hD hty C hX hT
  subst hl hD hty
  refine r_aload_n C dL_light_0 rfl rfl ?_
  refine r_iload_n C dL_light_1 rfl rfl ?_
  refine r_iload_n C dL_light_2 rfl rfl ?_
  refine r_cV C cwL_17 (c_X4_light (by omega) ho hr ho2 hm) dL_light_3 rfl (by omega) xput_0 rfl rfl rfl (Nat.le_of_ble_eq_true rfl) ⟨Nat.le_of_ble_eq_true rfl, Nat.le_of_ble_eq_true rfl⟩ ⟨Nat.le_of_ble_eq_true rfl, Nat.le_of_ble_eq_true rfl⟩ ?_
  exact r_iret C dL_light_6 ⟨rfl, rfl, rfl, rfl⟩ (Nat.le_of_ble_eq_true rfl) (Nat.le_of_ble_eq_true rfl)
set_option maxRecDepth 100000 in
set_option maxHeartbeats 4000000 in
theorem w_L_light_f {l : Launch} {D : va_G} {ty : Nat → ClassId} {ad : Int → Nat} {N : Int} {σ : Int → va_E} {x n k len : Int} {u : Int → Int → Int} {s tx : Int → Int} {r o : Int} (hst : l.stackTraces = false) (hx : 0 ≤ x ∧ x + 145 ≤ N) (ho : okX s n u len tx) (hr : 0 ≤ r ∧ r < 6) (ho2 : 0 ≤ o ∧ o < 6) (hm : ¬ mayL s r o) : gMetW l yL_light cL_light 4 (some .int) [(0, 6, 7, 15)] { frames := 8, cells := 1, slots := 6, locals := 250 } [.ref (ad x), .int (gI r), .int (gI o)] D ty ad N (xput ad ty σ x s n k u len tx) (gD (some (.int (gI (-3)))) ad N (xput ad ty σ x s n k u len tx)) := by
  refine gMetW_of [some (.ref (ad x)), some (.int (gI r)), some (.int (gI o)), none] hst (by decide +kernel) rfl (Nat.le_of_ble_eq_true rfl) rfl ?_
  intro X hl hD hty C hX hT
  subst hl hD hty
  refine r_aload_n C dL_light_0 rfl rfl ?_
  refine r_iload_n C dL_light_1 rfl rfl ?_
  refine r_iload_n C dL_light_2 rfl rfl ?_
  refine r_catV C hX hT cwL_17 (t_X4_light_f2 hX.1 (by omega) ho hr ho2 hm) dL_light_3 rfl (by omega) xput_0 rfl rfl (Nat.le_of_ble_eq_true rfl) ⟨Nat.le_of_ble_eq_true rfl, Nat.le_of_ble_eq_true rfl⟩ ⟨Nat.le_of_ble_eq_true rfl, Nat.le_of_ble_eq_true rfl⟩ [] ⟨0, 6, 7, 15⟩ [] rfl (fun _ h => absurd h List.not_mem_nil) rfl (by decide) klL_15 hX.2.2.1.2.2 (fun q9 => ?_)
  show V X 1 6 _ 7 _ _ _ _ _
  refine r_astore_n C dL_light_7 rfl (Nat.le_of_ble_eq_true rfl) rfl ?_
  dsimp only [List.set]
  refine r_bipush C dL_light_8 (by decide) ?_
  exact r_iret C dL_light_10 ⟨rfl, rfl, rfl, rfl⟩ (Nat.le_of_ble_eq_true rfl) (Nat.le_of_ble_eq_true rfl)
set_option maxRecDepth 100000 in
set_option maxHeartbeats 4000000 in
theorem w_L_fresh {l : Launch} {D : va_G} {ty : Nat → ClassId} {ad : Int → Nat} {N : Int} {σ : Int → va_E} {x n k len : Int} {u : Int → Int → Int} {s tx : Int → Int} {r : Int} (hst : l.stackTraces = false) (hx : 0 ≤ x ∧ x + 145 ≤ N) (ho : okX s n u len tx) (hr : 0 ≤ r ∧ r < 6) (hm : 0 < s 1) : gMetW l yL_fresh cL_fresh 3 (some .int) [(0, 5, 6, 15)] { frames := 8, cells := 1, slots := 6, locals := 250 } [.ref (ad x), .int (gI r)] D ty ad N (xput ad ty σ x s n k u len tx) (gD (some (.int (gI (s 1 - 1)))) ad N (xput ad ty σ x (renew s r) (pshN n) (pshK n k) (pshU n k u s) (len) (tx))) := by
  refine gMetW_of [some (.ref (ad x)), some (.int (gI r)), none] hst (by decide +kernel) rfl (Nat.le_of_ble_eq_true rfl) rfl ?_
  intro X hl hD hty C hX hT
  subst hl hD hty
  refine r_aload_n C dL_fresh_0 rfl rfl ?_
  refine r_iload_n C dL_fresh_1 rfl rfl ?_
  refine r_cV C cwL_21 (c_X4_fresh (by omega) ho hr hm) dL_fresh_2 rfl (by omega) xput_0 rfl rfl rfl (Nat.le_of_ble_eq_true rfl) ⟨Nat.le_of_ble_eq_true rfl, Nat.le_of_ble_eq_true rfl⟩ ⟨Nat.le_of_ble_eq_true rfl, Nat.le_of_ble_eq_true rfl⟩ ?_
  exact r_iret C dL_fresh_5 ⟨rfl, rfl, rfl, rfl⟩ (Nat.le_of_ble_eq_true rfl) (Nat.le_of_ble_eq_true rfl)
set_option maxRecDepth 100000 in
set_option maxHeartbeats 4000000 in
theorem w_L_fresh_f {l : Launch} {D : va_G} {ty : Nat → ClassId} {ad : Int → Nat} {N : Int} {σ : Int → va_E} {x n k len : Int} {u : Int → Int → Int} {s tx : Int → Int} {r : Int} (hst : l.stackTraces = false) (hx : 0 ≤ x ∧ x + 145 ≤ N) (ho : okX s n u len tx) (hr : 0 ≤ r ∧ r < 6) (hm : ¬ 0 < s 1) : gMetW l yL_fresh cL_fresh 3 (some .int) [(0, 5, 6, 15)] { frames := 8, cells := 1, slots := 6, locals := 250 } [.ref (ad x), .int (gI r)] D ty ad N (xput ad ty σ x s n k u len tx) (gD (some (.int (gI (-3)))) ad N (xput ad ty σ x s n k u len tx)) := by
  refine gMetW_of [some (.ref (ad x)), some (.int (gI r)), none] hst (by decide +kernel) rfl (Nat.le_of_ble_eq_true rfl) rfl ?_
  intro X hl hD hty C hX hT
  subst hl hD hty
  refine r_aload_n C dL_fresh_0 rfl rfl ?_
  refine r_iload_n C dL_fresh_1 rfl rfl ?_
  refine r_catV C hX hT cwL_21 (t_X4_fresh_f2 hX.1 (by omega) ho hr hm) dL_fresh_2 rfl (by omega) xput_0 rfl rfl (Nat.le_of_ble_eq_true rfl) ⟨Nat.le_of_ble_eq_true rfl, Nat.le_of_ble_eq_true rfl⟩ ⟨Nat.le_of_ble_eq_true rfl, Nat.le_of_ble_eq_true rfl⟩ [] ⟨0, 5, 6, 15⟩ [] rfl (fun _ h => absurd h List.not_mem_nil) rfl (by decide) klL_15 hX.2.2.1.2.2 (fun q9 => ?_)
  show V X 1 6 _ 6 _ _ _ _ _
  refine r_astore_n C dL_fresh_6 rfl (Nat.le_of_ble_eq_true rfl) rfl ?_
  dsimp only [List.set]
  refine r_bipush C dL_fresh_7 (by decide) ?_
  exact r_iret C dL_fresh_9 ⟨rfl, rfl, rfl, rfl⟩ (Nat.le_of_ble_eq_true rfl) (Nat.le_of_ble_eq_true rfl)
set_option maxRecDepth 100000 in
set_option maxHeartbeats 4000000 in
theorem w_L_keep {l : Launch} {D : va_G} {ty : Nat → ClassId} {ad : Int → Nat} {N : Int} {σ : Int → va_E} {x n k len : Int} {u : Int → Int → Int} {s tx : Int → Int} {r key : Int} (hst : l.stackTraces = false) (hx : 0 ≤ x ∧ x + 145 ≤ N) (ho : okX s n u len tx) (hr : 0 ≤ r ∧ r < 6) (hk : 0 ≤ key ∧ key < 100) (hm : mayK s r key) : gMetW l yL_keep cL_keep 4 (some .int) [(0, 6, 7, 15)] { frames := 8, cells := 1, slots := 6, locals := 250 } [.ref (ad x), .int (gI r), .int (gI key)] D ty ad N (xput ad ty σ x s n k u len tx) (gD (some (.int (gI (rm s r 6 + 1)))) ad N (xput ad ty σ x (keepS s r key) (pshN n) (pshK n k) (pshU n k u s) (len) (tx))) := by
  refine gMetW_of [some (.ref (ad x)), some (.int (gI r)), some (.int (gI key)), none] hst (by decide +kernel) rfl (Nat.le_of_ble_eq_true rfl) rfl ?_
  intro X hl hD hty C hX hT
  subst hl hD hty
  refine r_aload_n C dL_keep_0 rfl rfl ?_
  refine r_iload_n C dL_keep_1 rfl rfl ?_
  refine r_iload_n C dL_keep_2 rfl rfl ?_
  refine r_cV C cwL_24 (c_X4_keep (by omega) ho hr hk hm) dL_keep_3 rfl (by omega) xput_0 rfl rfl rfl (Nat.le_of_ble_eq_true rfl) ⟨Nat.le_of_ble_eq_true rfl, Nat.le_of_ble_eq_true rfl⟩ ⟨Nat.le_of_ble_eq_true rfl, Nat.le_of_ble_eq_true rfl⟩ ?_
  exact r_iret C dL_keep_6 ⟨rfl, rfl, rfl, rfl⟩ (Nat.le_of_ble_eq_true rfl) (Nat.le_of_ble_eq_true rfl)
set_option maxRecDepth 100000 in
set_option maxHeartbeats 4000000 in
theorem w_L_keep_f {l : Launch} {D : va_G} {ty : Nat → ClassId} {ad : Int → Nat} {N : Int} {σ : Int → va_E} {x n k len : Int} {u : Int → Int → Int} {s tx : Int → Int} {r key : Int} (hst : l.stackTraces = false) (hx : 0 ≤ x ∧ x + 145 ≤ N) (ho : okX s n u len tx) (hr : 0 ≤ r ∧ r < 6) (hk : 0 ≤ key ∧ key < 100) (hm : ¬ mayK s r key) : gMetW l yL_keep cL_keep 4 (some .int) [(0, 6, 7, 15)] { frames := 8, cells := 1, slots := 6, locals := 250 } [.ref (ad x), .int (gI r), .int (gI key)] D ty ad N (xput ad ty σ x s n k u len tx) (gD (some (.int (gI (-3)))) ad N (xput ad ty σ x s n k u len tx)) := by
  refine gMetW_of [some (.ref (ad x)), some (.int (gI r)), some (.int (gI key)), none] hst (by decide +kernel) rfl (Nat.le_of_ble_eq_true rfl) rfl ?_
  intro X hl hD hty C hX hT
  subst hl hD hty
  refine r_aload_n C dL_keep_0 rfl rfl ?_
  refine r_iload_n C dL_keep_1 rfl rfl ?_
  refine r_iload_n C dL_keep_2 rfl rfl ?_
  refine r_catV C hX hT cwL_24 (t_X4_keep_f3 hX.1 (by omega) ho hr hk hm) dL_keep_3 rfl (by omega) xput_0 rfl rfl (Nat.le_of_ble_eq_true rfl) ⟨Nat.le_of_ble_eq_true rfl, Nat.le_of_ble_eq_true rfl⟩ ⟨Nat.le_of_ble_eq_true rfl, Nat.le_of_ble_eq_true rfl⟩ [] ⟨0, 6, 7, 15⟩ [] rfl (fun _ h => absurd h List.not_mem_nil) rfl (by decide) klL_15 hX.2.2.1.2.2 (fun q9 => ?_)
  show V X 1 6 _ 7 _ _ _ _ _
  refine r_astore_n C dL_keep_7 rfl (Nat.le_of_ble_eq_true rfl) rfl ?_
  dsimp only [List.set]
  refine r_bipush C dL_keep_8 (by decide) ?_
  exact r_iret C dL_keep_10 ⟨rfl, rfl, rfl, rfl⟩ (Nat.le_of_ble_eq_true rfl) (Nat.le_of_ble_eq_true rfl)
set_option maxRecDepth 100000 in
set_option maxHeartbeats 4000000 in
theorem w_L_undo {l : Launch} {D : va_G} {ty : Nat → ClassId} {ad : Int → Nat} {N : Int} {σ : Int → va_E} {x n k len : Int} {u : Int → Int → Int} {s tx : Int → Int}  (hst : l.stackTraces = false) (hx : 0 ≤ x ∧ x + 145 ≤ N) (ho : okX s n u len tx)  (hn1 : 1 ≤ n) : gMetW l yL_undo cL_undo 2 (some .int) [(0, 4, 5, 15)] { frames := 8, cells := 1, slots := 6, locals := 250 } [.ref (ad x)] D ty ad N (xput ad ty σ x s n k u len tx) (gD (some (.int (gI (n - 1)))) ad N (xput ad ty σ x (u ((n - 1 + k) % 6)) (n - 1) k u len tx)) := by
  refine gMetW_of [some (.ref (ad x)), none] hst (by decide +kernel) rfl (Nat.le_of_ble_eq_true rfl) rfl ?_
  intro X hl hD hty C hX hT
  subst hl hD hty
  refine r_aload_n C dL_undo_0 rfl rfl ?_
  refine r_cV C cwL_27 (c_X4_undo (by omega) ho hn1) dL_undo_1 rfl (by omega) xput_0 rfl rfl rfl (Nat.le_of_ble_eq_true rfl) ⟨Nat.le_of_ble_eq_true rfl, Nat.le_of_ble_eq_true rfl⟩ ⟨Nat.le_of_ble_eq_true rfl, Nat.le_of_ble_eq_true rfl⟩ ?_
  exact r_iret C dL_undo_4 ⟨rfl, rfl, rfl, rfl⟩ (Nat.le_of_ble_eq_true rfl) (Nat.le_of_ble_eq_true rfl)
set_option maxRecDepth 100000 in
set_option maxHeartbeats 4000000 in
theorem w_L_undo_f {l : Launch} {D : va_G} {ty : Nat → ClassId} {ad : Int → Nat} {N : Int} {σ : Int → va_E} {x n k len : Int} {u : Int → Int → Int} {s tx : Int → Int}  (hst : l.stackTraces = false) (hx : 0 ≤ x ∧ x + 145 ≤ N) (ho : okX s n u len tx)  (hn0 : n = 0) : gMetW l yL_undo cL_undo 2 (some .int) [(0, 4, 5, 15)] { frames := 8, cells := 1, slots := 6, locals := 250 } [.ref (ad x)] D ty ad N (xput ad ty σ x s n k u len tx) (gD (some (.int (gI (-3)))) ad N (xput ad ty σ x s n k u len tx)) := by
  refine gMetW_of [some (.ref (ad x)), none] hst (by decide +kernel) rfl (Nat.le_of_ble_eq_true rfl) rfl ?_
  intro X hl hD hty C hX hT
  subst hl hD hty
  refine r_aload_n C dL_undo_0 rfl rfl ?_
  refine r_catV C hX hT cwL_27 (t_X4_undo_f1 hX.1 (by omega) ho hn0) dL_undo_1 rfl (by omega) xput_0 rfl rfl (Nat.le_of_ble_eq_true rfl) ⟨Nat.le_of_ble_eq_true rfl, Nat.le_of_ble_eq_true rfl⟩ ⟨Nat.le_of_ble_eq_true rfl, Nat.le_of_ble_eq_true rfl⟩ [] ⟨0, 4, 5, 15⟩ [] rfl (fun _ h => absurd h List.not_mem_nil) rfl (by decide) klL_15 hX.2.2.1.2.2 (fun q9 => ?_)
  show V X 1 6 _ 5 _ _ _ _ _
  refine r_astore_n C dL_undo_5 rfl (Nat.le_of_ble_eq_true rfl) rfl ?_
  dsimp only [List.set]
  refine r_bipush C dL_undo_6 (by decide) ?_
  exact r_iret C dL_undo_8 ⟨rfl, rfl, rfl, rfl⟩ (Nat.le_of_ble_eq_true rfl) (Nat.le_of_ble_eq_true rfl)
section TOLD
variable {l : Launch} {D : va_G} {ty : Nat → ClassId} {ad : Int → Nat} {N : Int} {σ : Int → va_E} {x n k len : Int} {u : Int → Int → Int} {s tx : Int → Int}
theorem q_count {w z : Int} (hx : 0 ≤ x ∧ x + 145 ≤ N) (ho : okX s n u len tx) (hw0 : 0 ≤ w ∧ w < 12) (hz : cntX s n w = z) : gM0 l yX4_count cX4_count 2 (some .int) 7 221 [.ref (ad x), .int (gI w)] D ty ad N (xput ad ty σ x s n k u len tx) (some (.int (gI z))) (xput ad ty σ x s n k u len tx) := by
  rw [← hz]; exact c_X4_count hx ho hw0
theorem q_room {r w z : Int} (hx : 0 ≤ x ∧ x + 145 ≤ N) (ho : okX s n u len tx) (hr : 0 ≤ r ∧ r < 6) (hw : 0 ≤ w ∧ w < 8) (hz : numR (rm s r) w = z) : gM0 l yX4_room cX4_room 3 (some .int) 7 221 [.ref (ad x), .int (gI r), .int (gI w)] D ty ad N (xput ad ty σ x s n k u len tx) (some (.int (gI z))) (xput ad ty σ x s n k u len tx) := by
  rw [← hz]; exact c_X4_room hx ho hr hw
theorem q_thing {key w z : Int} (hx : 0 ≤ x ∧ x + 145 ≤ N) (ho : okX s n u len tx) (hk : 0 ≤ key ∧ key < 100) (hw : 0 ≤ w ∧ w < 3) (hz : thn s key w = z) : gM0 l yX4_thing cX4_thing 3 (some .int) 7 221 [.ref (ad x), .int (gI key), .int (gI w)] D ty ad N (xput ad ty σ x s n k u len tx) (some (.int (gI z))) (xput ad ty σ x s n k u len tx) := by
  rw [← hz]; exact c_X4_thing hx ho hk hw
end TOLD
