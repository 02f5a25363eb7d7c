
set_option maxRecDepth 100000 in
set_option maxHeartbeats 4000000 in
/-- the law from its first instruction: object, reference, array; then its loop -/
theorem law_from {X : gT} {rt : Option FieldType} {Q : State → Prop} {b Ls : Nat} {xz : Int → Int} (C : gOk X cL_law 9 RL room_1 rt) (hX : gXk X) (hsc : gSc X b Ls xz) (KE : ∀ (ad : Int → Nat) (i : Int) (σ9 : Int → va_E), V X 628140 7211684 Q 1421 (LL b ad i) [] ad 152 σ9) {ad0 : Int → Nat} {σ0 : Int → va_E} : V X 0 0 Q 0 [some (.ref b), none, none, none, none, none, none, none, none] [] ad0 0 σ0 := by
  refine r_new (ci := 4) (fs := [.null, .null, .null]) C inW4 tyX4_ok knL_8 rfl dL_law_0 (fun j hj => by rcases (show j = 0 ∨ j = 1 ∨ j = 2 by omega) with rfl | rfl | rfl <;> rfl) (by omega) ⟨Nat.le_of_ble_eq_true rfl, Nat.le_of_ble_eq_true rfl⟩ (fun q0 => ?_)
  refine r_dup C dL_law_3 rfl ?_
  refine r_callI (RY := { frames := 4, cells := 144, slots := 896, locals := 120 }) C cwL_76 (c_X4_init (x := 0) (by omega) (up_s _ _ _) (up_s _ _ _)) dL_law_4 rfl rfl rfl (Nat.le_of_ble_eq_true rfl) ⟨Nat.le_of_ble_eq_true rfl, Nat.le_of_ble_eq_true rfl⟩ ⟨Nat.le_of_ble_eq_true rfl, Nat.le_of_ble_eq_true rfl⟩ (fun rv ad1 N1 σ1 hp => ?_)
  obtain ⟨rfl, rfl, ha1, hs1⟩ := hp
  dsimp only at hs1
  have hq0 : ad1 0 = q0 := (ha1 0 (by omega)).trans (up_s _ _ _)
  rw [show (0 : Int) + 1 + 144 = 145 from rfl]
  refine r_astore_n C dL_law_7 rfl (Nat.le_of_ble_eq_true rfl) rfl ?_
  dsimp only [List.set]
  refine r_new (ci := 5) (fs := zF5) C inW5 tyX5_ok knL_77 rfl dL_law_8 (fun j hj => by rcases (show j = 0 ∨ j = 1 ∨ j = 2 ∨ j = 3 ∨ j = 4 ∨ j = 5 ∨ j = 6 ∨ j = 7 ∨ j = 8 ∨ j = 9 ∨ j = 10 by omega) with rfl | rfl | rfl | rfl | rfl | rfl | rfl | rfl | rfl | rfl | rfl <;> rfl) (by omega) ⟨Nat.le_of_ble_eq_true rfl, Nat.le_of_ble_eq_true rfl⟩ (fun q1 => ?_)
  refine r_dup C dL_law_11 rfl ?_
  refine r_callI (RY := { frames := 1, cells := 5, slots := 915, locals := 20 }) C cwL_79 (c_X5_init (m := 145) (by omega) (up_s _ _ _) (up_s _ _ _)) dL_law_12 rfl rfl rfl (Nat.le_of_ble_eq_true rfl) ⟨Nat.le_of_ble_eq_true rfl, Nat.le_of_ble_eq_true rfl⟩ ⟨Nat.le_of_ble_eq_true rfl, Nat.le_of_ble_eq_true rfl⟩ (fun rv ad2 N2 σ2 hp => ?_)
  obtain ⟨rfl, rfl, ha2, hs2⟩ := hp
  dsimp only at hs2
  have hj2 : ∀ j, j < 145 → ad2 j = ad1 j := fun j hj => (ha2 j (by omega)).trans (up_n (by omega))
  have hq1 : ad2 145 = q1 := (ha2 145 (by omega)).trans (up_s _ _ _)
  rw [show (145 : Int) + 1 + 5 = 151 from rfl]
  refine r_astore_n C dL_law_15 rfl (Nat.le_of_ble_eq_true rfl) rfl ?_
  dsimp only [List.set]
  refine r_iconst C dL_law_16 ?_
  refine r_newL (n := 1) C kar_long dL_law_17 (by decide) (by omega) ⟨Nat.le_of_ble_eq_true rfl, Nat.le_of_ble_eq_true rfl⟩ (fun q2 => ?_)
  rw [show (151 : Int) + 1 = 152 from rfl]
  refine r_astore_n C dL_law_19 rfl (Nat.le_of_ble_eq_true rfl) rfl ?_
  dsimp only [List.set]
  refine r_iconst C dL_law_20 ?_
  refine r_istore C dL_law_21 (Nat.le_of_ble_eq_true rfl) rfl ?_
  dsimp only [List.set]
  obtain ⟨ad3, hd3⟩ : ∃ a, a = up ad2 151 q2 := ⟨_, rfl⟩
  rw [← hd3]
  have hj3 : ∀ j, j < 151 → ad3 j = ad2 j := fun j hj => by rw [hd3, up_n (by omega)]
  have e0 : ad3 0 = q0 := (hj3 0 (by omega)).trans ((hj2 0 (by omega)).trans hq0)
  have e1 : ad3 145 = q1 := (hj3 145 (by omega)).trans hq1
  have e2 : ad3 151 = q2 := by rw [hd3, up_s]
  have hw : up σ2 151 (gLA (gty X 2) 1 (fun _ => 0)) = LW ad3 (gty X) σ0 store0 0 0 (fun _ => store0) 0 z0 z0 store0 z0 z0 z0 z0 (fun _ => 0) := by
    rw [hs2, hs1]
    funext j
    by_cases h1 : j = 151
    · rw [h1, up_s, lw_g2]
    · rw [up_n h1]
      by_cases h2 : 0 ≤ j ∧ j < 145
      · rw [mput_x (by omega), up_n (by omega)]
        exact (xput_in (by omega)).trans (xput_ad fun i h1 h2 => ((hj3 i (by omega)).trans (hj2 i (by omega))).symm)
      · show _ = xput ad3 (gty X) (mput ad3 (gty X) (up σ0 151 (gLA (gty X 2) 1 (fun _ => 0))) 145 z0 store0 z0 z0 z0 z0) 0 store0 0 0 (fun _ => store0) 0 z0 j
        rw [xput_x (by omega)]
        by_cases h3 : 145 ≤ j ∧ j < 151
        · exact (mput_in (by omega)).trans (mput_ad fun i h1 h2 => (hj3 i (by omega)).symm)
        · rw [mput_x (by omega), mput_x (by omega), up_n (by omega), xput_x (by omega), up_n (by omega), up_n (by omega)]
  rw [hw, ← e0, ← e1, ← e2]
  exact law_loop C hX hsc (KE ad3) 513 0 _ _ _ _ _ _ _ _ _ _ _ _ _ (by omega) (by omega) (by have := hsc.2.1; omega) (Nat.le_of_ble_eq_true rfl) (Nat.le_of_ble_eq_true rfl) ⟨okX_0, hist_0, rfl, rfl⟩
set_option maxHeartbeats 4000000 in
theorem whole_start {p : Program} {e : Env} {s : State} {m : MethodId} {below : List Frame} {meth : Method} {c : Code} (l : Launch) (hflags : l.flags = flags0) {b L : Nat} {xs : Nat → Int32} (hL : L ≤ 1536) (C0 : lw_At p s m meth c b L xs) : W p l e room_1 s m #[Value.ref b] below meth c s.heap [] 0 0 (lw_Z below #[Value.ref b] s) (entryFrame m ([Value.ref b] : List Value).toArray 9) := by
  obtain ⟨hx, hb, hr, hml, hown, hts, hXs, hbl, hlocks, hgv⟩ := C0
  obtain ⟨D, ty, hK⟩ := start_K hts
  have hE := start_E hts hgv
  have hst : l.stackTraces = false := by unfold Launch.stackTraces; rw [hflags]; decide +kernel
  have hl := lv_entry ([.ref b]) (n := 9) (Nat.le_of_ble_eq_true rfl)
  rw [lg_entry_eq]
  generalize (lg_sl ([.ref b]) ++ List.replicate (9 - (lg_sl ([.ref b])).length) Slot.unset).toArray = ls at hl ⊢
  have C : gOk (p, l, e, room_1, s, m, #[Value.ref b], below, meth, c, D, ty, fun q : Nat => s.heap.size ≤ q) cL_law 9 RL room_1 ret :=
    ⟨hx, hb, hml, hown, fun w hw => hts w (WS_tbl hw), hlocks, hr, rfl, hK, fun q h => h, va_AO.of (hts _ (List.mem_of_getElem? (i := 55) (by decide +kernel))), va_AO.of (hts _ (List.mem_of_getElem? (i := 146) (by decide +kernel))), va_Nw.of rfl (hts _ (List.mem_of_getElem? (i := 244) (by decide +kernel))), va_Nw.of rfl (hts _ (List.mem_of_getElem? (i := 295) (by decide +kernel)))⟩
  have hsc : gSc (p, l, e, room_1, s, m, #[Value.ref b], below, meth, c, D, ty, fun q : Nat => s.heap.size ≤ q) b L (fun j => (xs j.toNat).toInt) := ⟨⟨xs, hXs, hbl, Nat.not_le.mpr hbl, fun j => (gI_of _).symm⟩, hL, fun j => gI_rng _⟩
  refine law_from C ⟨hst, hE⟩ hsc (fun ad i σ9 => ?_) (ad0 := fun _ => 0) (σ0 := fun _ => .inr (0, [])) ls s.heap [] hl ⟨fun k q hq => ?_, ⟨fun i j p q hp => ?_, fun k q hq => ?_⟩, va_S.rf⟩
  · show V _ 628140 7211684 _ 1421 [some (.ref b), some (.ref (ad 0)), some (.ref (ad 145)), some (.ref (ad 151)), some (.int (gI i)), none, none, none, none] [] ad 152 σ9
    refine r_iconst C dL_law_1421 ?_
    rw [gI_1]
    exact fun ls H locs hl hw => va_forget (fun q hq => hw.2.2.2.2 q hq) (lw_ret (d0 := s.drawn) (Drawn.sameBut.refl s.drawn lw_cs) hx hb hr hlocks dL_law_1422)
  · simp [gl] at hq
  · simp [gl] at hp
  · simp [gl] at hq
