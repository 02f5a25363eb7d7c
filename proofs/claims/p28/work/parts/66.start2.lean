/-! the law from its first instruction, the start of the claim -/
theorem okS_0 : okS store0 ∧ ∀ r, 0 ≤ r → r < 6 → rm store0 r = roomZ := by
  have e : ∀ r, 0 ≤ r → r < 6 → rm store0 r = roomZ := fun r h0 h1 => by
    unfold store0
    rw [rm_up_lo (by omega), rm_up_lo (by omega), rm_up_lo (by omega), rm_rooms0 ⟨h0, h1⟩]
  refine ⟨⟨by decide, by decide, Or.inl (by decide), fun r h0 h1 => ?_⟩, e⟩
  rw [e r h0 h1]
  have hz : ∀ j : Int, 6 ≤ j → roomZ j = 0 := fun j h => by unfold roomZ; rw [if_neg (by omega), if_neg (by omega)]
  exact ⟨by decide, by decide, by decide, by decide, by decide, by decide, fun i h0 h1 => by rw [hz _ (by omega)]; omega, fun i h0 h1 => by rw [hz _ (by omega)]; omega, by decide⟩
theorem ok2_0 : ok2 0 store0 := by
  have h6 : ∀ r, 0 ≤ r → r < 6 → rm store0 r 6 = 0 := fun r h0 h1 => by rw [okS_0.2 r h0 h1]; decide
  refine ⟨okS_0.1, fun r h0 h1 => ?_, ⟨fun r h0 h1 i j a b c d e => ?_, fun r q key h0 h1 h2 h3 a b => ?_⟩, by decide, by decide, by decide⟩
  · rw [okS_0.2 r h0 h1]; decide
  · rw [h6 r h0 h1] at b; omega
  · obtain ⟨i, hi, -⟩ := a
    rw [h6 r h0 h1] at hi; omega
theorem okI_0 : okI 0 store0 0 (fun _ => store0) := ⟨ok2_0, by omega, fun _ _ _ => ok2_0⟩
set_option maxRecDepth 100000 in
set_option maxHeartbeats 4000000 in
/-- the law from its first instruction: the object, the turns; then its loop -/
theorem law_from {X : gT} {rt : Option FieldType} {Q : State → Prop} {b Ls : Nat} {xz : Int → Int} (C : gOk X cL_law 19 RL room_1 rt) (hX : gXk X) (hS : gSc X b Ls xz) (hLs : Ls ≤ 260) (KE : ∀ (L : List (Option Value)) (ad : Int → Nat) (σ9 : Int → va_E), V X 704810 6986752 Q 689 L [.int (gI 1)] ad 145 σ9) {ad0 : Int → Nat} {σ : Int → va_E} : V X 0 0 Q 0 [some (.ref b), none, none, none, none, none, none, none, none, none, none, none, none, none, none, none, none, none, none] [] ad0 0 σ := by
  refine r_new (ci := 4) (fs := [.null, .null, .null]) C inW4 tyX4_ok knL_10 rfl dL_law_0 (fun j hj => by rcases (show j = 0 ∨ j = 1 ∨ j = 2 by omega) with rfl | rfl | rfl <;> rfl) (by omega) ⟨Nat.le_of_ble_eq_true rfl, Nat.le_of_ble_eq_true rfl⟩ (fun q0 => ?_)
  refine r_dup C dL_law_3 rfl ?_
  refine r_callI (RY := { frames := 4, cells := 144, slots := 896, locals := 120 }) C cwL_100 (c_X4_init (x := 0) (by omega) (up_s _ _ _) (up_s _ _ _)) dL_law_4 rfl rfl rfl (Nat.le_of_ble_eq_true rfl) ⟨Nat.le_of_ble_eq_true rfl, Nat.le_of_ble_eq_true rfl⟩ ⟨Nat.le_of_ble_eq_true rfl, Nat.le_of_ble_eq_true rfl⟩ (fun rv ad N1 σ1 hp => ?_)
  obtain ⟨rfl, rfl, ha1, hs1⟩ := hp
  dsimp only at hs1
  have hq0 : ad 0 = q0 := (ha1 0 (by omega)).trans (up_s _ _ _)
  rw [show (0 : Int) + 1 + 144 = 145 from rfl]
  rw [hs1]
  clear hs1 ha1
  subst hq0
  generalize up σ 0 (.inr (4, [.null, .null, .null])) = σ
  refine r_astore_n C dL_law_7 rfl (Nat.le_of_ble_eq_true rfl) rfl ?_
  dsimp only [List.set]
  have hrc : 2000 ≤ room_1.cells ∧ 20000 ≤ room_1.slots := ⟨Nat.le_of_ble_eq_true rfl, Nat.le_of_ble_eq_true rfl⟩
  have k29 : ∀ T : Int, 0 ≤ T ∧ T ≤ 45 → V X 145 899 Q 29 [some (.ref b), some (.ref (ad 0)), some (.int (gI 1)), some (.int (gI T)), none, none, none, none, none, none, none, none, none, none, none, none, none, none, none] [] ad 145 (xput ad (gty X) σ 0 store0 0 0 (fun _ => store0) 0 (fun _ => 0)) := by
    intro T hT
    refine r_iconst C dL_law_29 ?_
    refine r_istore C dL_law_30 (Nat.le_of_ble_eq_true rfl) rfl ?_
    dsimp only [List.set]
    exact law_loop C hX hS hLs hT (fun L σ9 => KE L ad σ9) T.toNat 0 store0 0 0 (fun _ => store0) 145 899 (by omega) (by omega) okI_0 (by omega) (by omega)
  show V X 145 899 Q 8 _ _ _ _ _
  refine r_iconst C dL_law_8 ?_
  refine r_istore_n C dL_law_9 rfl (Nat.le_of_ble_eq_true rfl) rfl ?_
  dsimp only [List.set]
  refine r_aload_n C dL_law_10 rfl rfl ?_
  refine r_slen C hS dL_law_11 ?_
  refine r_iconst C dL_law_12 ?_
  refine r_idiv C dL_law_13 (by omega) (by omega) ?_
  refine r_bipush C dL_law_14 (by decide) ?_
  refine r_icmp_le (tgt := 24) C dL_law_16 (by decide) (by omega) (by omega) (fun h16 => ?_) (fun h16 => ?_)
  · refine r_aload_n C dL_law_24 rfl rfl ?_
    refine r_slen C hS dL_law_25 ?_
    refine r_iconst C dL_law_26 ?_
    refine r_idiv C dL_law_27 (by omega) (by omega) ?_
    refine r_istore_n C dL_law_28 rfl (Nat.le_of_ble_eq_true rfl) rfl ?_
    dsimp only [List.set]
    exact k29 _ (by omega)
  · refine r_bipush C dL_law_19 (by decide) ?_
    refine r_goto (tgt := 28) C dL_law_21 (by decide) ?_
    refine r_istore_n C dL_law_28 rfl (Nat.le_of_ble_eq_true rfl) rfl ?_
    dsimp only [List.set]
    exact k29 _ (by omega)
set_option maxHeartbeats 4000000 in
theorem whole_start {p : Program} {e : Env} {s : State} {m : MethodId} {below : List Frame} {meth : Method} {c : Code} (l : Launch) (hflags : l.flags = flags0) {b L : Nat} {xs : Nat → Int32} (hL : L ≤ 260) (C0 : lw_At p s m meth c b L xs) : W p l e room_1 s m #[Value.ref b] below meth c s.heap [] 0 0 (lw_Z below #[Value.ref b] s) (entryFrame m ([Value.ref b] : List Value).toArray 19) := by
  obtain ⟨hx, hb, hr, hml, hown, hts, hXs, hbl, hlocks, hgv⟩ := C0
  obtain ⟨D, ty, hK⟩ := start_K hts
  have hE := start_E hts hgv
  have hst : l.stackTraces = false := by unfold Launch.stackTraces; rw [hflags]; decide +kernel
  have hl := lv_entry ([.ref b]) (n := 19) (Nat.le_of_ble_eq_true rfl)
  rw [lg_entry_eq]
  generalize (lg_sl ([.ref b]) ++ List.replicate (19 - (lg_sl ([.ref b])).length) Slot.unset).toArray = ls at hl ⊢
  have C : gOk (p, l, e, room_1, s, m, #[Value.ref b], below, meth, c, D, ty, fun q : Nat => s.heap.size ≤ q) cL_law 19 RL room_1 ret :=
    ⟨hx, hb, hml, hown, fun w hw => hts w (WS_tbl hw), hlocks, hr, rfl, hK, fun q h => h, va_AO.of (hts _ (List.mem_of_getElem? (i := 31) (by decide +kernel))), va_AO.of (hts _ (List.mem_of_getElem? (i := 121) (by decide +kernel))), va_Nw.of rfl (hts _ (List.mem_of_getElem? (i := 260) (by decide +kernel))), va_Nw.of rfl (hts _ (List.mem_of_getElem? (i := 288) (by decide +kernel)))⟩
  have hsc : gSc (p, l, e, room_1, s, m, #[Value.ref b], below, meth, c, D, ty, fun q : Nat => s.heap.size ≤ q) b L (fun j => (xs j.toNat).toInt) := ⟨xs, hXs, hbl, Nat.not_le.mpr hbl, fun j => (gI_of _).symm⟩
  refine law_from C ⟨hst, hE⟩ hsc hL (fun L9 ad σ9 => ?_) (ad0 := fun _ => 0) (σ := fun _ => .inr (0, [])) ls s.heap [] hl ⟨fun k q hq => ?_, ⟨fun i j p q hp => ?_, fun k q hq => ?_⟩, va_S.rf⟩
  · rw [gI_1]
    exact fun ls H locs hl hw => va_forget (fun q hq => hw.2.2.2.2 q hq) (lw_ret (d0 := s.drawn) (Drawn.sameBut.refl s.drawn lw_cs) hx hb hr hlocks dL_law_689)
  · simp [gl] at hq
  · simp [gl] at hp
  · simp [gl] at hq
