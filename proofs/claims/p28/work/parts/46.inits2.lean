/-! constructors: the saved stores, the whole object -/
theorem sput_ad {ad ad' : Int → Nat} {ty : Nat → ClassId} {σ : Int → va_E} {b q : Int} {s : Int → Int} (h : ∀ j : Int, b ≤ j → j < b + 20 → ad j = ad' j) : sput ad ty σ b s q = sput ad' ty σ b s q := by
  unfold sput
  split
  · unfold sF; rw [h (b + 1) (by omega) (by omega)]
  · split
    · congr 1
      funext j
      unfold rmA
      by_cases hj : j < 6
      · rw [if_pos hj, if_pos hj, h (b + 2 + 3 * (j : Int)) (by omega) (by omega)]
      · rw [if_neg hj, if_neg hj]
    · split
      · exact rcell_adG (h _ (by omega) (by omega)) (h _ (by omega) (by omega))
      · rfl
theorem vputF_ad {ad ad' : Int → Nat} {ty : Nat → ClassId} {σ : Int → va_E} {v n k q : Int} {u : Int → Int → Int} (h : ∀ j : Int, v ≤ j → j < v + 122 → ad j = ad' j) : vputF ad ty σ v n (vrow ad v k) u q = vputF ad' ty σ v n (vrow ad' v k) u q := by
  unfold vputF
  split
  · rw [h (v + 1) (by omega) (by omega)]
  · split
    · congr 1
      funext j
      unfold vrow
      by_cases hj : j < 6
      · rw [if_pos hj, if_pos hj, h (v + 2 + 20 * (((j : Int) + k) % 6)) (by omega) (by omega)]
      · rw [if_neg hj, if_neg hj]
    · split
      · exact sput_ad fun j h1 h2 => h j (by omega) (by omega)
      · rfl
def vpart (ad : Int → Nat) (ty : Nat → ClassId) (σ : Int → va_E) (v r : Int) : Int → va_E := fun q =>
  if q = v then .inr (2, [.ref (ad (v + 1)), .int 0]) else if q = v + 1 then gRA (ty 4) 6 (fun j => if (j : Int) < r then some (ad (v + 2 + 20 * (j : Int))) else none) else
  if v + 2 ≤ q ∧ q < v + 2 + 20 * r then sput ad ty σ (v + 2 + 20 * ((q - v - 2) / 20)) store0 q else σ q
theorem vpart_6 {ad : Int → Nat} {ty : Nat → ClassId} {σ : Int → va_E} {v : Int} : vpart ad ty σ v 6 = vputF ad ty σ v 0 (vrow ad v 0) (fun _ => store0) := by
  funext q
  unfold vpart vputF
  split
  · simp [gI_0]
  · split
    · congr 1
      funext j
      unfold vrow
      by_cases h : j < 6
      · rw [if_pos h, if_pos (by omega), show ((j : Int) + 0) % 6 = (j : Int) by omega]
      · rw [if_neg h, if_neg (by omega)]
    · by_cases h : v + 2 ≤ q ∧ q < v + 122
      · rw [if_pos h, if_pos (by omega)]
      · rw [if_neg h, if_neg (by omega)]
theorem vpart_s {ad ad' : Int → Nat} {ty : Nat → ClassId} {σ : Int → va_E} {v r : Int} {e : va_E} (hr : 0 ≤ r ∧ r < 6) (ha : ∀ j, j < v + 2 + 20 * r → ad' j = ad j) :
    up (sput ad' ty (up (vpart ad ty σ v r) (v + 2 + 20 * r) e) (v + 2 + 20 * r) store0) (v + 1) (gRA (ty 4) 6 (va_up (fun j => if (j : Int) < r then some (ad (v + 2 + 20 * (j : Int))) else none) r.toNat (some (ad' (v + 2 + 20 * r))))) = vpart ad' ty σ v (r + 1) := by
  funext q
  by_cases h1 : q = v + 1
  · subst h1
    rw [up_s]
    unfold vpart
    rw [if_neg (by omega), if_pos rfl]
    congr 1
    funext j
    unfold va_up
    by_cases h : j = r.toNat
    · rw [if_pos h, if_pos (by omega), show (j : Int) = r by omega]
    · rw [if_neg h]
      dsimp only
      by_cases h2 : (j : Int) < r
      · rw [if_pos h2, if_pos (by omega), ha _ (by omega)]
      · rw [if_neg h2, if_neg (by omega)]
  · rw [up_n h1]
    by_cases h : v + 2 + 20 * r ≤ q ∧ q < v + 2 + 20 * r + 20
    · rw [sput_in (σ' := σ) (by omega)]
      unfold vpart
      rw [if_neg (by omega), if_neg h1, if_pos (by omega), show (q - v - 2) / 20 = r by omega]
    · rw [sput_x (by omega), up_n (by omega)]
      unfold vpart
      by_cases h0 : q = v
      · rw [if_pos h0, if_pos h0, ha _ (by omega)]
      · rw [if_neg h0, if_neg h0, if_neg h1, if_neg h1]
        by_cases h2 : v + 2 ≤ q ∧ q < v + 2 + 20 * r
        · rw [if_pos h2, if_pos (by omega)]
          exact sput_ad fun j h1 h2 => (ha j (by omega)).symm
        · rw [if_neg h2, if_neg (by omega)]
set_option maxRecDepth 100000 in
set_option maxHeartbeats 4000000 in
theorem c_X2_init {l : Launch} {D : va_G} {ty : Nat → ClassId} {ad : Int → Nat} {N : Int} {σ : Int → va_E} {v : Int} {h0 : Nat} (hv : 0 ≤ v ∧ v + 1 = N) (he : ad v = h0) (hσ : σ v = .inr (2, [.null, .int 0])) : gMet l yX2_init cX2_init 2 none { frames := 3, cells := 121, slots := 714, locals := 90 } [.ref h0] D ty ad N σ (gMk N 121 ad (fun ad' => vputF ad' ty σ v 0 (vrow ad' v 0) (fun _ => store0))) := by
  refine gMet_of [some (.ref h0), none] (by decide +kernel) rfl (Nat.le_of_ble_eq_true rfl) rfl ?_
  intro X hl hD hty C hini
  subst hl hD hty
  refine r_aload_n C dX2_init_0 rfl rfl ?_
  refine r_objInit C koX2_3 dX2_init_1 rfl (by decide) ?_
  refine r_aload_n C dX2_init_4 rfl rfl ?_
  refine r_bipush C dX2_init_5 (by decide) ?_
  refine r_newStores (n := 6) C knX2_9.1 dX2_init_7 (by decide) (by omega) ⟨Nat.le_of_ble_eq_true rfl, Nat.le_of_ble_eq_true rfl⟩ (fun q1 => ?_)
  refine ra_putF (a := v) C hini flX2_11 dX2_init_10 ((up_n (by omega)).trans he) (by omega) ((up_n (by omega)).trans hσ) rfl rfl rfl rfl (Nat.le_of_ble_eq_true rfl) ?_
  refine r_iconst C dX2_init_13 ?_
  refine r_istore_n C dX2_init_14 rfl (Nat.le_of_ble_eq_true rfl) rfl ?_
  dsimp only [List.set]
  have lp : ∀ (n : Nat) (r : Int) (ad1 : Int → Nat) (kc kn : Nat), (0 ≤ r) → (r + n = 6) → (∀ j, j < N → ad1 j = ad j) → (kc + 20 * n = 121) → (kn + 118 * n = 714) → V X kc kn (gQ X (gMk N 121 ad (fun ad' => vputF ad' (gty X) σ v 0 (vrow ad' v 0) (fun _ => store0))) 121 714) 15 [some (.ref h0), some (.int (gI r))] [] ad1 (v + 2 + 20 * r) (vpart ad1 (gty X) σ v r) := by
    intro n
    induction n with
    | zero =>
      intro r ad1 kc kn hr hrn ha hkc hkn
      have hr6 : r = 6 := by omega
      subst hr6
      refine r_iload_n C dX2_init_15 rfl rfl ?_
      refine r_bipush C dX2_init_16 (by decide) ?_
      refine r_icmp_ge (tgt := 40) C dX2_init_18 (by decide) (by omega) (by omega) (fun h18 => ?_) (fun h18 => ?_)
      · rw [vpart_6]
        exact r_vret C dX2_init_40 ⟨rfl, by omega, ha, rfl⟩ (by omega) (by omega)
      · exact absurd h18 (by omega)
    | succ n ih =>
      intro r ad1 kc kn hr hrn ha hkc hkn
      have he1 : ad1 v = h0 := (ha v (by omega)).trans he
      refine r_iload_n C dX2_init_15 rfl rfl ?_
      refine r_bipush C dX2_init_16 (by decide) ?_
      refine r_icmp_ge (tgt := 40) C dX2_init_18 (by decide) (by omega) (by omega) (fun h18 => ?_) (fun h18 => ?_)
      · exact absurd h18 (by omega)
      · refine r_aload_n C dX2_init_21 rfl rfl ?_
        refine ra_get (a := v) C flX2_11 dX2_init_22 he1 (by omega) (if_pos rfl) rfl ?_
        refine r_iload_n C dX2_init_25 rfl rfl ?_
        refine r_new (ci := 3) (fs := zF3) C inW3 tyX3_ok knX2_9 rfl dX2_init_26 (fun j hj => by rcases (show j = 0 ∨ j = 1 ∨ j = 2 ∨ j = 3 ∨ j = 4 ∨ j = 5 ∨ j = 6 ∨ j = 7 ∨ j = 8 ∨ j = 9 by omega) with rfl | rfl | rfl | rfl | rfl | rfl | rfl | rfl | rfl | rfl <;> rfl) (by omega) ⟨(show kc + 1 ≤ 121 by omega), (show kn + 10 ≤ 714 by omega)⟩ (fun q2 => ?_)
        refine r_dup C dX2_init_29 rfl ?_
        refine r_callI (RY := { frames := 2, cells := 19, slots := 108, locals := 60 }) C cwX2_17 (c_X3_init (b := v + 2 + 20 * r) (by omega) (up_s _ _ _) (up_s _ _ _)) dX2_init_30 rfl rfl rfl (Nat.le_of_ble_eq_true rfl) ⟨Nat.le_of_ble_eq_true rfl, Nat.le_of_ble_eq_true rfl⟩ ⟨(show kc + 1 + 19 ≤ 121 by omega), (show kn + 10 + 108 ≤ 714 by omega)⟩ (fun rv ad2 N2 σ2 hp => ?_)
        obtain ⟨rfl, rfl, ha2, hs2⟩ := hp
        dsimp only at hs2
        subst hs2
        have ha3 : ∀ j, j < v + 2 + 20 * r → ad2 j = ad1 j := fun j hj => (ha2 j (by omega)).trans (up_n (by omega))
        have hq2 : ad2 (v + 2 + 20 * r) = q2 := (ha2 _ (by omega)).trans (up_s _ _ _)
        refine ra_aast (a := v + 1) (b := v + 2 + 20 * r) (t := 4) C dX2_init_33 (ha3 _ (by omega)) hq2 (by omega) (f := fun j => if (j : Int) < r then some (ad1 (v + 2 + 20 * (j : Int))) else none) (c := gty X 4) (n := 6) (r := (RX3, TX3, 10)) ?_ rfl (by omega) (by decide) (by omega) sput_0 rfl ?_
        · rw [sput_x (by omega), up_n (by omega)]
          unfold vpart
          rw [if_neg (by omega), if_pos rfl]
        · rw [← hq2, vpart_s (by omega) ha3]
          refine r_iinc C dX2_init_34 rfl rfl ?_
          dsimp only [List.set]
          refine r_goto (tgt := 15) C dX2_init_37 (by decide) ?_
          rw [show v + 2 + 20 * r + 1 + 19 = v + 2 + 20 * (r + 1) by omega]
          exact ih (r + 1) ad2 _ _ (by omega) (by omega) (fun j hj => (ha3 j (by omega)).trans (ha j hj)) (by omega) (by omega)
  have h1 := lp 6 0 (up ad N q1) 1 6 (by omega) (by omega) (fun j hj => up_n (by omega)) (by omega) (by omega)
  have e : up (up σ N (gRA (gty X 4) 6 (fun _ => none))) v (.inr (2, [.null, .int 0].set 0 (.ref q1))) = vpart (up ad N q1) (gty X) σ v 0 := by
    funext q
    unfold vpart
    by_cases h1 : q = v
    · subst h1
      rw [up_s, if_pos rfl, show q + 1 = N by omega, up_s]
      all_goals rfl
    · rw [up_n h1, if_neg h1]
      by_cases h2 : q = v + 1
      · subst h2
        rw [if_pos rfl, show v + 1 = N by omega, up_s]
        all_goals (congr 1 <;> (funext j; rw [if_neg (by omega)]))
      · rw [if_neg h2, if_neg (by omega), up_n (by omega)]
  rw [show v + 2 + 20 * 0 = N + 1 by omega, ← e] at h1
  exact h1
set_option maxRecDepth 100000 in
set_option maxHeartbeats 4000000 in
theorem c_X4_init {l : Launch} {D : va_G} {ty : Nat → ClassId} {ad : Int → Nat} {N : Int} {σ : Int → va_E} {x : Int} {h0 : Nat} (hx : 0 ≤ x ∧ x + 1 = N) (he : ad x = h0) (hσ : σ x = .inr (4, [.null, .null, .null])) : gMet l yX4_init cX4_init 1 none { frames := 4, cells := 144, slots := 896, locals := 120 } [.ref h0] D ty ad N σ (gMk N 144 ad (fun ad' => xput ad' ty σ x store0 0 0 (fun _ => store0) 0 (fun _ => 0))) := by
  refine gMet_of [some (.ref h0)] (by decide +kernel) rfl (Nat.le_of_ble_eq_true rfl) rfl ?_
  intro X hl hD hty C hini
  subst hl hD hty
  obtain ⟨hx0, rfl⟩ := hx
  refine r_aload_n C dX4_init_0 rfl rfl ?_
  refine r_objInit C koX4_1 dX4_init_1 rfl (by decide) ?_
  refine r_aload_n C dX4_init_4 rfl rfl ?_
  refine r_new (ci := 3) (fs := zF3) C inW3 tyX3_ok knX4_7 rfl dX4_init_5 (fun j hj => by rcases (show j = 0 ∨ j = 1 ∨ j = 2 ∨ j = 3 ∨ j = 4 ∨ j = 5 ∨ j = 6 ∨ j = 7 ∨ j = 8 ∨ j = 9 by omega) with rfl | rfl | rfl | rfl | rfl | rfl | rfl | rfl | rfl | rfl <;> rfl) (by omega) ⟨Nat.le_of_ble_eq_true rfl, Nat.le_of_ble_eq_true rfl⟩ (fun q1 => ?_)
  refine r_dup C dX4_init_8 rfl ?_
  refine r_callI (RY := { frames := 2, cells := 19, slots := 108, locals := 60 }) C cwX4_9 (c_X3_init (b := x + 1) (by omega) (up_s _ _ _) (up_s _ _ _)) dX4_init_9 rfl rfl rfl (Nat.le_of_ble_eq_true rfl) ⟨Nat.le_of_ble_eq_true rfl, Nat.le_of_ble_eq_true rfl⟩ ⟨Nat.le_of_ble_eq_true rfl, Nat.le_of_ble_eq_true rfl⟩ (fun rv ad1 N1 σ1 hp => ?_)
  obtain ⟨rfl, rfl, ha1, hs2⟩ := hp
  dsimp only at hs2
  subst hs2
  rw [show x + 1 + 1 + 19 = x + 21 by omega]
  have hj1 : ∀ j, j < x + 1 → ad1 j = ad j := fun j hj => (ha1 j (by omega)).trans (up_n (by omega))
  have hq1 : ad1 (x + 1) = q1 := (ha1 _ (by omega)).trans (up_s _ _ _)
  refine ra_putF (a := x) C hini flX4_10 dX4_init_12 ((hj1 x (by omega)).trans he) (by omega) ((sput_x (by omega)).trans ((up_n (by omega)).trans hσ)) rfl rfl rfl rfl (Nat.le_of_ble_eq_true rfl) ?_
  refine r_aload_n C dX4_init_15 rfl rfl ?_
  refine r_new (ci := 2) (fs := [.null, .int 0]) C inW2 tyX2_ok knX4_16 rfl dX4_init_16 (fun j hj => by rcases (show j = 0 ∨ j = 1 by omega) with rfl | rfl <;> rfl) (by omega) ⟨Nat.le_of_ble_eq_true rfl, Nat.le_of_ble_eq_true rfl⟩ (fun q2 => ?_)
  refine r_dup C dX4_init_19 rfl ?_
  refine r_callI (RY := { frames := 3, cells := 121, slots := 714, locals := 90 }) C cwX4_18 (c_X2_init (v := x + 21) (by omega) (up_s _ _ _) (up_s _ _ _)) dX4_init_20 rfl rfl rfl (Nat.le_of_ble_eq_true rfl) ⟨Nat.le_of_ble_eq_true rfl, Nat.le_of_ble_eq_true rfl⟩ ⟨Nat.le_of_ble_eq_true rfl, Nat.le_of_ble_eq_true rfl⟩ (fun rv ad2 N2 σ2 hp => ?_)
  obtain ⟨rfl, rfl, ha2, hs2⟩ := hp
  dsimp only at hs2
  subst hs2
  rw [show x + 21 + 1 + 121 = x + 143 by omega]
  have hj2 : ∀ j, j < x + 21 → ad2 j = ad1 j := fun j hj => (ha2 j (by omega)).trans (up_n (by omega))
  have hq2 : ad2 (x + 21) = q2 := (ha2 _ (by omega)).trans (up_s _ _ _)
  refine ra_putF (a := x) C hini flX4_19 dX4_init_23 ((hj2 x (by omega)).trans ((hj1 x (by omega)).trans he)) (by omega) ((vputF_x (by omega)).trans ((up_n (by omega)).trans (up_s _ _ _))) rfl rfl rfl rfl (Nat.le_of_ble_eq_true rfl) ?_
  refine r_aload_n C dX4_init_26 rfl rfl ?_
  refine r_new (ci := 0) (fs := [.null, .int 0]) C inW0 tyX0_ok knX4_23 rfl dX4_init_27 (fun j hj => by rcases (show j = 0 ∨ j = 1 by omega) with rfl | rfl <;> rfl) (by omega) ⟨Nat.le_of_ble_eq_true rfl, Nat.le_of_ble_eq_true rfl⟩ (fun q3 => ?_)
  refine r_dup C dX4_init_30 rfl ?_
  refine r_callI (RY := { frames := 1, cells := 1, slots := 60, locals := 20 }) C cwX4_25 (c_X0_init (k := x + 143) (by omega) (up_s _ _ _) (up_s _ _ _)) dX4_init_31 rfl rfl rfl (Nat.le_of_ble_eq_true rfl) ⟨Nat.le_of_ble_eq_true rfl, Nat.le_of_ble_eq_true rfl⟩ ⟨Nat.le_of_ble_eq_true rfl, Nat.le_of_ble_eq_true rfl⟩ (fun rv ad3 N3 σ3 hp => ?_)
  obtain ⟨rfl, rfl, ha3, hs2⟩ := hp
  dsimp only at hs2
  subst hs2
  have hj3 : ∀ j, j < x + 143 → ad3 j = ad2 j := fun j hj => (ha3 j (by omega)).trans (up_n (by omega))
  have hq3 : ad3 (x + 143) = q3 := (ha3 _ (by omega)).trans (up_s _ _ _)
  refine ra_putF (a := x) C hini flX4_26 dX4_init_34 ((hj3 x (by omega)).trans ((hj2 x (by omega)).trans ((hj1 x (by omega)).trans he))) (by omega) ((dput_x (by omega)).trans ((up_n (by omega)).trans (up_s _ _ _))) rfl rfl rfl rfl (Nat.le_of_ble_eq_true rfl) ?_
  refine r_vret C dX4_init_37 ⟨rfl, by omega, fun j hj => (hj3 j (by omega)).trans ((hj2 j (by omega)).trans (hj1 j hj)), ?_⟩ (Nat.le_of_ble_eq_true rfl) (Nat.le_of_ble_eq_true rfl)
  show _ = xput ad3 (gty X) σ x store0 0 0 (fun _ => store0) 0 (fun _ => 0)
  funext q
  by_cases h1 : q = x
  · subst h1
    rw [up_s, xput_0, ← hq1, ← hq2, ← hq3, ← hj2 (q + 1) (by omega), ← hj3 (q + 1) (by omega), ← hj3 (q + 21) (by omega)]
    rfl
  · rw [up_n h1]
    by_cases h2 : x + 143 ≤ q ∧ q < x + 145
    · rw [dput_in (σ' := σ) (by omega)]
      unfold xput
      rw [if_neg h1, if_neg (by omega), if_neg (by omega), if_pos h2]
    · rw [dput_x (by omega), up_n (by omega), up_n h1]
      by_cases h3 : x + 21 ≤ q ∧ q < x + 143
      · rw [vputF_in (σ' := σ) (by omega), vputF_ad (ad' := ad3) (fun j h1 h2 => (hj3 j (by omega)).symm)]
        unfold xput
        rw [if_neg h1, if_neg (by omega), if_pos h3]
      · rw [vputF_x (by omega), up_n (by omega), up_n h1]
        by_cases h4 : x + 1 ≤ q ∧ q < x + 21
        · rw [sput_in (σ' := σ) (by omega), sput_ad (ad' := ad3) (fun j h1 h2 => ((hj3 j (by omega)).trans (hj2 j (by omega))).symm)]
          unfold xput
          rw [if_neg h1, if_pos h4]
        · rw [sput_x (by omega), up_n (by omega), xput_x (by omega)]
