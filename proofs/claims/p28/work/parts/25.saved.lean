/-! the saved stores -/

def vrow (ad : Int → Nat) (v k : Int) : Nat → Option Nat := fun j => if j < 6 then some (ad (v + 2 + 20 * (((j : Int) + k) % 6))) else none
/-- saved stores at v: n of them, their row f, six stores u -/
def vputF (ad : Int → Nat) (ty : Nat → ClassId) (σ : Int → va_E) (v n : Int) (f : Nat → Option Nat) (u : Int → Int → Int) : Int → va_E := fun q =>
  if q = v then .inr (2, [.ref (ad (v + 1)), .int (gI n)]) else if q = v + 1 then gRA (ty 4) 6 f else
  if v + 2 ≤ q ∧ q < v + 122 then sput ad ty σ (v + 2 + 20 * ((q - v - 2) / 20)) (u ((q - v - 2) / 20)) q else σ q
section SAVED
variable {ad : Int → Nat} {ty : Nat → ClassId} {σ : Int → va_E} {v n k x b : Int} {f : Nat → Option Nat} {u : Int → Int → Int} {s : Int → Int}
theorem vputF_0 : vputF ad ty σ v n f u v = .inr (2, [.ref (ad (v + 1)), .int (gI n)]) := if_pos rfl
theorem vputF_1 : vputF ad ty σ v n f u (v + 1) = gRA (ty 4) 6 f := by
  unfold vputF; rw [if_neg (by omega), if_pos rfl]
theorem vputF_x {q : Int} (h : q < v ∨ v + 122 ≤ q) : vputF ad ty σ v n f u q = σ q := by
  unfold vputF; rw [if_neg (by omega), if_neg (by omega), if_neg (by omega)]
/-- a store's cells don't tell what lies around it -/
theorem sput_in {σ' : Int → va_E} {q : Int} (h : b ≤ q ∧ q < b + 20) : sput ad ty σ b s q = sput ad ty σ' b s q := by
  unfold sput
  split
  · rfl
  · split
    · rfl
    · rw [if_pos (by omega), if_pos (by omega)]
theorem vputF_s (hx : 0 ≤ x ∧ x < 6) : sput ad ty (vputF ad ty σ v n f u) (v + 2 + 20 * x) s = vputF ad ty σ v n f (up u x s) := by
  funext q
  by_cases h : v + 2 + 20 * x ≤ q ∧ q < v + 2 + 20 * x + 20
  · rw [sput_in (σ' := σ) h]
    unfold vputF
    rw [if_neg (by omega), if_neg (by omega), if_pos (by omega), show (q - v - 2) / 20 = x by omega, up_s]
  · rw [sput_x (by omega)]
    unfold vputF
    split
    · rfl
    · split
      · rfl
      · split
        · rw [up_n (by omega)]
        · rfl
theorem vputF_e (hx : 0 ≤ x ∧ x < 6) : sput ad ty (vputF ad ty σ v n f u) (v + 2 + 20 * x) (u x) = vputF ad ty σ v n f u := by
  rw [vputF_s hx, up_id rfl]
theorem vputF_st (hx : 0 ≤ x ∧ x < 6) : vputF ad ty σ v n f u (v + 2 + 20 * x) = .inr (3, sF ad (v + 2 + 20 * x) (u x)) := by
  rw [← vputF_e hx]; exact sput_0
theorem vputF_n (z : Int) : up (vputF ad ty σ v n f u) v (.inr (2, [.ref (ad (v + 1)), .int (gI z)])) = vputF ad ty σ v z f u := by
  funext q
  by_cases h : q = v
  · subst h; rw [up_s, vputF_0]
  · rw [up_n h]; unfold vputF; rw [if_neg h, if_neg h]
theorem vputF_f (f' : Nat → Option Nat) : up (vputF ad ty σ v n f u) (v + 1) (gRA (ty 4) 6 f') = vputF ad ty σ v n f' u := by
  funext q
  by_cases h : q = v + 1
  · subst h; rw [up_s, vputF_1]
  · rw [up_n h]; unfold vputF; rw [if_neg h, if_neg h]
theorem up_sput {q : Int} {e : va_E} (h : q < b ∨ b + 20 ≤ q) : up (sput ad ty σ b s) q e = sput ad ty (up σ q e) b s := by
  funext j
  by_cases hj : j = q
  · subst hj; rw [up_s, sput_x (by omega), up_s]
  · rw [up_n hj]
    by_cases h2 : b ≤ j ∧ j < b + 20
    · exact sput_in h2
    · rw [sput_x (by omega), sput_x (by omega), up_n hj]
def drf (ad : Int → Nat) (v k p : Int) : Nat → Option Nat := fun j => if (j : Int) + 1 < p then vrow ad v k (j + 1) else vrow ad v k j
theorem drf_1 : drf ad v k 1 = vrow ad v k := by
  funext j; unfold drf; rw [if_neg (by omega)]
theorem vrow_at {i : Int} (hi : 0 ≤ i ∧ i < 6) : vrow ad v k i.toNat = some (ad (v + 2 + 20 * ((i + k) % 6))) := by
  unfold vrow; rw [if_pos (by omega), Int.toNat_of_nonneg hi.1]
theorem drf_at {p : Int} (hp : 1 ≤ p ∧ p < 6) : drf ad v k p p.toNat = some (ad (v + 2 + 20 * ((p + k) % 6))) := by
  unfold drf; rw [if_neg (by omega)]; exact vrow_at (by omega)
theorem drf_s {p : Int} (hp : 1 ≤ p ∧ p < 6) : va_up (drf ad v k p) (p - 1).toNat (some (ad (v + 2 + 20 * ((p + k) % 6)))) = drf ad v k (p + 1) := by
  funext j
  unfold va_up
  by_cases h : j = (p - 1).toNat
  · rw [if_pos h]; unfold drf vrow; rw [if_pos (by omega), if_pos (by omega)]
    congr 3; rw [show (((j + 1 : Nat)) : Int) = p by omega]
  · rw [if_neg h]; unfold drf
    by_cases h2 : (j : Int) + 1 < p
    · rw [if_pos h2, if_pos (by omega)]
    · rw [if_neg h2, if_neg (by omega)]
theorem drf_6 : va_up (drf ad v k 6) (5 : Int).toNat (some (ad (v + 2 + 20 * ((0 + k) % 6)))) = vrow ad v (k + 1) := by
  funext j
  unfold va_up
  by_cases h : j = (5 : Int).toNat
  · rw [if_pos h]; unfold vrow
    have hj : j = 5 := h
    subst hj
    rw [if_pos (by omega), show (((5 : Nat) : Int) + (k + 1)) % 6 = (0 + k) % 6 by omega]
  · rw [if_neg h]
    have hj : j ≠ 5 := h
    unfold drf
    by_cases h2 : (j : Int) + 1 < 6
    · rw [if_pos h2]; unfold vrow; rw [if_pos (by omega), if_pos (by omega), show ((j + 1 : Nat) : Int) + k = (j : Int) + (k + 1) by omega]
    · rw [if_neg h2]; unfold vrow; rw [if_neg (by omega), if_neg (by omega)]
theorem liftV {l : Launch} {y : MethodName} {cc : ByteArray} {nL : Nat} {ret : Option FieldType} {f0 lo : Nat} {av : List Value} {D : va_G} {N : Int} {rv : Option Value} (hx : 0 ≤ x ∧ x < 6) (h : gM0 l y cc nL ret f0 lo av D ty ad N (sput ad ty (vputF ad ty σ v n f u) (v + 2 + 20 * x) (u x)) rv (sput ad ty (vputF ad ty σ v n f u) (v + 2 + 20 * x) s)) : gM0 l y cc nL ret f0 lo av D ty ad N (vputF ad ty σ v n f u) rv (vputF ad ty σ v n f (up u x s)) := by
  rw [vputF_e hx, vputF_s hx] at h
  exact h
def pshN (n : Int) : Int := if n < 6 then n + 1 else 6
def pshK (n k : Int) : Int := if n < 6 then k else k + 1
def pshU (n k : Int) (u : Int → Int → Int) (s : Int → Int) : Int → Int → Int := up u ((pshN n - 1 + pshK n k) % 6) s
end SAVED

set_option maxRecDepth 100000 in
set_option maxHeartbeats 4000000 in
theorem c_X2_dropOldest {l : Launch} {D : va_G} {ty : Nat → ClassId} {ad : Int → Nat} {N : Int} {σ : Int → va_E} {v k n : Int} {u : Int → Int → Int} (hv : 0 ≤ v ∧ v + 122 ≤ N) : gM0 l yX2_dropOldest cX2_dropOldest 3 none 0 0 [.ref (ad v)] D ty ad N (vputF ad ty σ v (n) (vrow ad v k) u) (none) (vputF ad ty σ v (5) (vrow ad v (k + 1)) u) := by
  refine gMet_of [some (.ref (ad v)), none, none] (by decide +kernel) rfl (Nat.le_of_ble_eq_true rfl) rfl ?_
  intro X hl hD hty C hini
  subst hl hD hty
  refine r_aload_n C dX2_dropOldest_0 rfl rfl ?_
  refine r_get C flX2_11 dX2_dropOldest_1 (by omega) vputF_0 rfl ?_
  refine r_iconst C dX2_dropOldest_4 ?_
  refine r_aald (t := 4) C dX2_dropOldest_5 (by omega) vputF_1 rfl (by omega) (by decide) (vrow_at (by omega)) ?_
  refine r_astore_n C dX2_dropOldest_6 rfl (Nat.le_of_ble_eq_true rfl) rfl ?_
  dsimp only [List.set]
  refine r_iconst C dX2_dropOldest_7 ?_
  refine r_istore_n C dX2_dropOldest_8 rfl (Nat.le_of_ble_eq_true rfl) rfl ?_
  dsimp only [List.set]
  have lp : ∀ (n0 : Nat) (p : Int), (1 ≤ p) → (p + n0 = 6) → V X 0 0 (gQ X (gD (none) ad N (vputF ad (gty X) σ v (5) (vrow ad v (k + 1)) u)) 0 0) 9 [some (.ref (ad v)), some (.ref (ad (v + 2 + 20 * ((0 + k) % 6)))), some (.int (gI p))] [] ad N (vputF ad (gty X) σ v (n) (drf ad v k p) u) := by
    intro n0
    induction n0 with
    | zero =>
      intro p hp hpn
      have hpp : p = 6 := by omega
      subst hpp
      refine r_iload_n C dX2_dropOldest_9 rfl rfl ?_
      refine r_bipush C dX2_dropOldest_10 (by decide) ?_
      refine r_icmp_ge (tgt := 35) C dX2_dropOldest_12 (by decide) (by omega) (by omega) (fun h12 => ?_) (fun h12 => ?_)
      · refine r_aload_n C dX2_dropOldest_35 rfl rfl ?_
        refine r_get C flX2_11 dX2_dropOldest_36 (by omega) vputF_0 rfl ?_
        refine r_iconst C dX2_dropOldest_39 ?_
        refine r_aload_n C dX2_dropOldest_40 rfl rfl ?_
        refine r_aast (t := 4) (r := (RX3, TX3, 10)) C dX2_dropOldest_41 (by omega) vputF_1 rfl (by omega) (by decide) (by omega) (vputF_st (x := (0 + k) % 6) (by omega)) rfl ?_
        rw [drf_6, vputF_f]
        refine r_aload_n C dX2_dropOldest_42 rfl rfl ?_
        refine r_iconst C dX2_dropOldest_43 ?_
        refine r_put C flX2_18 dX2_dropOldest_44 (by omega) vputF_0 rfl rfl rfl (Nat.le_of_ble_eq_true rfl) ?_
        dsimp only [List.set]
        rw [vputF_n]
        exact r_vretD C dX2_dropOldest_47 rfl
      · exact absurd h12 (by omega)
    | succ n0 ih =>
      intro p hp hpn
      refine r_iload_n C dX2_dropOldest_9 rfl rfl ?_
      refine r_bipush C dX2_dropOldest_10 (by decide) ?_
      refine r_icmp_ge (tgt := 35) C dX2_dropOldest_12 (by decide) (by omega) (by omega) (fun h12 => ?_) (fun h12 => ?_)
      · exact absurd h12 (by omega)
      · refine r_aload_n C dX2_dropOldest_15 rfl rfl ?_
        refine r_get C flX2_11 dX2_dropOldest_16 (by omega) vputF_0 rfl ?_
        refine r_iload_n C dX2_dropOldest_19 rfl rfl ?_
        refine r_iconst C dX2_dropOldest_20 ?_
        refine r_isub C dX2_dropOldest_21 ?_
        refine r_aload_n C dX2_dropOldest_22 rfl rfl ?_
        refine r_get C flX2_11 dX2_dropOldest_23 (by omega) vputF_0 rfl ?_
        refine r_iload_n C dX2_dropOldest_26 rfl rfl ?_
        refine r_aald (t := 4) C dX2_dropOldest_27 (by omega) vputF_1 rfl (by omega) (by decide) (drf_at (by omega)) ?_
        refine r_aast (t := 4) (r := (RX3, TX3, 10)) C dX2_dropOldest_28 (by omega) vputF_1 rfl (by omega) (by decide) (by omega) (vputF_st (x := (p + k) % 6) (by omega)) rfl ?_
        rw [drf_s (by omega), vputF_f]
        refine r_iinc C dX2_dropOldest_29 rfl rfl ?_
        dsimp only [List.set]
        refine r_goto (tgt := 9) C dX2_dropOldest_32 (by decide) ?_
        exact ih _ (by omega) (by omega)
  have h0 := lp 5 1 (by omega) (by omega)
  rw [drf_1] at h0
  exact h0

theorem sput_vputF {ad : Int → Nat} {ty : Nat → ClassId} {σ : Int → va_E} {v n b : Int} {f : Nat → Option Nat} {u : Int → Int → Int} {s : Int → Int} (h : b + 20 ≤ v ∨ v + 122 ≤ b) : sput ad ty (vputF ad ty (sput ad ty σ b s) v n f u) b s = vputF ad ty (sput ad ty σ b s) v n f u := by
  funext q
  by_cases h2 : b ≤ q ∧ q < b + 20
  · rw [vputF_x (by omega)]; exact sput_in h2
  · rw [sput_x (by omega)]

set_option maxRecDepth 100000 in
set_option maxHeartbeats 4000000 in
theorem c_X2_push {l : Launch} {D : va_G} {ty : Nat → ClassId} {ad : Int → Nat} {N : Int} {σ : Int → va_E} {v k n b : Int} {u : Int → Int → Int} {s : Int → Int} (hv : 0 ≤ v ∧ v + 122 ≤ N) (hn : 0 ≤ n ∧ n ≤ 6) (hb : 0 ≤ b ∧ b + 20 ≤ N) (hbv : b + 20 ≤ v ∨ v + 122 ≤ b) (hs : okS s) (hσ : sput ad ty σ b s = σ) : gM0 l yX2_push cX2_push 2 none 3 83 [.ref (ad v), .ref (ad b)] D ty ad N (vputF ad ty σ v (n) (vrow ad v k) u) (none) (vputF ad ty σ v (pshN n) (vrow ad v (pshK n k)) (pshU n k u s)) := by
  refine gMet_of [some (.ref (ad v)), some (.ref (ad b))] (by decide +kernel) rfl (Nat.le_of_ble_eq_true rfl) rfl ?_
  intro X hl hD hty C hini
  subst hl hD hty
  refine r_aload_n C dX2_push_0 rfl rfl ?_
  refine r_get C flX2_18 dX2_push_1 (by omega) vputF_0 rfl ?_
  refine r_bipush C dX2_push_4 (by decide) ?_
  refine r_icmp_lt (tgt := 13) C dX2_push_6 (by decide) (by omega) (by omega) (fun h6 => ?_) (fun h6 => ?_)
  · have hn6 : n < 6 := h6
    refine r_aload_n C dX2_push_13 rfl rfl ?_
    refine r_get C flX2_11 dX2_push_14 (by omega) vputF_0 rfl ?_
    refine r_aload_n C dX2_push_17 rfl rfl ?_
    refine r_get C flX2_18 dX2_push_18 (by omega) vputF_0 rfl ?_
    refine r_aald (t := 4) C dX2_push_21 (by omega) vputF_1 rfl (by omega) (by decide) (vrow_at (by omega)) ?_
    refine r_aload_n C dX2_push_22 rfl rfl ?_
    refine r_cVv C cwX2_25 (liftV (by omega) (c_X3_copyFrom (b2 := b) (s2 := s) (by omega) hb (by omega) (by rw [← hσ]; exact sput_vputF hbv) hs)) dX2_push_23 rfl (by omega) (vputF_st (by omega)) rfl rfl rfl (Nat.le_of_ble_eq_true rfl) ⟨Nat.le_of_ble_eq_true rfl, Nat.le_of_ble_eq_true rfl⟩ ⟨Nat.le_of_ble_eq_true rfl, Nat.le_of_ble_eq_true rfl⟩ ?_
    refine r_aload_n C dX2_push_26 rfl rfl ?_
    refine r_dup C dX2_push_27 rfl ?_
    refine r_get C flX2_18 dX2_push_28 (by omega) vputF_0 rfl ?_
    refine r_iconst C dX2_push_31 ?_
    refine r_iadd C dX2_push_32 ?_
    refine r_put C flX2_18 dX2_push_33 (by omega) vputF_0 rfl rfl rfl (Nat.le_of_ble_eq_true rfl) ?_
    dsimp only [List.set]
    rw [vputF_n]
    exact r_vretD C dX2_push_36 (by unfold pshU pshN pshK; first | (simp only [if_pos hn6]; rw [show n + 1 - 1 = n by omega]) | (simp only [if_neg hn7]; rfl))
  · have hn7 : ¬ n < 6 := by omega
    refine r_aload_n C dX2_push_9 rfl rfl ?_
    refine r_cVv C cwX2_22 (c_X2_dropOldest hv) dX2_push_10 rfl (by omega) vputF_0 rfl rfl rfl (Nat.le_of_ble_eq_true rfl) ⟨Nat.le_of_ble_eq_true rfl, Nat.le_of_ble_eq_true rfl⟩ ⟨Nat.le_of_ble_eq_true rfl, Nat.le_of_ble_eq_true rfl⟩ ?_
    refine r_aload_n C dX2_push_13 rfl rfl ?_
    refine r_get C flX2_11 dX2_push_14 (by omega) vputF_0 rfl ?_
    refine r_aload_n C dX2_push_17 rfl rfl ?_
    refine r_get C flX2_18 dX2_push_18 (by omega) vputF_0 rfl ?_
    refine r_aald (t := 4) C dX2_push_21 (by omega) vputF_1 rfl (by omega) (by decide) (vrow_at (by omega)) ?_
    refine r_aload_n C dX2_push_22 rfl rfl ?_
    refine r_cVv C cwX2_25 (liftV (by omega) (c_X3_copyFrom (b2 := b) (s2 := s) (by omega) hb (by omega) (by rw [← hσ]; exact sput_vputF hbv) hs)) dX2_push_23 rfl (by omega) (vputF_st (by omega)) rfl rfl rfl (Nat.le_of_ble_eq_true rfl) ⟨Nat.le_of_ble_eq_true rfl, Nat.le_of_ble_eq_true rfl⟩ ⟨Nat.le_of_ble_eq_true rfl, Nat.le_of_ble_eq_true rfl⟩ ?_
    refine r_aload_n C dX2_push_26 rfl rfl ?_
    refine r_dup C dX2_push_27 rfl ?_
    refine r_get C flX2_18 dX2_push_28 (by omega) vputF_0 rfl ?_
    refine r_iconst C dX2_push_31 ?_
    refine r_iadd C dX2_push_32 ?_
    refine r_put C flX2_18 dX2_push_33 (by omega) vputF_0 rfl rfl rfl (Nat.le_of_ble_eq_true rfl) ?_
    dsimp only [List.set]
    rw [vputF_n]
    exact r_vretD C dX2_push_36 (by unfold pshU pshN pshK; first | (simp only [if_pos hn6]; rw [show n + 1 - 1 = n by omega]) | (simp only [if_neg hn7]; rfl))

set_option maxRecDepth 100000 in
set_option maxHeartbeats 4000000 in
theorem c_X2_popInto {l : Launch} {D : va_G} {ty : Nat → ClassId} {ad : Int → Nat} {N : Int} {σ : Int → va_E} {v k n b : Int} {u : Int → Int → Int} {s : Int → Int} (hv : 0 ≤ v ∧ v + 122 ≤ N) (hn : 1 ≤ n ∧ n ≤ 6) (hb : 0 ≤ b ∧ b + 20 ≤ N) (hbv : b + 20 ≤ v ∨ v + 122 ≤ b) (hu : okS (u ((n - 1 + k) % 6))) : gM0 l yX2_popInto cX2_popInto 2 (some .int) 3 83 [.ref (ad v), .ref (ad b)] D ty ad N (sput ad ty (vputF ad ty σ v (n) (vrow ad v k) u) b s) (some (.int (gI (n - 1)))) (sput ad ty (vputF ad ty σ v (n - 1) (vrow ad v k) u) b (u ((n - 1 + k) % 6))) := by
  refine gMet_of [some (.ref (ad v)), some (.ref (ad b))] (by decide +kernel) rfl (Nat.le_of_ble_eq_true rfl) rfl ?_
  intro X hl hD hty C hini
  subst hl hD hty
  refine r_aload_n C dX2_popInto_0 rfl rfl ?_
  refine r_get C flX2_18 dX2_popInto_1 (by omega) (by rw [sput_x (by omega)]; exact vputF_0) rfl ?_
  refine r_if_le (tgt := 30) C dX2_popInto_4 (by decide) (by omega) (fun h4 => ?_) (fun h4 => ?_)
  · exact absurd h4 (by omega)
  · refine r_aload_n C dX2_popInto_7 rfl rfl ?_
    refine r_dup C dX2_popInto_8 rfl ?_
    refine r_get C flX2_18 dX2_popInto_9 (by omega) (by rw [sput_x (by omega)]; exact vputF_0) rfl ?_
    refine r_iconst C dX2_popInto_12 ?_
    refine r_isub C dX2_popInto_13 ?_
    refine r_put C flX2_18 dX2_popInto_14 (by omega) (by rw [sput_x (by omega)]; exact vputF_0) rfl rfl rfl (Nat.le_of_ble_eq_true rfl) ?_
    dsimp only [List.set]
    rw [up_sput (by omega), vputF_n]
    refine r_aload_n C dX2_popInto_17 rfl rfl ?_
    refine r_aload_n C dX2_popInto_18 rfl rfl ?_
    refine r_get C flX2_11 dX2_popInto_19 (by omega) (by rw [sput_x (by omega)]; exact vputF_0) rfl ?_
    refine r_aload_n C dX2_popInto_22 rfl rfl ?_
    refine r_get C flX2_18 dX2_popInto_23 (by omega) (by rw [sput_x (by omega)]; exact vputF_0) rfl ?_
    refine r_aald (t := 4) C dX2_popInto_26 (by omega) (by rw [sput_x (by omega)]; exact vputF_1) rfl (by omega) (by decide) (vrow_at (by omega)) ?_
    refine r_cVv C cwX2_25 (c_X3_copyFrom (b2 := v + 2 + 20 * ((n - 1 + k) % 6)) (s2 := u ((n - 1 + k) % 6)) hb (by omega) (by omega) (vputF_e (by omega)) hu) dX2_popInto_27 rfl (by omega) sput_0 rfl rfl rfl (Nat.le_of_ble_eq_true rfl) ⟨Nat.le_of_ble_eq_true rfl, Nat.le_of_ble_eq_true rfl⟩ ⟨Nat.le_of_ble_eq_true rfl, Nat.le_of_ble_eq_true rfl⟩ ?_
    refine r_aload_n C dX2_popInto_30 rfl rfl ?_
    refine r_get C flX2_18 dX2_popInto_31 (by omega) (by rw [sput_x (by omega)]; exact vputF_0) rfl ?_
    exact r_iretD C dX2_popInto_34 rfl rfl
