/-! the reference: what it is asked -/

theorem mput_cp {ad : Int → Nat} {ty : Nat → ClassId} {σ : Int → va_E} {m : Int} {v s t p x q : Int → Int} : mput ad ty σ m v s (cpy s t 0 0) p x q = mput ad ty σ m v s s p x q := by
  rw [← mput_u2 (t := s) (cpy s t 0 0), show gAr (ty 0) 99 (cpy s t 0 0) = gAr (ty 0) 99 s from gAr_ext fun j h1 h2 => (by unfold cpy; rw [if_pos (by omega)]; congr 1; omega), mput_u2]
/-- beats until a room is burnt, of what it is now -/
def bnR (ρ : Int → Int) : Int := if ρ 1 = 0 then 0 else untr 60 (ρ 0) (ρ 2)
theorem untr_st : ∀ (n : Nat) (l t : Int), l ≤ n → untr (n + 1) l t = untr n l t
  | 0, l, t, h => by unfold untr; rw [if_pos (by omega)]
  | n + 1, l, t, h => by
    have hr := lessR_rng t
    have ih := untr_st n (l - lessR t) (min 9 (t + 1)) (by omega)
    rw [untr, ih]
    rw [show untr (n + 1) l t = if l ≤ 0 then 0 else 1 + untr n (l - lessR t) (min 9 (t + 1)) from rfl]
theorem untr_0 (n : Nat) {l t : Int} (h : l ≤ 0) : untr n l t = 0 := by
  cases n with
  | zero => rfl
  | succ n => rw [untr, if_pos h]
theorem bn_burn {ρ : Int → Int} (h : okR ρ) (h1 : ρ 1 = 1) : bnR ρ = 1 + bnR (burnR ρ) := by
  have hl := h.len
  have h0 := h.lit h1
  have hr := lessR_rng (ρ 2)
  unfold bnR burnR
  rw [if_neg (by omega), if_neg (show ¬ ρ 1 = 0 by omega), show untr 60 (ρ 0) (ρ 2) = if ρ 0 ≤ 0 then 0 else 1 + untr 59 (ρ 0 - lessR (ρ 2)) (min 9 (ρ 2 + 1)) from rfl, if_neg (by omega)]
  by_cases hp : 0 < max 0 (ρ 0 - lessR (ρ 2))
  · rw [if_pos hp]
    simp only [up_ap, Int.reduceEq, reduceIte]
    rw [untr_st 59 _ _ (by omega), show max 0 (ρ 0 - lessR (ρ 2)) = ρ 0 - lessR (ρ 2) by omega]
  · rw [if_neg hp]
    simp only [up_ap, Int.reduceEq, reduceIte]
    rw [untr_0 59 (by omega)]
theorem bn_rng (ρ : Int → Int) : 0 ≤ bnR ρ ∧ bnR ρ ≤ 60 := by
  have := untr_rng 60 (ρ 0) (ρ 2)
  unfold bnR; split <;> omega
theorem bn_0 {ρ : Int → Int} (h : okR ρ) (h1 : ¬ ρ 1 = 1) : bnR ρ = 0 := by
  have := h.bur
  unfold bnR; rw [if_pos (by omega)]
theorem savR_bn {ρ : Int → Int} (h : ρ 1 = 1) : savR ρ = ρ 0 - bnR ρ := by
  unfold savR bnR; rw [if_neg (by omega), if_neg (by omega)]
def brn (r : Int) : Nat → (Int → Int) → (Int → Int)
  | 0, t => t
  | n + 1, t => brn r n (srm t r (burnR (rm t r)))
def svT (s : Int → Int) (r : Int) (t : Int → Int) : Int → Int := if rm s r 1 = 1 then brn r (bnR (rm s r)).toNat s else t
theorem okS_srm {s ρ : Int → Int} {r : Int} (hs : okS s) (hr : 0 ≤ r ∧ r < 6) (h : okR ρ) (hc : can ρ) : okS (srm s r ρ) := by
  refine ⟨?_, ?_, ?_, fun q h1 h2 => ?_⟩
  · rw [srm_lo (by omega)]; exact hs.set
  · rw [srm_lo (by omega)]; exact hs.box
  · rw [srm_lo (by omega), srm_lo (by omega)]; exact hs.dra
  · by_cases e : q = r
    · rw [e, rm_srm hc]; exact h
    · rw [rm_srm_ne e]; exact hs.rm ⟨h1, h2⟩
theorem okS_brn1 {t : Int → Int} {r : Int} (ht : okS t) (hr : 0 ≤ r ∧ r < 6) : okS (srm t r (burnR (rm t r))) := okS_srm ht hr (okR_burn (ht.rm hr)) (can_burn (can_rm t r))

set_option maxRecDepth 100000 in
set_option maxHeartbeats 4000000 in
theorem c_X5_counted {l : Launch} {D : va_G} {ty : Nat → ClassId} {ad : Int → Nat} {N : Int} {σ : Int → va_E} {m : Int} {v s t p x q : Int → Int} {w : Int} (hm : 0 ≤ m ∧ m + 6 ≤ N) (hs : okS s) (hw0 : 0 ≤ w ∧ w < 12) : gM0 l yX5_counted cX5_counted 2 (some .int) 2 44 [.ref (ad m), .int (gI w)] D ty ad N (mput ad ty σ m (v) (s) (t) (p) (x) (q)) (some (.int (gI (cntX s (v 3) w)))) (mput ad ty σ m (v) (s) (t) (p) (x) (q)) := by
  refine gMet_of [some (.ref (ad m)), some (.int (gI w))] (by decide +kernel) rfl (Nat.le_of_ble_eq_true rfl) rfl ?_
  intro X hl hD hty C hini
  subst hl hD hty
  refine r_iload_n C dX5_counted_0 rfl rfl ?_
  rcases (show (w = 0 ∨ w = 1 ∨ w = 2 ∨ w = 3 ∨ w = 4 ∨ w = 5 ∨ w = 6 ∨ w = 7 ∨ w = 8 ∨ w = 9 ∨ w = 10 ∨ w = 11) ∨ (w < 0 ∨ 11 < w) by omega) with (hw | hw | hw | hw | hw | hw | hw | hw | hw | hw | hw | hw) | hw
  · refine r_tabIn (tgt := 64) C dX5_counted_1 (by omega) (by omega) (by omega) (by rw [hw]; rfl) (by decide) ?_
    refine r_aload_n C dX5_counted_64 rfl rfl ?_
    refine mm_get C flX5_7 dX5_counted_65 hm rfl ?_
    refine r_iconst C dX5_counted_68 ?_
    refine r_iald C dX5_counted_69 (by omega) mput_1 (by omega) (by omega) ?_
    exact r_iretD C dX5_counted_70 (by first | (subst hw; rfl) | exact absurd hw (by omega)) rfl
  · refine r_tabIn (tgt := 71) C dX5_counted_1 (by omega) (by omega) (by omega) (by rw [hw]; rfl) (by decide) ?_
    refine r_aload_n C dX5_counted_71 rfl rfl ?_
    refine mm_get C flX5_7 dX5_counted_72 hm rfl ?_
    refine r_iconst C dX5_counted_75 ?_
    refine r_iald C dX5_counted_76 (by omega) mput_1 (by omega) (by omega) ?_
    exact r_iretD C dX5_counted_77 (by first | (subst hw; rfl) | exact absurd hw (by omega)) rfl
  · refine r_tabIn (tgt := 78) C dX5_counted_1 (by omega) (by omega) (by omega) (by rw [hw]; rfl) (by decide) ?_
    refine r_aload_n C dX5_counted_78 rfl rfl ?_
    refine mm_get C flX5_7 dX5_counted_79 hm rfl ?_
    refine r_cS C cwX5_48 (c_X5_burning (by omega) mput_1 hs) dX5_counted_82 rfl rfl rfl (Nat.le_of_ble_eq_true rfl) ⟨Nat.le_of_ble_eq_true rfl, Nat.le_of_ble_eq_true rfl⟩ ⟨Nat.le_of_ble_eq_true rfl, Nat.le_of_ble_eq_true rfl⟩ ?_
    exact r_iretD C dX5_counted_85 (by first | (subst hw; rfl) | exact absurd hw (by omega)) rfl
  · refine r_tabIn (tgt := 86) C dX5_counted_1 (by omega) (by omega) (by omega) (by rw [hw]; rfl) (by decide) ?_
    refine r_aload_n C dX5_counted_86 rfl rfl ?_
    refine r_cV C cwX5_151 (c_X5_things hm hs) dX5_counted_87 rfl (by omega) mput_0 rfl rfl rfl (Nat.le_of_ble_eq_true rfl) ⟨Nat.le_of_ble_eq_true rfl, Nat.le_of_ble_eq_true rfl⟩ ⟨Nat.le_of_ble_eq_true rfl, Nat.le_of_ble_eq_true rfl⟩ ?_
    exact r_iretD C dX5_counted_90 (by first | (subst hw; rfl) | exact absurd hw (by omega)) rfl
  · refine r_tabIn (tgt := 103) C dX5_counted_1 (by omega) (by omega) (by omega) (by rw [hw]; rfl) (by decide) ?_
    refine r_aload_n C dX5_counted_103 rfl rfl ?_
    refine mm_get C flX5_7 dX5_counted_104 hm rfl ?_
    refine r_iload_n C dX5_counted_107 rfl rfl ?_
    refine r_iconst C dX5_counted_108 ?_
    refine r_isub C dX5_counted_109 ?_
    refine r_iald C dX5_counted_110 (by omega) mput_1 (by omega) (by omega) ?_
    exact r_iretD C dX5_counted_111 (by first | (subst hw; rfl) | exact absurd hw (by omega)) rfl
  · refine r_tabIn (tgt := 103) C dX5_counted_1 (by omega) (by omega) (by omega) (by rw [hw]; rfl) (by decide) ?_
    refine r_aload_n C dX5_counted_103 rfl rfl ?_
    refine mm_get C flX5_7 dX5_counted_104 hm rfl ?_
    refine r_iload_n C dX5_counted_107 rfl rfl ?_
    refine r_iconst C dX5_counted_108 ?_
    refine r_isub C dX5_counted_109 ?_
    refine r_iald C dX5_counted_110 (by omega) mput_1 (by omega) (by omega) ?_
    exact r_iretD C dX5_counted_111 (by first | (subst hw; rfl) | exact absurd hw (by omega)) rfl
  · refine r_tabIn (tgt := 103) C dX5_counted_1 (by omega) (by omega) (by omega) (by rw [hw]; rfl) (by decide) ?_
    refine r_aload_n C dX5_counted_103 rfl rfl ?_
    refine mm_get C flX5_7 dX5_counted_104 hm rfl ?_
    refine r_iload_n C dX5_counted_107 rfl rfl ?_
    refine r_iconst C dX5_counted_108 ?_
    refine r_isub C dX5_counted_109 ?_
    refine r_iald C dX5_counted_110 (by omega) mput_1 (by omega) (by omega) ?_
    exact r_iretD C dX5_counted_111 (by first | (subst hw; rfl) | exact absurd hw (by omega)) rfl
  · refine r_tabIn (tgt := 103) C dX5_counted_1 (by omega) (by omega) (by omega) (by rw [hw]; rfl) (by decide) ?_
    refine r_aload_n C dX5_counted_103 rfl rfl ?_
    refine mm_get C flX5_7 dX5_counted_104 hm rfl ?_
    refine r_iload_n C dX5_counted_107 rfl rfl ?_
    refine r_iconst C dX5_counted_108 ?_
    refine r_isub C dX5_counted_109 ?_
    refine r_iald C dX5_counted_110 (by omega) mput_1 (by omega) (by omega) ?_
    exact r_iretD C dX5_counted_111 (by first | (subst hw; rfl) | exact absurd hw (by omega)) rfl
  · refine r_tabIn (tgt := 103) C dX5_counted_1 (by omega) (by omega) (by omega) (by rw [hw]; rfl) (by decide) ?_
    refine r_aload_n C dX5_counted_103 rfl rfl ?_
    refine mm_get C flX5_7 dX5_counted_104 hm rfl ?_
    refine r_iload_n C dX5_counted_107 rfl rfl ?_
    refine r_iconst C dX5_counted_108 ?_
    refine r_isub C dX5_counted_109 ?_
    refine r_iald C dX5_counted_110 (by omega) mput_1 (by omega) (by omega) ?_
    exact r_iretD C dX5_counted_111 (by first | (subst hw; rfl) | exact absurd hw (by omega)) rfl
  · refine r_tabIn (tgt := 103) C dX5_counted_1 (by omega) (by omega) (by omega) (by rw [hw]; rfl) (by decide) ?_
    refine r_aload_n C dX5_counted_103 rfl rfl ?_
    refine mm_get C flX5_7 dX5_counted_104 hm rfl ?_
    refine r_iload_n C dX5_counted_107 rfl rfl ?_
    refine r_iconst C dX5_counted_108 ?_
    refine r_isub C dX5_counted_109 ?_
    refine r_iald C dX5_counted_110 (by omega) mput_1 (by omega) (by omega) ?_
    exact r_iretD C dX5_counted_111 (by first | (subst hw; rfl) | exact absurd hw (by omega)) rfl
  · refine r_tabIn (tgt := 91) C dX5_counted_1 (by omega) (by omega) (by omega) (by rw [hw]; rfl) (by decide) ?_
    refine r_aload_n C dX5_counted_91 rfl rfl ?_
    refine mm_get C flX5_7 dX5_counted_92 hm rfl ?_
    refine r_iconst C dX5_counted_95 ?_
    refine r_iald C dX5_counted_96 (by omega) mput_1 (by omega) (by omega) ?_
    exact r_iretD C dX5_counted_97 (by first | (subst hw; rfl) | exact absurd hw (by omega)) rfl
  · refine r_tabIn (tgt := 98) C dX5_counted_1 (by omega) (by omega) (by omega) (by rw [hw]; rfl) (by decide) ?_
    refine r_aload_n C dX5_counted_98 rfl rfl ?_
    refine mm_get C flX5_37 dX5_counted_99 hm rfl ?_
    try simp only [up_ap, Int.reduceEq, reduceIte]
    exact r_iretD C dX5_counted_102 (by first | (subst hw; rfl) | exact absurd hw (by omega)) rfl
  · refine r_tabOut (tgt := 103) C dX5_counted_1 (by omega) hw (by decide) ?_
    refine r_aload_n C dX5_counted_103 rfl rfl ?_
    refine mm_get C flX5_7 dX5_counted_104 hm rfl ?_
    refine r_iload_n C dX5_counted_107 rfl rfl ?_
    refine r_iconst C dX5_counted_108 ?_
    refine r_isub C dX5_counted_109 ?_
    refine r_iald C dX5_counted_110 (by omega) mput_1 (by omega) (by omega) ?_
    exact r_iretD C dX5_counted_111 (by first | (subst hw; rfl) | exact absurd hw (by omega)) rfl

set_option maxRecDepth 100000 in
set_option maxHeartbeats 4000000 in
theorem c_X5_count {l : Launch} {D : va_G} {ty : Nat → ClassId} {ad : Int → Nat} {N : Int} {σ : Int → va_E} {m : Int} {v s t p x q : Int → Int} {w : Int} (hm : 0 ≤ m ∧ m + 6 ≤ N) (hs : okS s) (hw0 : 0 ≤ w ∧ w < 12) : gM0 l yX5_count cX5_count 2 (some .int) 3 65 [.ref (ad m), .int (gI w)] D ty ad N (mput ad ty σ m (v) (s) (t) (p) (x) (q)) (some (.int (gI (cntX s (v 3) w)))) (mput ad ty σ m (up v 6 0) (s) (t) (p) (x) (q)) := by
  refine gMet_of [some (.ref (ad m)), some (.int (gI w))] (by decide +kernel) rfl (Nat.le_of_ble_eq_true rfl) rfl ?_
  intro X hl hD hty C hini
  subst hl hD hty
  refine r_aload_n C dX5_count_0 rfl rfl ?_
  refine r_iconst C dX5_count_1 ?_
  refine mm_put (j := 6) C flX5_25 dX5_count_2 hm (by decide) rfl rfl rfl rfl ?_
  try rw [up_up]
  refine r_iload_n C dX5_count_5 rfl rfl ?_
  refine r_iconst C dX5_count_6 ?_
  refine r_bipush C dX5_count_7 (by decide) ?_
  refine r_cS C cwX5_29 (c_X5_in (by omega) (by omega) (by omega)) dX5_count_9 rfl rfl rfl (Nat.le_of_ble_eq_true rfl) ⟨Nat.le_of_ble_eq_true rfl, Nat.le_of_ble_eq_true rfl⟩ ⟨Nat.le_of_ble_eq_true rfl, Nat.le_of_ble_eq_true rfl⟩ ?_
  refine r_ifb_eq (tgt := 23) C dX5_count_12 (by decide) (fun h12 => ?_) (fun h12 => ?_)
  · exact absurd hw0 (by omega)
  · refine r_aload_n C dX5_count_15 rfl rfl ?_
    refine r_iload_n C dX5_count_16 rfl rfl ?_
    refine r_cV C cwX5_155 (c_X5_counted hm hs (by omega)) dX5_count_17 rfl (by omega) mput_0 rfl rfl rfl (Nat.le_of_ble_eq_true rfl) ⟨Nat.le_of_ble_eq_true rfl, Nat.le_of_ble_eq_true rfl⟩ ⟨Nat.le_of_ble_eq_true rfl, Nat.le_of_ble_eq_true rfl⟩ ?_
    refine r_goto (tgt := 28) C dX5_count_20 (by decide) ?_
    exact r_iretD C dX5_count_28 rfl rfl

set_option maxRecDepth 100000 in
set_option maxHeartbeats 4000000 in
theorem c_X5_count_f1 {l : Launch} {D : va_G} {ty : Nat → ClassId} {ad : Int → Nat} {N : Int} {σ : Int → va_E} {m : Int} {v s t p x q : Int → Int} {w : Int} (hm : 0 ≤ m ∧ m + 6 ≤ N)  (hw0 : ¬ (0 ≤ w ∧ w < 12)) (hw : -2147483648 ≤ w ∧ w < 2147483648) : gM0 l yX5_count cX5_count 2 (some .int) 3 65 [.ref (ad m), .int (gI w)] D ty ad N (mput ad ty σ m (v) (s) (t) (p) (x) (q)) (some (.int (gI 0))) (mput ad ty σ m (up v 6 1) (s) (t) (p) (x) (q)) := by
  refine gMet_of [some (.ref (ad m)), some (.int (gI w))] (by decide +kernel) rfl (Nat.le_of_ble_eq_true rfl) rfl ?_
  intro X hl hD hty C hini
  subst hl hD hty
  refine r_aload_n C dX5_count_0 rfl rfl ?_
  refine r_iconst C dX5_count_1 ?_
  refine mm_put (j := 6) C flX5_25 dX5_count_2 hm (by decide) rfl rfl rfl rfl ?_
  try rw [up_up]
  refine r_iload_n C dX5_count_5 rfl rfl ?_
  refine r_iconst C dX5_count_6 ?_
  refine r_bipush C dX5_count_7 (by decide) ?_
  refine r_cS C cwX5_29 (c_X5_in (by omega) (by omega) (by omega)) dX5_count_9 rfl rfl rfl (Nat.le_of_ble_eq_true rfl) ⟨Nat.le_of_ble_eq_true rfl, Nat.le_of_ble_eq_true rfl⟩ ⟨Nat.le_of_ble_eq_true rfl, Nat.le_of_ble_eq_true rfl⟩ ?_
  refine r_ifb_eq (tgt := 23) C dX5_count_12 (by decide) (fun h12 => ?_) (fun h12 => ?_)
  · refine r_aload_n C dX5_count_23 rfl rfl ?_
    refine r_iconst C dX5_count_24 ?_
    refine r_cV C cwX5_44 (c_X5_fails hm) dX5_count_25 rfl (by omega) mput_0 rfl rfl rfl (Nat.le_of_ble_eq_true rfl) ⟨Nat.le_of_ble_eq_true rfl, Nat.le_of_ble_eq_true rfl⟩ ⟨Nat.le_of_ble_eq_true rfl, Nat.le_of_ble_eq_true rfl⟩ ?_
    exact r_iretD C dX5_count_28 rfl (by rw [up_up])
  · exact absurd h12 (by omega)

set_option maxRecDepth 100000 in
set_option maxHeartbeats 4000000 in
theorem c_X5_way_up {l : Launch} {D : va_G} {ty : Nat → ClassId} {ad : Int → Nat} {N : Int} {σ : Int → va_E} {m : Int} {v s t p x q : Int → Int} {q0 : Int} (hm : 0 ≤ m ∧ m + 6 ≤ N) (hs : okS s) (hq0 : 0 ≤ q0 ∧ q0 < 6) (hnl0 : ¬ rm s q0 1 = 1) : gM0 l yX5_way cX5_way 6 (some .int) 2 44 [.ref (ad m), .int (gI q0), .int (gI 1)] D ty ad N (mput ad ty σ m (v) (s) (t) (p) (x) (q)) (some (.int (gI (onW s q0 1 6 0)))) (mput ad ty σ m (v) (s) (t) (p) (x) (q)) := by
  refine gMet_of [some (.ref (ad m)), some (.int (gI q0)), some (.int (gI 1)), none, none, none] (by decide +kernel) rfl (Nat.le_of_ble_eq_true rfl) rfl ?_
  intro X hl hD hty C hini
  subst hl hD hty
  refine r_iload_n C dX5_way_0 rfl rfl ?_
  refine r_istore_n C dX5_way_1 rfl (Nat.le_of_ble_eq_true rfl) rfl ?_
  dsimp only [List.set]
  refine r_iconst C dX5_way_2 ?_
  refine r_istore C dX5_way_3 (Nat.le_of_ble_eq_true rfl) rfl ?_
  dsimp only [List.set]
  have lp : ∀ (n : Nat) (l : Int), (0 ≤ l ∧ l ≤ 5) → (l + n = 6) → (¬ rm s ((q0 + l * 1) % 6) 1 = 1) → (onW s q0 1 n l = onW s q0 1 6 0) → V X 0 0 (gQ X (gD (some (.int (gI (onW s q0 1 6 0)))) ad N (mput ad (gty X) σ m (v) (s) (t) (p) (x) (q))) 0 0) 5 [some (.ref (ad m)), some (.int (gI q0)), some (.int (gI 1)), some (.int (gI ((q0 + l * 1) % 6))), some (.int (gI (l + 1))), none] [] ad N (mput ad (gty X) σ m (v) (s) (t) (p) (x) (q)) := by
    intro n
    induction n with
    | zero =>
      intro l hp hpn hnl e
      exact absurd hpn (by omega)
    | succ n ih =>
      intro l hp hpn hnl e
      have hh := hs.rm (r := (q0 + l * 1) % 6) (by omega)
      have hhl := hh.len
      refine r_iload C dX5_way_5 rfl ?_
      refine r_bipush C dX5_way_7 (by decide) ?_
      refine r_icmp_ge (tgt := 71) C dX5_way_9 (by decide) (by omega) (by omega) (fun h9 => ?_) (fun h9 => ?_)
      · refine r_iconst C dX5_way_71 ?_
        exact r_iretD C dX5_way_72 (by obtain rfl : n = 0 := (by omega); rw [← e, onW, if_neg hnl]; split <;> rfl) rfl
      · refine r_iload_n C dX5_way_12 rfl rfl ?_
        refine r_iload_n C dX5_way_13 rfl rfl ?_
        refine r_iadd C dX5_way_14 ?_
        refine r_bipush C dX5_way_15 (by decide) ?_
        refine r_irem C dX5_way_17 (by omega) (by omega) ?_
        rw [show ((q0 + l * 1) % 6 + 1) % 6 = (q0 + (l + 1) * 1) % 6 by omega]
        refine r_istore C dX5_way_18 (Nat.le_of_ble_eq_true rfl) rfl ?_
        dsimp only [List.set]
        refine r_aload_n C dX5_way_20 rfl rfl ?_
        refine mm_get C flX5_7 dX5_way_21 hm rfl ?_
        refine r_iload_n C dX5_way_24 rfl rfl ?_
        refine r_iconst C dX5_way_25 ?_
        refine r_cS C cwX5_33 (c_X5_of (by omega) mput_1 (by omega) (by omega)) dX5_way_26 rfl rfl rfl (Nat.le_of_ble_eq_true rfl) ⟨Nat.le_of_ble_eq_true rfl, Nat.le_of_ble_eq_true rfl⟩ ⟨Nat.le_of_ble_eq_true rfl, Nat.le_of_ble_eq_true rfl⟩ ?_
        refine r_if_eq (tgt := 45) C dX5_way_29 (by decide) (by omega) (fun h29 => ?_) (fun h29 => ?_)
        · refine r_iconst C dX5_way_45 ?_
          exact r_iretD C dX5_way_46 (by rw [← e, onW, if_neg hnl]; first | rw [if_pos (Or.inl (by omega))] | rw [if_pos (Or.inr (by rw [show ((q0 + l * 1) % 6 + 1) % 6 = (q0 + (l + 1) * 1) % 6 by omega]; exact h42))]) rfl
        · refine r_aload_n C dX5_way_32 rfl rfl ?_
          refine mm_get C flX5_7 dX5_way_33 hm rfl ?_
          refine r_iload_n C dX5_way_36 rfl rfl ?_
          refine r_iload C dX5_way_37 rfl ?_
          refine r_cS C cwX5_56 (c_X5_isOpen (by omega) mput_1 hs (by omega) (by omega)) dX5_way_39 rfl rfl rfl (Nat.le_of_ble_eq_true rfl) ⟨Nat.le_of_ble_eq_true rfl, Nat.le_of_ble_eq_true rfl⟩ ⟨Nat.le_of_ble_eq_true rfl, Nat.le_of_ble_eq_true rfl⟩ ?_
          refine r_ifb_ne (tgt := 47) C dX5_way_42 (by decide) (fun h42 => ?_) (fun h42 => ?_)
          · refine r_aload_n C dX5_way_47 rfl rfl ?_
            refine mm_get C flX5_7 dX5_way_48 hm rfl ?_
            refine r_iload C dX5_way_51 rfl ?_
            refine r_cS C cwX5_52 (c_X5_isLit (by omega) mput_1 hs (by omega)) dX5_way_53 rfl rfl rfl (Nat.le_of_ble_eq_true rfl) ⟨Nat.le_of_ble_eq_true rfl, Nat.le_of_ble_eq_true rfl⟩ ⟨Nat.le_of_ble_eq_true rfl, Nat.le_of_ble_eq_true rfl⟩ ?_
            refine r_ifb_eq (tgt := 62) C dX5_way_56 (by decide) (fun h56 => ?_) (fun h56 => ?_)
            · refine r_iload C dX5_way_62 rfl ?_
              refine r_istore_n C dX5_way_64 rfl (Nat.le_of_ble_eq_true rfl) rfl ?_
              dsimp only [List.set]
              refine r_iinc C dX5_way_65 rfl rfl ?_
              dsimp only [List.set]
              refine r_goto (tgt := 5) C dX5_way_68 (by decide) ?_
              refine V_sub (L' := [some (.ref (ad m)), some (.int (gI q0)), some (.int (gI 1)), some (.int (gI ((q0 + (l + 1) * 1) % 6))), some (.int (gI (l + 1 + 1))), none]) rfl (fun i v hv => by match i, hv with | 0, hv => exact hv | 1, hv => exact hv | 2, hv => exact hv | 3, hv => exact hv | 4, hv => exact hv | 5, hv => simp at hv | i + 6, hv => simp at hv) ?_
              exact ih _ (by omega) (by omega) h56 (by rw [← e, onW, if_neg hnl, if_neg (fun h => h.elim (fun h => absurd h (by omega)) (fun h => h (by rw [show ((q0 + l * 1) % 6 + 1) % 6 = (q0 + (l + 1) * 1) % 6 by omega]; exact h42)))])
            · refine r_iload C dX5_way_59 rfl ?_
              exact r_iretD C dX5_way_61 (by obtain ⟨j, rfl⟩ : ∃ j, n = j + 1 := ⟨n - 1, by omega⟩; rw [← e, onW, if_neg hnl, if_neg (fun h => h.elim (fun h => absurd h (by omega)) (fun h => h (by rw [show ((q0 + l * 1) % 6 + 1) % 6 = (q0 + (l + 1) * 1) % 6 by omega]; exact h42))), onW, if_pos h56]) rfl
          · refine r_iconst C dX5_way_45 ?_
            exact r_iretD C dX5_way_46 (by rw [← e, onW, if_neg hnl]; first | rw [if_pos (Or.inl (by omega))] | rw [if_pos (Or.inr (by rw [show ((q0 + l * 1) % 6 + 1) % 6 = (q0 + (l + 1) * 1) % 6 by omega]; exact h42))]) rfl
  have h0 := lp 6 0 (by omega) (by omega) (by rw [show (q0 + 0 * 1) % 6 = q0 by omega]; exact hnl0) rfl
  rw [show (q0 + 0 * 1) % 6 = q0 by omega] at h0
  exact h0

set_option maxRecDepth 100000 in
set_option maxHeartbeats 4000000 in
theorem c_X5_way_dn {l : Launch} {D : va_G} {ty : Nat → ClassId} {ad : Int → Nat} {N : Int} {σ : Int → va_E} {m : Int} {v s t p x q : Int → Int} {q0 : Int} (hm : 0 ≤ m ∧ m + 6 ≤ N) (hs : okS s) (hq0 : 0 ≤ q0 ∧ q0 < 6) (hnl0 : ¬ rm s q0 1 = 1) : gM0 l yX5_way cX5_way 6 (some .int) 2 44 [.ref (ad m), .int (gI q0), .int (gI 5)] D ty ad N (mput ad ty σ m (v) (s) (t) (p) (x) (q)) (some (.int (gI (onW s q0 (-1) 6 0)))) (mput ad ty σ m (v) (s) (t) (p) (x) (q)) := by
  refine gMet_of [some (.ref (ad m)), some (.int (gI q0)), some (.int (gI 5)), none, none, none] (by decide +kernel) rfl (Nat.le_of_ble_eq_true rfl) rfl ?_
  intro X hl hD hty C hini
  subst hl hD hty
  refine r_iload_n C dX5_way_0 rfl rfl ?_
  refine r_istore_n C dX5_way_1 rfl (Nat.le_of_ble_eq_true rfl) rfl ?_
  dsimp only [List.set]
  refine r_iconst C dX5_way_2 ?_
  refine r_istore C dX5_way_3 (Nat.le_of_ble_eq_true rfl) rfl ?_
  dsimp only [List.set]
  have lp : ∀ (n : Nat) (l : Int), (0 ≤ l ∧ l ≤ 5) → (l + n = 6) → (¬ rm s ((q0 + l * (-1)) % 6) 1 = 1) → (onW s q0 (-1) n l = onW s q0 (-1) 6 0) → V X 0 0 (gQ X (gD (some (.int (gI (onW s q0 (-1) 6 0)))) ad N (mput ad (gty X) σ m (v) (s) (t) (p) (x) (q))) 0 0) 5 [some (.ref (ad m)), some (.int (gI q0)), some (.int (gI 5)), some (.int (gI ((q0 + l * (-1)) % 6))), some (.int (gI (l + 1))), none] [] ad N (mput ad (gty X) σ m (v) (s) (t) (p) (x) (q)) := by
    intro n
    induction n with
    | zero =>
      intro l hp hpn hnl e
      exact absurd hpn (by omega)
    | succ n ih =>
      intro l hp hpn hnl e
      have hh := hs.rm (r := (q0 + l * (-1)) % 6) (by omega)
      have hhl := hh.len
      refine r_iload C dX5_way_5 rfl ?_
      refine r_bipush C dX5_way_7 (by decide) ?_
      refine r_icmp_ge (tgt := 71) C dX5_way_9 (by decide) (by omega) (by omega) (fun h9 => ?_) (fun h9 => ?_)
      · refine r_iconst C dX5_way_71 ?_
        exact r_iretD C dX5_way_72 (by obtain rfl : n = 0 := (by omega); rw [← e, onW, if_neg hnl]; split <;> rfl) rfl
      · refine r_iload_n C dX5_way_12 rfl rfl ?_
        refine r_iload_n C dX5_way_13 rfl rfl ?_
        refine r_iadd C dX5_way_14 ?_
        refine r_bipush C dX5_way_15 (by decide) ?_
        refine r_irem C dX5_way_17 (by omega) (by omega) ?_
        rw [show ((q0 + l * (-1)) % 6 + 5) % 6 = (q0 + (l + 1) * (-1)) % 6 by omega]
        refine r_istore C dX5_way_18 (Nat.le_of_ble_eq_true rfl) rfl ?_
        dsimp only [List.set]
        refine r_aload_n C dX5_way_20 rfl rfl ?_
        refine mm_get C flX5_7 dX5_way_21 hm rfl ?_
        refine r_iload_n C dX5_way_24 rfl rfl ?_
        refine r_iconst C dX5_way_25 ?_
        refine r_cS C cwX5_33 (c_X5_of (by omega) mput_1 (by omega) (by omega)) dX5_way_26 rfl rfl rfl (Nat.le_of_ble_eq_true rfl) ⟨Nat.le_of_ble_eq_true rfl, Nat.le_of_ble_eq_true rfl⟩ ⟨Nat.le_of_ble_eq_true rfl, Nat.le_of_ble_eq_true rfl⟩ ?_
        refine r_if_eq (tgt := 45) C dX5_way_29 (by decide) (by omega) (fun h29 => ?_) (fun h29 => ?_)
        · refine r_iconst C dX5_way_45 ?_
          exact r_iretD C dX5_way_46 (by rw [← e, onW, if_neg hnl]; first | rw [if_pos (Or.inl (by omega))] | rw [if_pos (Or.inr (by rw [show ((q0 + l * (-1)) % 6 + (-1)) % 6 = (q0 + (l + 1) * (-1)) % 6 by omega]; exact h42))]) rfl
        · refine r_aload_n C dX5_way_32 rfl rfl ?_
          refine mm_get C flX5_7 dX5_way_33 hm rfl ?_
          refine r_iload_n C dX5_way_36 rfl rfl ?_
          refine r_iload C dX5_way_37 rfl ?_
          refine r_cS C cwX5_56 (c_X5_isOpen (by omega) mput_1 hs (by omega) (by omega)) dX5_way_39 rfl rfl rfl (Nat.le_of_ble_eq_true rfl) ⟨Nat.le_of_ble_eq_true rfl, Nat.le_of_ble_eq_true rfl⟩ ⟨Nat.le_of_ble_eq_true rfl, Nat.le_of_ble_eq_true rfl⟩ ?_
          refine r_ifb_ne (tgt := 47) C dX5_way_42 (by decide) (fun h42 => ?_) (fun h42 => ?_)
          · refine r_aload_n C dX5_way_47 rfl rfl ?_
            refine mm_get C flX5_7 dX5_way_48 hm rfl ?_
            refine r_iload C dX5_way_51 rfl ?_
            refine r_cS C cwX5_52 (c_X5_isLit (by omega) mput_1 hs (by omega)) dX5_way_53 rfl rfl rfl (Nat.le_of_ble_eq_true rfl) ⟨Nat.le_of_ble_eq_true rfl, Nat.le_of_ble_eq_true rfl⟩ ⟨Nat.le_of_ble_eq_true rfl, Nat.le_of_ble_eq_true rfl⟩ ?_
            refine r_ifb_eq (tgt := 62) C dX5_way_56 (by decide) (fun h56 => ?_) (fun h56 => ?_)
            · refine r_iload C dX5_way_62 rfl ?_
              refine r_istore_n C dX5_way_64 rfl (Nat.le_of_ble_eq_true rfl) rfl ?_
              dsimp only [List.set]
              refine r_iinc C dX5_way_65 rfl rfl ?_
              dsimp only [List.set]
              refine r_goto (tgt := 5) C dX5_way_68 (by decide) ?_
              refine V_sub (L' := [some (.ref (ad m)), some (.int (gI q0)), some (.int (gI 5)), some (.int (gI ((q0 + (l + 1) * (-1)) % 6))), some (.int (gI (l + 1 + 1))), none]) rfl (fun i v hv => by match i, hv with | 0, hv => exact hv | 1, hv => exact hv | 2, hv => exact hv | 3, hv => exact hv | 4, hv => exact hv | 5, hv => simp at hv | i + 6, hv => simp at hv) ?_
              exact ih _ (by omega) (by omega) h56 (by rw [← e, onW, if_neg hnl, if_neg (fun h => h.elim (fun h => absurd h (by omega)) (fun h => h (by rw [show ((q0 + l * (-1)) % 6 + (-1)) % 6 = (q0 + (l + 1) * (-1)) % 6 by omega]; exact h42)))])
            · refine r_iload C dX5_way_59 rfl ?_
              exact r_iretD C dX5_way_61 (by obtain ⟨j, rfl⟩ : ∃ j, n = j + 1 := ⟨n - 1, by omega⟩; rw [← e, onW, if_neg hnl, if_neg (fun h => h.elim (fun h => absurd h (by omega)) (fun h => h (by rw [show ((q0 + l * (-1)) % 6 + (-1)) % 6 = (q0 + (l + 1) * (-1)) % 6 by omega]; exact h42))), onW, if_pos h56]) rfl
          · refine r_iconst C dX5_way_45 ?_
            exact r_iretD C dX5_way_46 (by rw [← e, onW, if_neg hnl]; first | rw [if_pos (Or.inl (by omega))] | rw [if_pos (Or.inr (by rw [show ((q0 + l * (-1)) % 6 + (-1)) % 6 = (q0 + (l + 1) * (-1)) % 6 by omega]; exact h42))]) rfl
  have h0 := lp 6 0 (by omega) (by omega) (by rw [show (q0 + 0 * (-1)) % 6 = q0 by omega]; exact hnl0) rfl
  rw [show (q0 + 0 * (-1)) % 6 = q0 by omega] at h0
  exact h0

theorem sumF_le {f : Int → Int} : ∀ (n : Nat) (p i : Int), (∀ j, p ≤ j → j < p + n → 0 ≤ f j) → p ≤ i → i < p + n → f i ≤ sumF f n p
  | 0, p, i, _, h1, h2 => absurd h1 (by omega)
  | n + 1, p, i, h, h1, h2 => by
    have hp := h p (by omega) (by omega)
    simp only [sumF]
    have h0 : 0 ≤ sumF f n (p + 1) := by
      have : ∀ (n : Nat) (p : Int), (∀ j, p ≤ j → j < p + n → 0 ≤ f j) → 0 ≤ sumF f n p := by
        intro n
        induction n with
        | zero => intro p _; exact Int.le_refl _
        | succ n ih => intro p h; have := h p (by omega) (by omega); have := ih (p + 1) (fun j a b => h j (by omega) (by omega)); simp only [sumF]; omega
      exact this n (p + 1) (fun j a b => h j (by omega) (by omega))
    by_cases e : i = p
    · rw [e]; omega
    · have := sumF_le n (p + 1) i (fun j a b => h j (by omega) (by omega)) (by omega) (by omega); omega
theorem lit_cb {s : Int → Int} (hs : okS s) {r : Int} (hr : 0 ≤ r ∧ r < 6) : rm s r 1 ≤ cb s := sumF_le (f := fun r => rm s r 1) 6 0 r (fun j a b => by have := (hs.rm (r := j) (by omega)).bur; show 0 ≤ rm s j 1; omega) (by omega) (by omega)

set_option maxRecDepth 100000 in
set_option maxHeartbeats 4000000 in
theorem c_X5_fewest {l : Launch} {D : va_G} {ty : Nat → ClassId} {ad : Int → Nat} {N : Int} {σ : Int → va_E} {m : Int} {v s t p x q : Int → Int} {q0 : Int} (hm : 0 ≤ m ∧ m + 6 ≤ N) (hs : okS s) (hq0 : 0 ≤ q0 ∧ q0 < 6) : gM0 l yX5_fewest cX5_fewest 4 (some .int) 3 69 [.ref (ad m), .int (gI q0)] D ty ad N (mput ad ty σ m (v) (s) (t) (p) (x) (q)) (some (.int (gI (toL s q0)))) (mput ad ty σ m (v) (s) (t) (p) (x) (q)) := by
  refine gMet_of [some (.ref (ad m)), some (.int (gI q0)), none, none] (by decide +kernel) rfl (Nat.le_of_ble_eq_true rfl) rfl ?_
  intro X hl hD hty C hini
  subst hl hD hty
  have hcb := cb_rng hs
  have hql := (hs.rm hq0).len
  have h1 := onW_rng s q0 (-1) 6 0
  have h2 := onW_rng s q0 1 6 0
  have hlc := lit_cb hs hq0
  refine r_aload_n C dX5_fewest_0 rfl rfl ?_
  refine mm_get C flX5_7 dX5_fewest_1 hm rfl ?_
  refine r_iload_n C dX5_fewest_4 rfl rfl ?_
  refine r_cS C cwX5_52 (c_X5_isLit (by omega) mput_1 hs (by omega)) dX5_fewest_5 rfl rfl rfl (Nat.le_of_ble_eq_true rfl) ⟨Nat.le_of_ble_eq_true rfl, Nat.le_of_ble_eq_true rfl⟩ ⟨Nat.le_of_ble_eq_true rfl, Nat.le_of_ble_eq_true rfl⟩ ?_
  refine r_ifb_eq (tgt := 13) C dX5_fewest_8 (by decide) (fun h8 => ?_) (fun h8 => ?_)
  · refine r_aload_n C dX5_fewest_13 rfl rfl ?_
    refine mm_get C flX5_7 dX5_fewest_14 hm rfl ?_
    refine r_cS C cwX5_48 (c_X5_burning (by omega) mput_1 hs) dX5_fewest_17 rfl rfl rfl (Nat.le_of_ble_eq_true rfl) ⟨Nat.le_of_ble_eq_true rfl, Nat.le_of_ble_eq_true rfl⟩ ⟨Nat.le_of_ble_eq_true rfl, Nat.le_of_ble_eq_true rfl⟩ ?_
    refine r_if_ne (tgt := 41) C dX5_fewest_20 (by decide) (by omega) (fun h20 => ?_) (fun h20 => ?_)
    · refine r_aload_n C dX5_fewest_41 rfl rfl ?_
      refine r_iload_n C dX5_fewest_42 rfl rfl ?_
      refine r_iconst C dX5_fewest_43 ?_
      refine r_cV C cwX5_164 (c_X5_way_up hm hs hq0 h8) dX5_fewest_44 rfl (by omega) mput_0 rfl rfl rfl (Nat.le_of_ble_eq_true rfl) ⟨Nat.le_of_ble_eq_true rfl, Nat.le_of_ble_eq_true rfl⟩ ⟨Nat.le_of_ble_eq_true rfl, Nat.le_of_ble_eq_true rfl⟩ ?_
      refine r_istore_n C dX5_fewest_47 rfl (Nat.le_of_ble_eq_true rfl) rfl ?_
      dsimp only [List.set]
      refine r_aload_n C dX5_fewest_48 rfl rfl ?_
      refine r_iload_n C dX5_fewest_49 rfl rfl ?_
      refine r_iconst C dX5_fewest_50 ?_
      refine r_cV C cwX5_164 (c_X5_way_dn hm hs hq0 h8) dX5_fewest_51 rfl (by omega) mput_0 rfl rfl rfl (Nat.le_of_ble_eq_true rfl) ⟨Nat.le_of_ble_eq_true rfl, Nat.le_of_ble_eq_true rfl⟩ ⟨Nat.le_of_ble_eq_true rfl, Nat.le_of_ble_eq_true rfl⟩ ?_
      refine r_istore_n C dX5_fewest_54 rfl (Nat.le_of_ble_eq_true rfl) rfl ?_
      dsimp only [List.set]
      refine r_iload_n C dX5_fewest_55 rfl rfl ?_
      refine r_iconst C dX5_fewest_56 ?_
      refine r_icmp_eq (tgt := 70) C dX5_fewest_57 (by decide) (by omega) (by omega) (fun h57 => ?_) (fun h57 => ?_)
      · refine r_iload_n C dX5_fewest_70 rfl rfl ?_
        refine r_goto (tgt := 75) C dX5_fewest_71 (by decide) ?_
        exact r_iretD C dX5_fewest_75 (by unfold toL; first | rw [if_pos (by omega), if_pos (by omega)] | rw [if_pos (by omega), if_neg (by omega)] | rw [if_neg (by omega), if_pos (by omega)] | rw [if_neg (by omega), if_neg (by omega), if_pos (by omega)] | (rw [if_neg (by omega), if_neg (by omega), if_neg (by omega)]; omega) | (rw [if_neg (by omega)]; split <;> first | omega | (split <;> omega))) rfl
      · refine r_iload_n C dX5_fewest_60 rfl rfl ?_
        refine r_iconst C dX5_fewest_61 ?_
        refine r_icmp_eq (tgt := 74) C dX5_fewest_62 (by decide) (by omega) (by omega) (fun h62 => ?_) (fun h62 => ?_)
        · refine r_iload_n C dX5_fewest_74 rfl rfl ?_
          exact r_iretD C dX5_fewest_75 (by unfold toL; first | rw [if_pos (by omega), if_pos (by omega)] | rw [if_pos (by omega), if_neg (by omega)] | rw [if_neg (by omega), if_pos (by omega)] | rw [if_neg (by omega), if_neg (by omega), if_pos (by omega)] | (rw [if_neg (by omega), if_neg (by omega), if_neg (by omega)]; omega) | (rw [if_neg (by omega)]; split <;> first | omega | (split <;> omega))) rfl
        · refine r_iload_n C dX5_fewest_65 rfl rfl ?_
          refine r_iload_n C dX5_fewest_66 rfl rfl ?_
          refine r_icmp_ge (tgt := 74) C dX5_fewest_67 (by decide) (by omega) (by omega) (fun h67 => ?_) (fun h67 => ?_)
          · refine r_iload_n C dX5_fewest_74 rfl rfl ?_
            exact r_iretD C dX5_fewest_75 (by unfold toL; first | rw [if_pos (by omega), if_pos (by omega)] | rw [if_pos (by omega), if_neg (by omega)] | rw [if_neg (by omega), if_pos (by omega)] | rw [if_neg (by omega), if_neg (by omega), if_pos (by omega)] | (rw [if_neg (by omega), if_neg (by omega), if_neg (by omega)]; omega) | (rw [if_neg (by omega)]; split <;> first | omega | (split <;> omega))) rfl
          · refine r_iload_n C dX5_fewest_70 rfl rfl ?_
            refine r_goto (tgt := 75) C dX5_fewest_71 (by decide) ?_
            exact r_iretD C dX5_fewest_75 (by unfold toL; first | rw [if_pos (by omega), if_pos (by omega)] | rw [if_pos (by omega), if_neg (by omega)] | rw [if_neg (by omega), if_pos (by omega)] | rw [if_neg (by omega), if_neg (by omega), if_pos (by omega)] | (rw [if_neg (by omega), if_neg (by omega), if_neg (by omega)]; omega) | (rw [if_neg (by omega)]; split <;> first | omega | (split <;> omega))) rfl
    · refine r_aload_n C dX5_fewest_23 rfl rfl ?_
      refine mm_get C flX5_7 dX5_fewest_24 hm rfl ?_
      refine r_iload_n C dX5_fewest_27 rfl rfl ?_
      refine r_iconst C dX5_fewest_28 ?_
      refine r_cS C cwX5_33 (c_X5_of (by omega) mput_1 (by omega) (by omega)) dX5_fewest_29 rfl rfl rfl (Nat.le_of_ble_eq_true rfl) ⟨Nat.le_of_ble_eq_true rfl, Nat.le_of_ble_eq_true rfl⟩ ⟨Nat.le_of_ble_eq_true rfl, Nat.le_of_ble_eq_true rfl⟩ ?_
      refine r_if_le (tgt := 39) C dX5_fewest_32 (by decide) (by omega) (fun h32 => ?_) (fun h32 => ?_)
      · refine r_iconst C dX5_fewest_39 ?_
        exact r_iretD C dX5_fewest_40 (by unfold toL; first | rw [if_pos (by omega), if_pos (by omega)] | rw [if_pos (by omega), if_neg (by omega)] | rw [if_neg (by omega), if_pos (by omega)] | rw [if_neg (by omega), if_neg (by omega), if_pos (by omega)] | (rw [if_neg (by omega), if_neg (by omega), if_neg (by omega)]; omega) | (rw [if_neg (by omega)]; split <;> first | omega | (split <;> omega))) rfl
      · refine r_iconst C dX5_fewest_35 ?_
        refine r_goto (tgt := 40) C dX5_fewest_36 (by decide) ?_
        exact r_iretD C dX5_fewest_40 (by unfold toL; first | rw [if_pos (by omega), if_pos (by omega)] | rw [if_pos (by omega), if_neg (by omega)] | rw [if_neg (by omega), if_pos (by omega)] | rw [if_neg (by omega), if_neg (by omega), if_pos (by omega)] | (rw [if_neg (by omega), if_neg (by omega), if_neg (by omega)]; omega) | (rw [if_neg (by omega)]; split <;> first | omega | (split <;> omega))) rfl
  · have e1 : onW s q0 (-1) 6 0 = 0 := by rw [onW, if_pos (by rw [show (q0 + 0 * (-1)) % 6 = q0 by omega]; exact h8)]
    have e2 : onW s q0 1 6 0 = 0 := by rw [onW, if_pos (by rw [show (q0 + 0 * 1) % 6 = q0 by omega]; exact h8)]
    refine r_iconst C dX5_fewest_11 ?_
    exact r_iretD C dX5_fewest_12 (by unfold toL; rw [if_neg (by omega), if_neg (by omega), if_neg (by omega)]; omega) rfl

set_option maxRecDepth 100000 in
set_option maxHeartbeats 4000000 in
theorem c_X5_carried {l : Launch} {D : va_G} {ty : Nat → ClassId} {ad : Int → Nat} {N : Int} {σ : Int → va_E} {m : Int} {v s t p x q : Int → Int} {r : Int} (hm : 0 ≤ m ∧ m + 6 ≤ N) (hs : okS s) (hr : 0 ≤ r ∧ r < 6) : gM0 l yX5_carried cX5_carried 2 (some .int) 4 92 [.ref (ad m), .int (gI r)] D ty ad N (mput ad ty σ m (v) (s) (t) (p) (x) (q)) (some (.int (gI (toL s r)))) (mput ad ty σ m (up v 6 0) (s) (t) (p) (x) (q)) := by
  refine gMet_of [some (.ref (ad m)), some (.int (gI r))] (by decide +kernel) rfl (Nat.le_of_ble_eq_true rfl) rfl ?_
  intro X hl hD hty C hini
  subst hl hD hty
  refine r_aload_n C dX5_carried_0 rfl rfl ?_
  refine r_iconst C dX5_carried_1 ?_
  refine mm_put (j := 6) C flX5_25 dX5_carried_2 hm (by decide) rfl rfl rfl rfl ?_
  try rw [up_up]
  refine r_iload_n C dX5_carried_5 rfl rfl ?_
  refine r_cS C cwX5_63 (c_X5_isRoom (by omega)) dX5_carried_6 rfl rfl rfl (Nat.le_of_ble_eq_true rfl) ⟨Nat.le_of_ble_eq_true rfl, Nat.le_of_ble_eq_true rfl⟩ ⟨Nat.le_of_ble_eq_true rfl, Nat.le_of_ble_eq_true rfl⟩ ?_
  refine r_ifb_eq (tgt := 20) C dX5_carried_9 (by decide) (fun h9 => ?_) (fun h9 => ?_)
  · exact absurd hr (by omega)
  · refine r_aload_n C dX5_carried_12 rfl rfl ?_
    refine r_iload_n C dX5_carried_13 rfl rfl ?_
    refine r_cV C cwX5_167 (c_X5_fewest hm hs (by omega)) dX5_carried_14 rfl (by omega) mput_0 rfl rfl rfl (Nat.le_of_ble_eq_true rfl) ⟨Nat.le_of_ble_eq_true rfl, Nat.le_of_ble_eq_true rfl⟩ ⟨Nat.le_of_ble_eq_true rfl, Nat.le_of_ble_eq_true rfl⟩ ?_
    refine r_goto (tgt := 25) C dX5_carried_17 (by decide) ?_
    exact r_iretD C dX5_carried_25 rfl rfl

set_option maxRecDepth 100000 in
set_option maxHeartbeats 4000000 in
theorem c_X5_carried_f1 {l : Launch} {D : va_G} {ty : Nat → ClassId} {ad : Int → Nat} {N : Int} {σ : Int → va_E} {m : Int} {v s t p x q : Int → Int} {r : Int} (hm : 0 ≤ m ∧ m + 6 ≤ N)  (hnr : ¬ (0 ≤ r ∧ r < 6)) (hr : -2147483648 ≤ r ∧ r < 2147483648) : gM0 l yX5_carried cX5_carried 2 (some .int) 4 92 [.ref (ad m), .int (gI r)] D ty ad N (mput ad ty σ m (v) (s) (t) (p) (x) (q)) (some (.int (gI 0))) (mput ad ty σ m (up v 6 1) (s) (t) (p) (x) (q)) := by
  refine gMet_of [some (.ref (ad m)), some (.int (gI r))] (by decide +kernel) rfl (Nat.le_of_ble_eq_true rfl) rfl ?_
  intro X hl hD hty C hini
  subst hl hD hty
  refine r_aload_n C dX5_carried_0 rfl rfl ?_
  refine r_iconst C dX5_carried_1 ?_
  refine mm_put (j := 6) C flX5_25 dX5_carried_2 hm (by decide) rfl rfl rfl rfl ?_
  try rw [up_up]
  refine r_iload_n C dX5_carried_5 rfl rfl ?_
  refine r_cS C cwX5_63 (c_X5_isRoom (by omega)) dX5_carried_6 rfl rfl rfl (Nat.le_of_ble_eq_true rfl) ⟨Nat.le_of_ble_eq_true rfl, Nat.le_of_ble_eq_true rfl⟩ ⟨Nat.le_of_ble_eq_true rfl, Nat.le_of_ble_eq_true rfl⟩ ?_
  refine r_ifb_eq (tgt := 20) C dX5_carried_9 (by decide) (fun h9 => ?_) (fun h9 => ?_)
  · refine r_aload_n C dX5_carried_20 rfl rfl ?_
    refine r_iconst C dX5_carried_21 ?_
    refine r_cV C cwX5_44 (c_X5_fails hm) dX5_carried_22 rfl (by omega) mput_0 rfl rfl rfl (Nat.le_of_ble_eq_true rfl) ⟨Nat.le_of_ble_eq_true rfl, Nat.le_of_ble_eq_true rfl⟩ ⟨Nat.le_of_ble_eq_true rfl, Nat.le_of_ble_eq_true rfl⟩ ?_
    exact r_iretD C dX5_carried_25 rfl (by rw [up_up])
  · exact absurd h9 (by omega)

set_option maxRecDepth 100000 in
set_option maxHeartbeats 4000000 in
theorem c_X5_neediest {l : Launch} {D : va_G} {ty : Nat → ClassId} {ad : Int → Nat} {N : Int} {σ : Int → va_E} {m : Int} {v s t p x q : Int → Int} (hm : 0 ≤ m ∧ m + 6 ≤ N) (hs : okS s)  : gM0 l yX5_neediest cX5_neediest 4 (some .int) 1 22 [.ref (ad m)] D ty ad N (mput ad ty σ m (v) (s) (t) (p) (x) (q)) (some (.int (gI (needS s)))) (mput ad ty σ m (v) (s) (t) (p) (x) (q)) := by
  refine gMet_of [some (.ref (ad m)), none, none, none] (by decide +kernel) rfl (Nat.le_of_ble_eq_true rfl) rfl ?_
  intro X hl hD hty C hini
  subst hl hD hty
  refine r_iconst C dX5_neediest_0 ?_
  refine r_istore_n C dX5_neediest_1 rfl (Nat.le_of_ble_eq_true rfl) rfl ?_
  dsimp only [List.set]
  refine r_iconst C dX5_neediest_2 ?_
  refine r_istore_n C dX5_neediest_3 rfl (Nat.le_of_ble_eq_true rfl) rfl ?_
  dsimp only [List.set]
  have lp : ∀ (n : Nat) (i y : Int), (0 ≤ i) → (i + n = 6) → (-1 ≤ y ∧ y < 6) → (ndN s n i y = needS s) → V X 0 0 (gQ X (gD (some (.int (gI (needS s)))) ad N (mput ad (gty X) σ m (v) (s) (t) (p) (x) (q))) 0 0) 4 [some (.ref (ad m)), some (.int (gI y)), some (.int (gI i)), none] [] ad N (mput ad (gty X) σ m (v) (s) (t) (p) (x) (q)) := by
    intro n
    induction n with
    | zero =>
      intro i y hp hpn hy e
      refine r_iload_n C dX5_neediest_4 rfl rfl ?_
      refine r_bipush C dX5_neediest_5 (by decide) ?_
      refine r_icmp_ge (tgt := 115) C dX5_neediest_7 (by decide) (by omega) (by omega) (fun h7 => ?_) (fun h7 => ?_)
      · refine r_iload_n C dX5_neediest_115 rfl rfl ?_
        exact r_iretD C dX5_neediest_116 (by rw [← e]; rfl) rfl
      · exact absurd h7 (by omega)
    | succ n ih =>
      intro i y hp hpn hy e
      have hq := hs.rm (r := i) (by omega)
      have hqm := hq.many
      have hql := hq.len
      refine r_iload_n C dX5_neediest_4 rfl rfl ?_
      refine r_bipush C dX5_neediest_5 (by decide) ?_
      refine r_icmp_ge (tgt := 115) C dX5_neediest_7 (by decide) (by omega) (by omega) (fun h7 => ?_) (fun h7 => ?_)
      · exact absurd h7 (by omega)
      · refine r_aload_n C dX5_neediest_10 rfl rfl ?_
        refine mm_get C flX5_7 dX5_neediest_11 hm rfl ?_
        refine r_iload_n C dX5_neediest_14 rfl rfl ?_
        refine r_bipush C dX5_neediest_15 (by decide) ?_
        refine r_cS C cwX5_33 (c_X5_of (by omega) mput_1 (by omega) (by omega)) dX5_neediest_17 rfl rfl rfl (Nat.le_of_ble_eq_true rfl) ⟨Nat.le_of_ble_eq_true rfl, Nat.le_of_ble_eq_true rfl⟩ ⟨Nat.le_of_ble_eq_true rfl, Nat.le_of_ble_eq_true rfl⟩ ?_
        refine r_if_le (tgt := 97) C dX5_neediest_20 (by decide) (by omega) (fun h20 => ?_) (fun h20 => ?_)
        · refine r_iconst C dX5_neediest_97 ?_
          refine r_istore_n C dX5_neediest_98 rfl (Nat.le_of_ble_eq_true rfl) rfl ?_
          dsimp only [List.set]
          refine r_iload_n C dX5_neediest_99 rfl rfl ?_
          refine r_if_eq (tgt := 107) C dX5_neediest_100 (by decide) (by omega) (fun h100 => ?_) (fun h100 => ?_)
          · first
            | exact absurd h100 (by decide)
            | refine r_iload_n C dX5_neediest_107 rfl rfl ?_
              refine r_istore_n C dX5_neediest_108 rfl (Nat.le_of_ble_eq_true rfl) rfl ?_
              dsimp only [List.set]
              refine r_iinc C dX5_neediest_109 rfl rfl ?_
              dsimp only [List.set]
              refine r_goto (tgt := 4) C dX5_neediest_112 (by decide) ?_
              refine V_drop 3 ?_
              dsimp only [List.set]
              first
              | exact ih _ i (by omega) (by omega) (by omega) (by rw [← e]; simp only [ndN]; first | rw [if_pos ⟨by omega, Or.inl (by omega)⟩] | rw [if_pos ⟨by omega, Or.inr (by unfold needr; omega)⟩])
              | exact ih _ y (by omega) (by omega) (by omega) (by rw [← e]; simp only [ndN]; first | rw [if_neg (fun h => absurd h.1 (by omega))] | rw [if_neg (fun h => h.2.elim (fun h => absurd h (by omega)) (fun h => by unfold needr at h; omega))])
          · first
            | exact absurd h100 (by decide)
            | refine r_iload_n C dX5_neediest_103 rfl rfl ?_
              refine r_goto (tgt := 108) C dX5_neediest_104 (by decide) ?_
              refine r_istore_n C dX5_neediest_108 rfl (Nat.le_of_ble_eq_true rfl) rfl ?_
              dsimp only [List.set]
              refine r_iinc C dX5_neediest_109 rfl rfl ?_
              dsimp only [List.set]
              refine r_goto (tgt := 4) C dX5_neediest_112 (by decide) ?_
              refine V_drop 3 ?_
              dsimp only [List.set]
              first
              | exact ih _ i (by omega) (by omega) (by omega) (by rw [← e]; simp only [ndN]; first | rw [if_pos ⟨by omega, Or.inl (by omega)⟩] | rw [if_pos ⟨by omega, Or.inr (by unfold needr; omega)⟩])
              | exact ih _ y (by omega) (by omega) (by omega) (by rw [← e]; simp only [ndN]; first | rw [if_neg (fun h => absurd h.1 (by omega))] | rw [if_neg (fun h => h.2.elim (fun h => absurd h (by omega)) (fun h => by unfold needr at h; omega))])
        · refine r_iload_n C dX5_neediest_23 rfl rfl ?_
          refine r_iconst C dX5_neediest_24 ?_
          refine r_icmp_eq (tgt := 93) C dX5_neediest_25 (by decide) (by omega) (by omega) (fun h25 => ?_) (fun h25 => ?_)
          · refine r_iconst C dX5_neediest_93 ?_
            refine r_goto (tgt := 98) C dX5_neediest_94 (by decide) ?_
            refine r_istore_n C dX5_neediest_98 rfl (Nat.le_of_ble_eq_true rfl) rfl ?_
            dsimp only [List.set]
            refine r_iload_n C dX5_neediest_99 rfl rfl ?_
            refine r_if_eq (tgt := 107) C dX5_neediest_100 (by decide) (by omega) (fun h100 => ?_) (fun h100 => ?_)
            · first
              | exact absurd h100 (by decide)
              | refine r_iload_n C dX5_neediest_107 rfl rfl ?_
                refine r_istore_n C dX5_neediest_108 rfl (Nat.le_of_ble_eq_true rfl) rfl ?_
                dsimp only [List.set]
                refine r_iinc C dX5_neediest_109 rfl rfl ?_
                dsimp only [List.set]
                refine r_goto (tgt := 4) C dX5_neediest_112 (by decide) ?_
                refine V_drop 3 ?_
                dsimp only [List.set]
                first
                | exact ih _ i (by omega) (by omega) (by omega) (by rw [← e]; simp only [ndN]; first | rw [if_pos ⟨by omega, Or.inl (by omega)⟩] | rw [if_pos ⟨by omega, Or.inr (by unfold needr; omega)⟩])
                | exact ih _ y (by omega) (by omega) (by omega) (by rw [← e]; simp only [ndN]; first | rw [if_neg (fun h => absurd h.1 (by omega))] | rw [if_neg (fun h => h.2.elim (fun h => absurd h (by omega)) (fun h => by unfold needr at h; omega))])
            · first
              | exact absurd h100 (by decide)
              | refine r_iload_n C dX5_neediest_103 rfl rfl ?_
                refine r_goto (tgt := 108) C dX5_neediest_104 (by decide) ?_
                refine r_istore_n C dX5_neediest_108 rfl (Nat.le_of_ble_eq_true rfl) rfl ?_
                dsimp only [List.set]
                refine r_iinc C dX5_neediest_109 rfl rfl ?_
                dsimp only [List.set]
                refine r_goto (tgt := 4) C dX5_neediest_112 (by decide) ?_
                refine V_drop 3 ?_
                dsimp only [List.set]
                first
                | exact ih _ i (by omega) (by omega) (by omega) (by rw [← e]; simp only [ndN]; first | rw [if_pos ⟨by omega, Or.inl (by omega)⟩] | rw [if_pos ⟨by omega, Or.inr (by unfold needr; omega)⟩])
                | exact ih _ y (by omega) (by omega) (by omega) (by rw [← e]; simp only [ndN]; first | rw [if_neg (fun h => absurd h.1 (by omega))] | rw [if_neg (fun h => h.2.elim (fun h => absurd h (by omega)) (fun h => by unfold needr at h; omega))])
          · have hz := hs.rm (r := y) (by omega)
            have hzm := hz.many
            have hzl := hz.len
            refine r_aload_n C dX5_neediest_28 rfl rfl ?_
            refine mm_get C flX5_7 dX5_neediest_29 hm rfl ?_
            refine r_iload_n C dX5_neediest_32 rfl rfl ?_
            refine r_iconst C dX5_neediest_33 ?_
            refine r_cS C cwX5_33 (c_X5_of (by omega) mput_1 (by omega) (by omega)) dX5_neediest_34 rfl rfl rfl (Nat.le_of_ble_eq_true rfl) ⟨Nat.le_of_ble_eq_true rfl, Nat.le_of_ble_eq_true rfl⟩ ⟨Nat.le_of_ble_eq_true rfl, Nat.le_of_ble_eq_true rfl⟩ ?_
            refine r_aload_n C dX5_neediest_37 rfl rfl ?_
            refine mm_get C flX5_7 dX5_neediest_38 hm rfl ?_
            refine r_iload_n C dX5_neediest_41 rfl rfl ?_
            refine r_iconst C dX5_neediest_42 ?_
            refine r_cS C cwX5_33 (c_X5_of (by omega) mput_1 (by omega) (by omega)) dX5_neediest_43 rfl rfl rfl (Nat.le_of_ble_eq_true rfl) ⟨Nat.le_of_ble_eq_true rfl, Nat.le_of_ble_eq_true rfl⟩ ⟨Nat.le_of_ble_eq_true rfl, Nat.le_of_ble_eq_true rfl⟩ ?_
            refine r_icmp_lt (tgt := 93) C dX5_neediest_46 (by decide) (by omega) (by omega) (fun h46 => ?_) (fun h46 => ?_)
            · refine r_iconst C dX5_neediest_93 ?_
              refine r_goto (tgt := 98) C dX5_neediest_94 (by decide) ?_
              refine r_istore_n C dX5_neediest_98 rfl (Nat.le_of_ble_eq_true rfl) rfl ?_
              dsimp only [List.set]
              refine r_iload_n C dX5_neediest_99 rfl rfl ?_
              refine r_if_eq (tgt := 107) C dX5_neediest_100 (by decide) (by omega) (fun h100 => ?_) (fun h100 => ?_)
              · first
                | exact absurd h100 (by decide)
                | refine r_iload_n C dX5_neediest_107 rfl rfl ?_
                  refine r_istore_n C dX5_neediest_108 rfl (Nat.le_of_ble_eq_true rfl) rfl ?_
                  dsimp only [List.set]
                  refine r_iinc C dX5_neediest_109 rfl rfl ?_
                  dsimp only [List.set]
                  refine r_goto (tgt := 4) C dX5_neediest_112 (by decide) ?_
                  refine V_drop 3 ?_
                  dsimp only [List.set]
                  first
                  | exact ih _ i (by omega) (by omega) (by omega) (by rw [← e]; simp only [ndN]; first | rw [if_pos ⟨by omega, Or.inl (by omega)⟩] | rw [if_pos ⟨by omega, Or.inr (by unfold needr; omega)⟩])
                  | exact ih _ y (by omega) (by omega) (by omega) (by rw [← e]; simp only [ndN]; first | rw [if_neg (fun h => absurd h.1 (by omega))] | rw [if_neg (fun h => h.2.elim (fun h => absurd h (by omega)) (fun h => by unfold needr at h; omega))])
              · first
                | exact absurd h100 (by decide)
                | refine r_iload_n C dX5_neediest_103 rfl rfl ?_
                  refine r_goto (tgt := 108) C dX5_neediest_104 (by decide) ?_
                  refine r_istore_n C dX5_neediest_108 rfl (Nat.le_of_ble_eq_true rfl) rfl ?_
                  dsimp only [List.set]
                  refine r_iinc C dX5_neediest_109 rfl rfl ?_
                  dsimp only [List.set]
                  refine r_goto (tgt := 4) C dX5_neediest_112 (by decide) ?_
                  refine V_drop 3 ?_
                  dsimp only [List.set]
                  first
                  | exact ih _ i (by omega) (by omega) (by omega) (by rw [← e]; simp only [ndN]; first | rw [if_pos ⟨by omega, Or.inl (by omega)⟩] | rw [if_pos ⟨by omega, Or.inr (by unfold needr; omega)⟩])
                  | exact ih _ y (by omega) (by omega) (by omega) (by rw [← e]; simp only [ndN]; first | rw [if_neg (fun h => absurd h.1 (by omega))] | rw [if_neg (fun h => h.2.elim (fun h => absurd h (by omega)) (fun h => by unfold needr at h; omega))])
            · refine r_aload_n C dX5_neediest_49 rfl rfl ?_
              refine mm_get C flX5_7 dX5_neediest_50 hm rfl ?_
              refine r_iload_n C dX5_neediest_53 rfl rfl ?_
              refine r_iconst C dX5_neediest_54 ?_
              refine r_cS C cwX5_33 (c_X5_of (by omega) mput_1 (by omega) (by omega)) dX5_neediest_55 rfl rfl rfl (Nat.le_of_ble_eq_true rfl) ⟨Nat.le_of_ble_eq_true rfl, Nat.le_of_ble_eq_true rfl⟩ ⟨Nat.le_of_ble_eq_true rfl, Nat.le_of_ble_eq_true rfl⟩ ?_
              refine r_aload_n C dX5_neediest_58 rfl rfl ?_
              refine mm_get C flX5_7 dX5_neediest_59 hm rfl ?_
              refine r_iload_n C dX5_neediest_62 rfl rfl ?_
              refine r_iconst C dX5_neediest_63 ?_
              refine r_cS C cwX5_33 (c_X5_of (by omega) mput_1 (by omega) (by omega)) dX5_neediest_64 rfl rfl rfl (Nat.le_of_ble_eq_true rfl) ⟨Nat.le_of_ble_eq_true rfl, Nat.le_of_ble_eq_true rfl⟩ ⟨Nat.le_of_ble_eq_true rfl, Nat.le_of_ble_eq_true rfl⟩ ?_
              refine r_icmp_ne (tgt := 97) C dX5_neediest_67 (by decide) (by omega) (by omega) (fun h67 => ?_) (fun h67 => ?_)
              · refine r_iconst C dX5_neediest_97 ?_
                refine r_istore_n C dX5_neediest_98 rfl (Nat.le_of_ble_eq_true rfl) rfl ?_
                dsimp only [List.set]
                refine r_iload_n C dX5_neediest_99 rfl rfl ?_
                refine r_if_eq (tgt := 107) C dX5_neediest_100 (by decide) (by omega) (fun h100 => ?_) (fun h100 => ?_)
                · first
                  | exact absurd h100 (by decide)
                  | refine r_iload_n C dX5_neediest_107 rfl rfl ?_
                    refine r_istore_n C dX5_neediest_108 rfl (Nat.le_of_ble_eq_true rfl) rfl ?_
                    dsimp only [List.set]
                    refine r_iinc C dX5_neediest_109 rfl rfl ?_
                    dsimp only [List.set]
                    refine r_goto (tgt := 4) C dX5_neediest_112 (by decide) ?_
                    refine V_drop 3 ?_
                    dsimp only [List.set]
                    first
                    | exact ih _ i (by omega) (by omega) (by omega) (by rw [← e]; simp only [ndN]; first | rw [if_pos ⟨by omega, Or.inl (by omega)⟩] | rw [if_pos ⟨by omega, Or.inr (by unfold needr; omega)⟩])
                    | exact ih _ y (by omega) (by omega) (by omega) (by rw [← e]; simp only [ndN]; first | rw [if_neg (fun h => absurd h.1 (by omega))] | rw [if_neg (fun h => h.2.elim (fun h => absurd h (by omega)) (fun h => by unfold needr at h; omega))])
                · first
                  | exact absurd h100 (by decide)
                  | refine r_iload_n C dX5_neediest_103 rfl rfl ?_
                    refine r_goto (tgt := 108) C dX5_neediest_104 (by decide) ?_
                    refine r_istore_n C dX5_neediest_108 rfl (Nat.le_of_ble_eq_true rfl) rfl ?_
                    dsimp only [List.set]
                    refine r_iinc C dX5_neediest_109 rfl rfl ?_
                    dsimp only [List.set]
                    refine r_goto (tgt := 4) C dX5_neediest_112 (by decide) ?_
                    refine V_drop 3 ?_
                    dsimp only [List.set]
                    first
                    | exact ih _ i (by omega) (by omega) (by omega) (by rw [← e]; simp only [ndN]; first | rw [if_pos ⟨by omega, Or.inl (by omega)⟩] | rw [if_pos ⟨by omega, Or.inr (by unfold needr; omega)⟩])
                    | exact ih _ y (by omega) (by omega) (by omega) (by rw [← e]; simp only [ndN]; first | rw [if_neg (fun h => absurd h.1 (by omega))] | rw [if_neg (fun h => h.2.elim (fun h => absurd h (by omega)) (fun h => by unfold needr at h; omega))])
              · refine r_aload_n C dX5_neediest_70 rfl rfl ?_
                refine mm_get C flX5_7 dX5_neediest_71 hm rfl ?_
                refine r_iload_n C dX5_neediest_74 rfl rfl ?_
                refine r_bipush C dX5_neediest_75 (by decide) ?_
                refine r_cS C cwX5_33 (c_X5_of (by omega) mput_1 (by omega) (by omega)) dX5_neediest_77 rfl rfl rfl (Nat.le_of_ble_eq_true rfl) ⟨Nat.le_of_ble_eq_true rfl, Nat.le_of_ble_eq_true rfl⟩ ⟨Nat.le_of_ble_eq_true rfl, Nat.le_of_ble_eq_true rfl⟩ ?_
                refine r_aload_n C dX5_neediest_80 rfl rfl ?_
                refine mm_get C flX5_7 dX5_neediest_81 hm rfl ?_
                refine r_iload_n C dX5_neediest_84 rfl rfl ?_
                refine r_bipush C dX5_neediest_85 (by decide) ?_
                refine r_cS C cwX5_33 (c_X5_of (by omega) mput_1 (by omega) (by omega)) dX5_neediest_87 rfl rfl rfl (Nat.le_of_ble_eq_true rfl) ⟨Nat.le_of_ble_eq_true rfl, Nat.le_of_ble_eq_true rfl⟩ ⟨Nat.le_of_ble_eq_true rfl, Nat.le_of_ble_eq_true rfl⟩ ?_
                refine r_icmp_le (tgt := 97) C dX5_neediest_90 (by decide) (by omega) (by omega) (fun h90 => ?_) (fun h90 => ?_)
                · refine r_iconst C dX5_neediest_97 ?_
                  refine r_istore_n C dX5_neediest_98 rfl (Nat.le_of_ble_eq_true rfl) rfl ?_
                  dsimp only [List.set]
                  refine r_iload_n C dX5_neediest_99 rfl rfl ?_
                  refine r_if_eq (tgt := 107) C dX5_neediest_100 (by decide) (by omega) (fun h100 => ?_) (fun h100 => ?_)
                  · first
                    | exact absurd h100 (by decide)
                    | refine r_iload_n C dX5_neediest_107 rfl rfl ?_
                      refine r_istore_n C dX5_neediest_108 rfl (Nat.le_of_ble_eq_true rfl) rfl ?_
                      dsimp only [List.set]
                      refine r_iinc C dX5_neediest_109 rfl rfl ?_
                      dsimp only [List.set]
                      refine r_goto (tgt := 4) C dX5_neediest_112 (by decide) ?_
                      refine V_drop 3 ?_
                      dsimp only [List.set]
                      first
                      | exact ih _ i (by omega) (by omega) (by omega) (by rw [← e]; simp only [ndN]; first | rw [if_pos ⟨by omega, Or.inl (by omega)⟩] | rw [if_pos ⟨by omega, Or.inr (by unfold needr; omega)⟩])
                      | exact ih _ y (by omega) (by omega) (by omega) (by rw [← e]; simp only [ndN]; first | rw [if_neg (fun h => absurd h.1 (by omega))] | rw [if_neg (fun h => h.2.elim (fun h => absurd h (by omega)) (fun h => by unfold needr at h; omega))])
                  · first
                    | exact absurd h100 (by decide)
                    | refine r_iload_n C dX5_neediest_103 rfl rfl ?_
                      refine r_goto (tgt := 108) C dX5_neediest_104 (by decide) ?_
                      refine r_istore_n C dX5_neediest_108 rfl (Nat.le_of_ble_eq_true rfl) rfl ?_
                      dsimp only [List.set]
                      refine r_iinc C dX5_neediest_109 rfl rfl ?_
                      dsimp only [List.set]
                      refine r_goto (tgt := 4) C dX5_neediest_112 (by decide) ?_
                      refine V_drop 3 ?_
                      dsimp only [List.set]
                      first
                      | exact ih _ i (by omega) (by omega) (by omega) (by rw [← e]; simp only [ndN]; first | rw [if_pos ⟨by omega, Or.inl (by omega)⟩] | rw [if_pos ⟨by omega, Or.inr (by unfold needr; omega)⟩])
                      | exact ih _ y (by omega) (by omega) (by omega) (by rw [← e]; simp only [ndN]; first | rw [if_neg (fun h => absurd h.1 (by omega))] | rw [if_neg (fun h => h.2.elim (fun h => absurd h (by omega)) (fun h => by unfold needr at h; omega))])
                · refine r_iconst C dX5_neediest_93 ?_
                  refine r_goto (tgt := 98) C dX5_neediest_94 (by decide) ?_
                  refine r_istore_n C dX5_neediest_98 rfl (Nat.le_of_ble_eq_true rfl) rfl ?_
                  dsimp only [List.set]
                  refine r_iload_n C dX5_neediest_99 rfl rfl ?_
                  refine r_if_eq (tgt := 107) C dX5_neediest_100 (by decide) (by omega) (fun h100 => ?_) (fun h100 => ?_)
                  · first
                    | exact absurd h100 (by decide)
                    | refine r_iload_n C dX5_neediest_107 rfl rfl ?_
                      refine r_istore_n C dX5_neediest_108 rfl (Nat.le_of_ble_eq_true rfl) rfl ?_
                      dsimp only [List.set]
                      refine r_iinc C dX5_neediest_109 rfl rfl ?_
                      dsimp only [List.set]
                      refine r_goto (tgt := 4) C dX5_neediest_112 (by decide) ?_
                      refine V_drop 3 ?_
                      dsimp only [List.set]
                      first
                      | exact ih _ i (by omega) (by omega) (by omega) (by rw [← e]; simp only [ndN]; first | rw [if_pos ⟨by omega, Or.inl (by omega)⟩] | rw [if_pos ⟨by omega, Or.inr (by unfold needr; omega)⟩])
                      | exact ih _ y (by omega) (by omega) (by omega) (by rw [← e]; simp only [ndN]; first | rw [if_neg (fun h => absurd h.1 (by omega))] | rw [if_neg (fun h => h.2.elim (fun h => absurd h (by omega)) (fun h => by unfold needr at h; omega))])
                  · first
                    | exact absurd h100 (by decide)
                    | refine r_iload_n C dX5_neediest_103 rfl rfl ?_
                      refine r_goto (tgt := 108) C dX5_neediest_104 (by decide) ?_
                      refine r_istore_n C dX5_neediest_108 rfl (Nat.le_of_ble_eq_true rfl) rfl ?_
                      dsimp only [List.set]
                      refine r_iinc C dX5_neediest_109 rfl rfl ?_
                      dsimp only [List.set]
                      refine r_goto (tgt := 4) C dX5_neediest_112 (by decide) ?_
                      refine V_drop 3 ?_
                      dsimp only [List.set]
                      first
                      | exact ih _ i (by omega) (by omega) (by omega) (by rw [← e]; simp only [ndN]; first | rw [if_pos ⟨by omega, Or.inl (by omega)⟩] | rw [if_pos ⟨by omega, Or.inr (by unfold needr; omega)⟩])
                      | exact ih _ y (by omega) (by omega) (by omega) (by rw [← e]; simp only [ndN]; first | rw [if_neg (fun h => absurd h.1 (by omega))] | rw [if_neg (fun h => h.2.elim (fun h => absurd h (by omega)) (fun h => by unfold needr at h; omega))])
  exact lp 6 0 (-1) (by omega) (by omega) (by omega) rfl

set_option maxRecDepth 100000 in
set_option maxHeartbeats 4000000 in
theorem c_X5_needy {l : Launch} {D : va_G} {ty : Nat → ClassId} {ad : Int → Nat} {N : Int} {σ : Int → va_E} {m : Int} {v s t p x q : Int → Int} (hm : 0 ≤ m ∧ m + 6 ≤ N) (hs : okS s)  : gM0 l yX5_needy cX5_needy 1 (some .int) 2 45 [.ref (ad m)] D ty ad N (mput ad ty σ m (v) (s) (t) (p) (x) (q)) (some (.int (gI (needS s)))) (mput ad ty σ m (up v 6 0) (s) (t) (p) (x) (q)) := by
  refine gMet_of [some (.ref (ad m))] (by decide +kernel) rfl (Nat.le_of_ble_eq_true rfl) rfl ?_
  intro X hl hD hty C hini
  subst hl hD hty
  refine r_aload_n C dX5_needy_0 rfl rfl ?_
  refine r_iconst C dX5_needy_1 ?_
  refine mm_put (j := 6) C flX5_25 dX5_needy_2 hm (by decide) rfl rfl rfl rfl ?_
  try rw [up_up]
  refine r_aload_n C dX5_needy_5 rfl rfl ?_
  refine r_cV C cwX5_170 (c_X5_neediest hm hs) dX5_needy_6 rfl (by omega) mput_0 rfl rfl rfl (Nat.le_of_ble_eq_true rfl) ⟨Nat.le_of_ble_eq_true rfl, Nat.le_of_ble_eq_true rfl⟩ ⟨Nat.le_of_ble_eq_true rfl, Nat.le_of_ble_eq_true rfl⟩ ?_
  exact r_iretD C dX5_needy_9 rfl rfl

set_option maxRecDepth 100000 in
set_option maxHeartbeats 4000000 in
theorem c_X5_saved {l : Launch} {D : va_G} {ty : Nat → ClassId} {ad : Int → Nat} {N : Int} {σ : Int → va_E} {m : Int} {v s t p x q : Int → Int} {r : Int} (hm : 0 ≤ m ∧ m + 6 ≤ N) (hs : okS s) (hr : 0 ≤ r ∧ r < 6) : gM0 l yX5_saved cX5_saved 3 (some .int) 2 43 [.ref (ad m), .int (gI r)] D ty ad N (mput ad ty σ m (v) (s) (t) (p) (x) (q)) (some (.int (gI (savR (rm s r))))) (mput ad ty σ m (v) (s) (svT s r t) (p) (x) (q)) := by
  refine gMet_of [some (.ref (ad m)), some (.int (gI r)), none] (by decide +kernel) rfl (Nat.le_of_ble_eq_true rfl) rfl ?_
  intro X hl hD hty C hini
  subst hl hD hty
  refine r_aload_n C dX5_saved_0 rfl rfl ?_
  refine mm_get C flX5_7 dX5_saved_1 hm rfl ?_
  refine r_iload_n C dX5_saved_4 rfl rfl ?_
  refine r_cS C cwX5_52 (c_X5_isLit (by omega) mput_1 hs (by omega)) dX5_saved_5 rfl rfl rfl (Nat.le_of_ble_eq_true rfl) ⟨Nat.le_of_ble_eq_true rfl, Nat.le_of_ble_eq_true rfl⟩ ⟨Nat.le_of_ble_eq_true rfl, Nat.le_of_ble_eq_true rfl⟩ ?_
  refine r_ifb_ne (tgt := 13) C dX5_saved_8 (by decide) (fun h8 => ?_) (fun h8 => ?_)
  · refine r_aload_n C dX5_saved_13 rfl rfl ?_
    refine mm_get C flX5_7 dX5_saved_14 hm rfl ?_
    refine r_iconst C dX5_saved_17 ?_
    refine r_aload_n C dX5_saved_18 rfl rfl ?_
    refine mm_get C flX5_13 dX5_saved_19 hm rfl ?_
    refine r_iconst C dX5_saved_22 ?_
    refine r_cSv C cwX5_40 (liftT (c_X5_copies (n1 := 99) (f := s) (by omega) (by omega) (by omega) mput_1 (by omega) (by omega) (by decide) (by decide))) dX5_saved_23 rfl rfl rfl (Nat.le_of_ble_eq_true rfl) ⟨Nat.le_of_ble_eq_true rfl, Nat.le_of_ble_eq_true rfl⟩ ⟨Nat.le_of_ble_eq_true rfl, Nat.le_of_ble_eq_true rfl⟩ ?_
    rw [mput_cp]
    refine r_iconst C dX5_saved_26 ?_
    refine r_istore_n C dX5_saved_27 rfl (Nat.le_of_ble_eq_true rfl) rfl ?_
    dsimp only [List.set]
    have lp : ∀ (n : Nat) (i : Int) (y : Int → Int), (0 ≤ i) → (i + n = bnR (rm s r)) → (okS y) → (bnR (rm y r) = n) → (brn r n y = svT s r t) → V X 0 0 (gQ X (gD (some (.int (gI (savR (rm s r))))) ad N (mput ad (gty X) σ m (v) (s) (svT s r t) (p) (x) (q))) 0 0) 28 [some (.ref (ad m)), some (.int (gI r)), some (.int (gI i))] [] ad N (mput ad (gty X) σ m (v) (s) (y) (p) (x) (q)) := by
      intro n
      induction n with
      | zero =>
        intro i y hp hpn hy hb e
        have hq := hy.rm hr
        refine r_aload_n C dX5_saved_28 rfl rfl ?_
        refine mm_get C flX5_13 dX5_saved_29 hm rfl ?_
        refine r_iload_n C dX5_saved_32 rfl rfl ?_
        refine r_cS C cwX5_52 (c_X5_isLit (by omega) mput_2 hy hr) dX5_saved_33 rfl rfl rfl (Nat.le_of_ble_eq_true rfl) ⟨Nat.le_of_ble_eq_true rfl, Nat.le_of_ble_eq_true rfl⟩ ⟨Nat.le_of_ble_eq_true rfl, Nat.le_of_ble_eq_true rfl⟩ ?_
        refine r_ifb_eq (tgt := 53) C dX5_saved_36 (by decide) (fun h36 => ?_) (fun h36 => ?_)
        · refine r_aload_n C dX5_saved_53 rfl rfl ?_
          refine mm_get C flX5_7 dX5_saved_54 hm rfl ?_
          refine r_iload_n C dX5_saved_57 rfl rfl ?_
          refine r_iconst C dX5_saved_58 ?_
          refine r_cS C cwX5_33 (c_X5_of (by omega) mput_1 (by omega) (by omega)) dX5_saved_59 rfl rfl rfl (Nat.le_of_ble_eq_true rfl) ⟨Nat.le_of_ble_eq_true rfl, Nat.le_of_ble_eq_true rfl⟩ ⟨Nat.le_of_ble_eq_true rfl, Nat.le_of_ble_eq_true rfl⟩ ?_
          refine r_iload_n C dX5_saved_62 rfl rfl ?_
          refine r_isub C dX5_saved_63 ?_
          exact r_iretD C dX5_saved_64 (by rw [savR_bn h8]; omega) (by rw [← e]; rfl)
        · have hb1 := bn_burn hq h36
          have hbr := bn_rng (burnR (rm y r))
          exfalso
          omega
      | succ n ih =>
        intro i y hp hpn hy hb e
        have hq := hy.rm hr
        have hql := hq.len
        have hqb := hq.bur
        have hqw := hq.wick
        refine r_aload_n C dX5_saved_28 rfl rfl ?_
        refine mm_get C flX5_13 dX5_saved_29 hm rfl ?_
        refine r_iload_n C dX5_saved_32 rfl rfl ?_
        refine r_cS C cwX5_52 (c_X5_isLit (by omega) mput_2 hy hr) dX5_saved_33 rfl rfl rfl (Nat.le_of_ble_eq_true rfl) ⟨Nat.le_of_ble_eq_true rfl, Nat.le_of_ble_eq_true rfl⟩ ⟨Nat.le_of_ble_eq_true rfl, Nat.le_of_ble_eq_true rfl⟩ ?_
        refine r_ifb_eq (tgt := 53) C dX5_saved_36 (by decide) (fun h36 => ?_) (fun h36 => ?_)
        · have hb0 := bn_0 hq h36
          exfalso
          omega
        · have hb1 := bn_burn hq h36
          refine r_aload_n C dX5_saved_39 rfl rfl ?_
          refine mm_get C flX5_13 dX5_saved_40 hm rfl ?_
          refine r_iload_n C dX5_saved_43 rfl rfl ?_
          refine r_cSv C cwX5_90 (liftT (c_X5_burns (by omega) hr hql hqb hqw)) dX5_saved_44 rfl rfl rfl (Nat.le_of_ble_eq_true rfl) ⟨Nat.le_of_ble_eq_true rfl, Nat.le_of_ble_eq_true rfl⟩ ⟨Nat.le_of_ble_eq_true rfl, Nat.le_of_ble_eq_true rfl⟩ ?_
          refine r_iinc C dX5_saved_47 rfl rfl ?_
          dsimp only [List.set]
          refine r_goto (tgt := 28) C dX5_saved_50 (by decide) ?_
          exact ih _ _ (by omega) (by omega) (okS_brn1 hy hr) (by rw [rm_srm (can_burn (can_rm y r))]; omega) e
    have hbr := bn_rng (rm s r)
    exact lp (bnR (rm s r)).toNat 0 s (by omega) (by omega) hs (by omega) (by unfold svT; rw [if_pos h8])
  · refine r_iconst C dX5_saved_11 ?_
    exact r_iretD C dX5_saved_12 (by unfold savR; rw [if_pos (by have := (hs.rm hr).bur; omega)]) (by unfold svT; rw [if_neg h8])

set_option maxRecDepth 100000 in
set_option maxHeartbeats 4000000 in
theorem c_X5_saves {l : Launch} {D : va_G} {ty : Nat → ClassId} {ad : Int → Nat} {N : Int} {σ : Int → va_E} {m : Int} {v s t p x q : Int → Int} {r : Int} (hm : 0 ≤ m ∧ m + 6 ≤ N) (hs : okS s) (hr : 0 ≤ r ∧ r < 6) : gM0 l yX5_saves cX5_saves 2 (some .int) 3 65 [.ref (ad m), .int (gI r)] D ty ad N (mput ad ty σ m (v) (s) (t) (p) (x) (q)) (some (.int (gI (savR (rm s r))))) (mput ad ty σ m (up v 6 0) (s) (svT s r t) (p) (x) (q)) := by
  refine gMet_of [some (.ref (ad m)), some (.int (gI r))] (by decide +kernel) rfl (Nat.le_of_ble_eq_true rfl) rfl ?_
  intro X hl hD hty C hini
  subst hl hD hty
  refine r_aload_n C dX5_saves_0 rfl rfl ?_
  refine r_iconst C dX5_saves_1 ?_
  refine mm_put (j := 6) C flX5_25 dX5_saves_2 hm (by decide) rfl rfl rfl rfl ?_
  try rw [up_up]
  refine r_iload_n C dX5_saves_5 rfl rfl ?_
  refine r_cS C cwX5_63 (c_X5_isRoom (by omega)) dX5_saves_6 rfl rfl rfl (Nat.le_of_ble_eq_true rfl) ⟨Nat.le_of_ble_eq_true rfl, Nat.le_of_ble_eq_true rfl⟩ ⟨Nat.le_of_ble_eq_true rfl, Nat.le_of_ble_eq_true rfl⟩ ?_
  refine r_ifb_eq (tgt := 20) C dX5_saves_9 (by decide) (fun h9 => ?_) (fun h9 => ?_)
  · exact absurd hr (by omega)
  · refine r_aload_n C dX5_saves_12 rfl rfl ?_
    refine r_iload_n C dX5_saves_13 rfl rfl ?_
    refine r_cV C cwX5_173 (c_X5_saved hm hs (by omega)) dX5_saves_14 rfl (by omega) mput_0 rfl rfl rfl (Nat.le_of_ble_eq_true rfl) ⟨Nat.le_of_ble_eq_true rfl, Nat.le_of_ble_eq_true rfl⟩ ⟨Nat.le_of_ble_eq_true rfl, Nat.le_of_ble_eq_true rfl⟩ ?_
    refine r_goto (tgt := 25) C dX5_saves_17 (by decide) ?_
    exact r_iretD C dX5_saves_25 rfl rfl

set_option maxRecDepth 100000 in
set_option maxHeartbeats 4000000 in
theorem c_X5_saves_f1 {l : Launch} {D : va_G} {ty : Nat → ClassId} {ad : Int → Nat} {N : Int} {σ : Int → va_E} {m : Int} {v s t p x q : Int → Int} {r : Int} (hm : 0 ≤ m ∧ m + 6 ≤ N)  (hnr : ¬ (0 ≤ r ∧ r < 6)) (hr : -2147483648 ≤ r ∧ r < 2147483648) : gM0 l yX5_saves cX5_saves 2 (some .int) 3 65 [.ref (ad m), .int (gI r)] D ty ad N (mput ad ty σ m (v) (s) (t) (p) (x) (q)) (some (.int (gI 0))) (mput ad ty σ m (up v 6 1) (s) (t) (p) (x) (q)) := by
  refine gMet_of [some (.ref (ad m)), some (.int (gI r))] (by decide +kernel) rfl (Nat.le_of_ble_eq_true rfl) rfl ?_
  intro X hl hD hty C hini
  subst hl hD hty
  refine r_aload_n C dX5_saves_0 rfl rfl ?_
  refine r_iconst C dX5_saves_1 ?_
  refine mm_put (j := 6) C flX5_25 dX5_saves_2 hm (by decide) rfl rfl rfl rfl ?_
  try rw [up_up]
  refine r_iload_n C dX5_saves_5 rfl rfl ?_
  refine r_cS C cwX5_63 (c_X5_isRoom (by omega)) dX5_saves_6 rfl rfl rfl (Nat.le_of_ble_eq_true rfl) ⟨Nat.le_of_ble_eq_true rfl, Nat.le_of_ble_eq_true rfl⟩ ⟨Nat.le_of_ble_eq_true rfl, Nat.le_of_ble_eq_true rfl⟩ ?_
  refine r_ifb_eq (tgt := 20) C dX5_saves_9 (by decide) (fun h9 => ?_) (fun h9 => ?_)
  · refine r_aload_n C dX5_saves_20 rfl rfl ?_
    refine r_iconst C dX5_saves_21 ?_
    refine r_cV C cwX5_44 (c_X5_fails hm) dX5_saves_22 rfl (by omega) mput_0 rfl rfl rfl (Nat.le_of_ble_eq_true rfl) ⟨Nat.le_of_ble_eq_true rfl, Nat.le_of_ble_eq_true rfl⟩ ⟨Nat.le_of_ble_eq_true rfl, Nat.le_of_ble_eq_true rfl⟩ ?_
    exact r_iretD C dX5_saves_25 rfl (by rw [up_up])
  · exact absurd h9 (by omega)

set_option maxRecDepth 100000 in
set_option maxHeartbeats 4000000 in
theorem c_X5_share {l : Launch} {D : va_G} {ty : Nat → ClassId} {ad : Int → Nat} {N : Int} {σ : Int → va_E} {m : Int} {v s t p x q : Int → Int} (hm : 0 ≤ m ∧ m + 6 ≤ N) (hs : okS s)  : gM0 l yX5_share cX5_share 3 (some .double) 2 44 [.ref (ad m)] D ty ad N (mput ad ty σ m (v) (s) (t) (p) (x) (q)) (some (.double (share s))) (mput ad ty σ m (v) (s) (t) (p) (x) (q)) := by
  refine gMet_of [some (.ref (ad m)), none, none] (by decide +kernel) rfl (Nat.le_of_ble_eq_true rfl) rfl ?_
  intro X hl hD hty C hini
  subst hl hD hty
  have htg := thg_rng hs
  have hil := inl_rng hs
  refine r_iconst C dX5_share_0 ?_
  refine r_istore_n C dX5_share_1 rfl (Nat.le_of_ble_eq_true rfl) rfl ?_
  dsimp only [List.set]
  refine r_iconst C dX5_share_2 ?_
  refine r_istore_n C dX5_share_3 rfl (Nat.le_of_ble_eq_true rfl) rfl ?_
  dsimp only [List.set]
  have lp : ∀ (n : Nat) (i g : Int), (0 ≤ i) → (i + n = 6) → (g + sumF (fun r => if rm s r 1 = 1 then rm s r 6 else 0) n i = inl s) → V X 0 0 (gQ X (gD (some (.double (share s))) ad N (mput ad (gty X) σ m (v) (s) (t) (p) (x) (q))) 0 0) 4 [some (.ref (ad m)), some (.int (gI g)), some (.int (gI i))] [] ad N (mput ad (gty X) σ m (v) (s) (t) (p) (x) (q)) := by
    intro n
    induction n with
    | zero =>
      intro i g hp hpn e
      have hg : g = inl s := by rw [← e]; simp only [sumF]; omega
      subst hg
      refine r_iload_n C dX5_share_4 rfl rfl ?_
      refine r_bipush C dX5_share_5 (by decide) ?_
      refine r_icmp_ge (tgt := 44) C dX5_share_7 (by decide) (by omega) (by omega) (fun h7 => ?_) (fun h7 => ?_)
      · refine r_aload_n C dX5_share_44 rfl rfl ?_
        refine r_cV C cwX5_151 (c_X5_things hm hs) dX5_share_45 rfl (by omega) mput_0 rfl rfl rfl (Nat.le_of_ble_eq_true rfl) ⟨Nat.le_of_ble_eq_true rfl, Nat.le_of_ble_eq_true rfl⟩ ⟨Nat.le_of_ble_eq_true rfl, Nat.le_of_ble_eq_true rfl⟩ ?_
        refine r_if_ne (tgt := 55) C dX5_share_48 (by decide) (by omega) (fun h48 => ?_) (fun h48 => ?_)
        · refine r_iload_n C dX5_share_55 rfl rfl ?_
          refine r_i2d C dX5_share_56 ?_
          refine r_aload_n C dX5_share_57 rfl rfl ?_
          refine r_cV C cwX5_151 (c_X5_things hm hs) dX5_share_58 rfl (by omega) mput_0 rfl rfl rfl (Nat.le_of_ble_eq_true rfl) ⟨Nat.le_of_ble_eq_true rfl, Nat.le_of_ble_eq_true rfl⟩ ⟨Nat.le_of_ble_eq_true rfl, Nat.le_of_ble_eq_true rfl⟩ ?_
          refine r_i2d C dX5_share_61 ?_
          refine r_ddiv C dX5_share_62 (shD_n (by omega) (by omega)) ?_
          exact r_dretD C dX5_share_63 (by unfold share; first | rw [if_pos (by omega)] | (rw [if_neg (by omega)]; rfl)) rfl
        · refine r_dconst_1 C dX5_share_51 ?_
          refine r_goto (tgt := 63) C dX5_share_52 (by decide) ?_
          exact r_dretD C dX5_share_63 (by unfold share; first | rw [if_pos (by omega)] | (rw [if_neg (by omega)]; rfl)) rfl
      · exact absurd h7 (by omega)
    | succ n ih =>
      intro i g hp hpn e
      refine r_iload_n C dX5_share_4 rfl rfl ?_
      refine r_bipush C dX5_share_5 (by decide) ?_
      refine r_icmp_ge (tgt := 44) C dX5_share_7 (by decide) (by omega) (by omega) (fun h7 => ?_) (fun h7 => ?_)
      · exact absurd h7 (by omega)
      · refine r_iload_n C dX5_share_10 rfl rfl ?_
        refine r_aload_n C dX5_share_11 rfl rfl ?_
        refine mm_get C flX5_7 dX5_share_12 hm rfl ?_
        refine r_iload_n C dX5_share_15 rfl rfl ?_
        refine r_cS C cwX5_52 (c_X5_isLit (by omega) mput_1 hs (by omega)) dX5_share_16 rfl rfl rfl (Nat.le_of_ble_eq_true rfl) ⟨Nat.le_of_ble_eq_true rfl, Nat.le_of_ble_eq_true rfl⟩ ⟨Nat.le_of_ble_eq_true rfl, Nat.le_of_ble_eq_true rfl⟩ ?_
        refine r_ifb_eq (tgt := 35) C dX5_share_19 (by decide) (fun h19 => ?_) (fun h19 => ?_)
        · refine r_iconst C dX5_share_35 ?_
          refine r_iadd C dX5_share_36 ?_
          refine r_istore_n C dX5_share_37 rfl (Nat.le_of_ble_eq_true rfl) rfl ?_
          dsimp only [List.set]
          refine r_iinc C dX5_share_38 rfl rfl ?_
          dsimp only [List.set]
          refine r_goto (tgt := 4) C dX5_share_41 (by decide) ?_
          exact ih _ _ (by omega) (by omega) (by rw [← e]; simp only [sumF]; first | (rw [if_neg h19]; omega) | (rw [if_pos h19]; omega))
        · refine r_aload_n C dX5_share_22 rfl rfl ?_
          refine mm_get C flX5_7 dX5_share_23 hm rfl ?_
          refine r_iload_n C dX5_share_26 rfl rfl ?_
          refine r_bipush C dX5_share_27 (by decide) ?_
          refine r_cS C cwX5_33 (c_X5_of (by omega) mput_1 (by omega) (by omega)) dX5_share_29 rfl rfl rfl (Nat.le_of_ble_eq_true rfl) ⟨Nat.le_of_ble_eq_true rfl, Nat.le_of_ble_eq_true rfl⟩ ⟨Nat.le_of_ble_eq_true rfl, Nat.le_of_ble_eq_true rfl⟩ ?_
          refine r_goto (tgt := 36) C dX5_share_32 (by decide) ?_
          refine r_iadd C dX5_share_36 ?_
          refine r_istore_n C dX5_share_37 rfl (Nat.le_of_ble_eq_true rfl) rfl ?_
          dsimp only [List.set]
          refine r_iinc C dX5_share_38 rfl rfl ?_
          dsimp only [List.set]
          refine r_goto (tgt := 4) C dX5_share_41 (by decide) ?_
          exact ih _ _ (by omega) (by omega) (by rw [← e]; simp only [sumF]; first | (rw [if_neg h19]; omega) | (rw [if_pos h19]; omega))
  exact lp 6 0 0 (by omega) (by omega) (by unfold inl; omega)

set_option maxRecDepth 100000 in
set_option maxHeartbeats 4000000 in
theorem c_X5_lit {l : Launch} {D : va_G} {ty : Nat → ClassId} {ad : Int → Nat} {N : Int} {σ : Int → va_E} {m : Int} {v s t p x q : Int → Int} (hm : 0 ≤ m ∧ m + 6 ≤ N) (hs : okS s)  : gM0 l yX5_lit cX5_lit 1 (some .double) 3 66 [.ref (ad m)] D ty ad N (mput ad ty σ m (v) (s) (t) (p) (x) (q)) (some (.double (share s))) (mput ad ty σ m (up v 6 0) (s) (t) (p) (x) (q)) := by
  refine gMet_of [some (.ref (ad m))] (by decide +kernel) rfl (Nat.le_of_ble_eq_true rfl) rfl ?_
  intro X hl hD hty C hini
  subst hl hD hty
  refine r_aload_n C dX5_lit_0 rfl rfl ?_
  refine r_iconst C dX5_lit_1 ?_
  refine mm_put (j := 6) C flX5_25 dX5_lit_2 hm (by decide) rfl rfl rfl rfl ?_
  try rw [up_up]
  refine r_aload_n C dX5_lit_5 rfl rfl ?_
  refine r_cV C cwX5_176 (c_X5_share hm hs) dX5_lit_6 rfl (by omega) mput_0 rfl rfl rfl (Nat.le_of_ble_eq_true rfl) ⟨Nat.le_of_ble_eq_true rfl, Nat.le_of_ble_eq_true rfl⟩ ⟨Nat.le_of_ble_eq_true rfl, Nat.le_of_ble_eq_true rfl⟩ ?_
  exact r_dretD C dX5_lit_9 rfl rfl

