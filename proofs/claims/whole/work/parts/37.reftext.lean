/-! the reference: the text of deeds -/

abbrev nOk (len : Int) (x : Int → Int) (p lo hi : Int) : Prop := isDg (cAt len x p) lo hi
abbrev nTwo (len : Int) (x : Int → Int) (p w : Int) : Prop := w = 1 ∧ 48 < cAt len x p ∧ isDg (cAt len x (p + 1)) 0 9
def nEnd (len : Int) (x : Int → Int) (p w : Int) : Int := if nTwo len x p w then p + 2 else p + 1
def nVal (len : Int) (x : Int → Int) (p w : Int) : Int := if nTwo len x p w then 10 * (cAt len x p - 48) + cAt len x (p + 1) - 48 else cAt len x p - 48
theorem sgn_6 {c : Int} : sgn c = 6 ↔ (c ≠ 42 ∧ c ≠ 60 ∧ c ≠ 62 ∧ c ≠ 110 ∧ c ≠ 98 ∧ c ≠ 43) := by
  unfold sgn
  (repeat' split) <;> omega
abbrev pOk (len : Int) (x : Int → Int) (p : Int) : Prop := isDg (cAt len x p) 0 5 ∧ sgn (cAt len x (p + 1)) ≠ 6 ∧ (cAt len x (p + 1) = 98 → nOk len x (p + 2) 1 6) ∧ (cAt len x (p + 1) = 43 → nOk len x (p + 2) 0 9)
def pE (len : Int) (x : Int → Int) (p : Int) : Int := if cAt len x (p + 1) = 98 then nEnd len x (p + 2) 0 else if cAt len x (p + 1) = 43 then nEnd len x (p + 2) 1 else p + 2
def pF (len : Int) (x : Int → Int) (p : Int) : Int := if ¬ isDg (cAt len x p) 0 5 then p else if sgn (cAt len x (p + 1)) = 6 then p + 1 else p + 2
def pQ (len : Int) (x : Int → Int) (p k : Int) (q : Int → Int) : Int → Int := if ¬ isDg (cAt len x p) 0 5 then q else if cAt len x (p + 1) = 98 ∧ nOk len x (p + 2) 1 6 then up (up (up q (3 * k) (cAt len x p - 48)) (3 * k + 1) (cAt len x (p + 1))) (3 * k + 2) (nVal len x (p + 2) 0) else if cAt len x (p + 1) = 43 ∧ nOk len x (p + 2) 0 9 then up (up (up q (3 * k) (cAt len x p - 48)) (3 * k + 1) (cAt len x (p + 1))) (3 * k + 2) (nVal len x (p + 2) 1) else up (up q (3 * k) (cAt len x p - 48)) (3 * k + 1) (cAt len x (p + 1))
def pV (len : Int) (x : Int → Int) (p : Int) (v : Int → Int) : Int → Int := if pOk len x p then up v 7 (pE len x p) else up (up v 7 (pF len x p)) 8 (gB (pF len x p < len))
theorem cAt_in {len : Int} {x : Int → Int} {p : Int} (h : cAt len x p ≠ 0) : 0 ≤ p ∧ p < len := by
  unfold cAt at h
  by_cases c : 0 ≤ p ∧ p < len
  · exact c
  · rw [if_neg c] at h; exact absurd rfl h
theorem cAt_x {len : Int} {x : Int → Int} {p : Int} (h : 0 ≤ p ∧ p < len) : x p = cAt len x p := (if_pos h).symm

set_option maxRecDepth 100000 in
set_option maxHeartbeats 4000000 in
theorem c_X5_isAt {l : Launch} {D : va_G} {ty : Nat → ClassId} {ad : Int → Nat} {N : Int} {σ : Int → va_E} {m : Int} {v s t p x q : Int → Int} {lo hi len p0 : Int} (hm : 0 ≤ m ∧ m + 6 ≤ N) (e5 : v 5 = len) (e7 : v 7 = p0) (hxt : okT len x) (h7 : 0 ≤ p0 ∧ p0 ≤ len) (hlo : 1 ≤ lo ∧ lo < 200) (hhi : 0 ≤ hi ∧ hi < 200) : gM0 l yX5_isAt cX5_isAt 3 (some .boolean) 1 22 [.ref (ad m), .int (gI lo), .int (gI hi)] D ty ad N (mput ad ty σ m (v) (s) (t) (p) (x) (q)) (some (.int (gI (gB (lo ≤ cAt len x p0 ∧ cAt len x p0 ≤ hi))))) (mput ad ty σ m (v) (s) (t) (p) (x) (q)) := by
  refine gMet_of [some (.ref (ad m)), some (.int (gI lo)), some (.int (gI hi))] (by decide +kernel) rfl (Nat.le_of_ble_eq_true rfl) rfl ?_
  intro X hl hD hty C hini
  subst hl hD hty
  subst e5 e7
  have hlen := hxt.1
  have hc0 := cAt_rng hxt (v 7)
  refine r_aload_n C dX5_isAt_0 rfl rfl ?_
  refine mm_get C flX5_116 dX5_isAt_1 hm rfl ?_
  try simp only [up_ap, Int.reduceEq, reduceIte]
  refine r_aload_n C dX5_isAt_4 rfl rfl ?_
  refine mm_get C flX5_113 dX5_isAt_5 hm rfl ?_
  try simp only [up_ap, Int.reduceEq, reduceIte]
  refine r_icmp_ge (tgt := 32) C dX5_isAt_8 (by decide) (by omega) (by omega) (fun h8 => ?_) (fun h8 => ?_)
  · have hz : cAt (v 5) x (v 7) = 0 := if_neg (by omega)
    refine r_iconst C dX5_isAt_32 ?_
    exact r_zretD C dX5_isAt_33 (by omega) (by first | exact (gB_t (by omega)).symm | exact (gB_f (by omega)).symm) rfl
  · refine r_aload_n C dX5_isAt_11 rfl rfl ?_
    refine mm_get C flX5_19 dX5_isAt_12 hm rfl ?_
    refine r_aload_n C dX5_isAt_15 rfl rfl ?_
    refine mm_get C flX5_116 dX5_isAt_16 hm rfl ?_
    try simp only [up_ap, Int.reduceEq, reduceIte]
    refine r_iald C dX5_isAt_19 (by omega) mput_4 (by omega) (by omega) ?_
    rw [cAt_x (len := v 5) (x := x) (p := v 7) (by omega)]
    refine r_iload_n C dX5_isAt_20 rfl rfl ?_
    refine r_iload_n C dX5_isAt_21 rfl rfl ?_
    refine r_cS C cwX5_29 (c_X5_in (by omega) (by omega) (by omega)) dX5_isAt_22 rfl rfl rfl (Nat.le_of_ble_eq_true rfl) ⟨Nat.le_of_ble_eq_true rfl, Nat.le_of_ble_eq_true rfl⟩ ⟨Nat.le_of_ble_eq_true rfl, Nat.le_of_ble_eq_true rfl⟩ ?_
    refine r_ifb_eq (tgt := 32) C dX5_isAt_25 (by decide) (fun h25 => ?_) (fun h25 => ?_)
    · refine r_iconst C dX5_isAt_32 ?_
      exact r_zretD C dX5_isAt_33 (by omega) (by first | exact (gB_t (by omega)).symm | exact (gB_f (by omega)).symm) rfl
    · refine r_iconst C dX5_isAt_28 ?_
      refine r_goto (tgt := 33) C dX5_isAt_29 (by decide) ?_
      exact r_zretD C dX5_isAt_33 (by omega) (by first | exact (gB_t (by omega)).symm | exact (gB_f (by omega)).symm) rfl

set_option maxRecDepth 100000 in
set_option maxHeartbeats 4000000 in
theorem c_X5_stops {l : Launch} {D : va_G} {ty : Nat → ClassId} {ad : Int → Nat} {N : Int} {σ : Int → va_E} {m : Int} {v s t p x q : Int → Int} {len p0 : Int} (hm : 0 ≤ m ∧ m + 6 ≤ N) (e5 : v 5 = len) (e7 : v 7 = p0) (h5 : 0 ≤ len ∧ len ≤ 60) (h7 : 0 ≤ p0 ∧ p0 ≤ 61) : gM0 l yX5_stops cX5_stops 1 (some .boolean) 0 0 [.ref (ad m)] D ty ad N (mput ad ty σ m (v) (s) (t) (p) (x) (q)) (some (.int (gI 0))) (mput ad ty σ m (up v 8 (gB (p0 < len))) (s) (t) (p) (x) (q)) := by
  refine gMet_of [some (.ref (ad m))] (by decide +kernel) rfl (Nat.le_of_ble_eq_true rfl) rfl ?_
  intro X hl hD hty C hini
  subst hl hD hty
  subst e5 e7
  refine r_aload_n C dX5_stops_0 rfl rfl ?_
  refine r_aload_n C dX5_stops_1 rfl rfl ?_
  refine mm_get C flX5_116 dX5_stops_2 hm rfl ?_
  try simp only [up_ap, Int.reduceEq, reduceIte]
  refine r_aload_n C dX5_stops_5 rfl rfl ?_
  refine mm_get C flX5_113 dX5_stops_6 hm rfl ?_
  try simp only [up_ap, Int.reduceEq, reduceIte]
  refine r_icmp_ge (tgt := 16) C dX5_stops_9 (by decide) (by omega) (by omega) (fun h9 => ?_) (fun h9 => ?_)
  · refine r_iconst C dX5_stops_16 ?_
    refine mm_put (j := 8) C flX5_119 dX5_stops_17 hm (by decide) rfl rfl (gI_z (by omega)) (gI_f (by omega)) ?_
    try rw [up_up]
    refine r_iconst C dX5_stops_20 ?_
    exact r_zretD C dX5_stops_21 (by omega) rfl (by first | rw [gB_t (show v 7 < v 5 by omega)] | rw [gB_f (show ¬ v 7 < v 5 by omega)])
  · refine r_iconst C dX5_stops_12 ?_
    refine r_goto (tgt := 17) C dX5_stops_13 (by decide) ?_
    refine mm_put (j := 8) C flX5_119 dX5_stops_17 hm (by decide) rfl rfl (gI_z (by omega)) (gI_f (by omega)) ?_
    try rw [up_up]
    refine r_iconst C dX5_stops_20 ?_
    exact r_zretD C dX5_stops_21 (by omega) rfl (by first | rw [gB_t (show v 7 < v 5 by omega)] | rw [gB_f (show ¬ v 7 < v 5 by omega)])

set_option maxRecDepth 100000 in
set_option maxHeartbeats 4000000 in
theorem c_X5_isNumber {l : Launch} {D : va_G} {ty : Nat → ClassId} {ad : Int → Nat} {N : Int} {σ : Int → va_E} {m : Int} {v s t p x q : Int → Int} {lo hi w len p0 k : Int} (hm : 0 ≤ m ∧ m + 6 ≤ N) (e5 : v 5 = len) (e7 : v 7 = p0) (ek : v 10 = k) (hxt : okT len x) (h7 : 0 ≤ p0 ∧ p0 ≤ len) (hk : 0 ≤ k ∧ k ≤ 20) (hlh : 0 ≤ lo ∧ lo ≤ hi ∧ hi ≤ 9) (hw : w = 0 ∨ w = 1) : gM0 l yX5_isNumber cX5_isNumber 5 (some .boolean) 2 44 [.ref (ad m), .int (gI lo), .int (gI hi), .int (gI w)] D ty ad N (mput ad ty σ m (v) (s) (t) (p) (x) (q)) (some (.int (gI (gB (nOk len x p0 lo hi))))) (mput ad ty σ m (if nOk len x p0 lo hi then up v 7 (nEnd len x p0 w) else up v 8 (gB (p0 < len))) (s) (t) (p) (x) (if nOk len x p0 lo hi then up q (3 * k + 2) (nVal len x p0 w) else q)) := by
  refine gMet_of [some (.ref (ad m)), some (.int (gI lo)), some (.int (gI hi)), some (.int (gI w)), none] (by decide +kernel) rfl (Nat.le_of_ble_eq_true rfl) rfl ?_
  intro X hl hD hty C hini
  subst hl hD hty
  subst e5 e7 ek
  have hlen := hxt.1
  have hc0 := cAt_rng hxt (v 7)
  have hc1 := cAt_rng hxt (v 7 + 1)
  refine r_aload_n C dX5_isNumber_0 rfl rfl ?_
  refine r_bipush C dX5_isNumber_1 (by decide) ?_
  refine r_iload_n C dX5_isNumber_3 rfl rfl ?_
  refine r_iadd C dX5_isNumber_4 ?_
  refine r_bipush C dX5_isNumber_5 (by decide) ?_
  refine r_iload_n C dX5_isNumber_7 rfl rfl ?_
  refine r_iadd C dX5_isNumber_8 ?_
  refine r_cV C cwX5_123 (c_X5_isAt (len := v 5) (p0 := v 7) hm (by first | rfl | simp only [up_ap, Int.reduceEq, reduceIte]) (by first | rfl | simp only [up_ap, Int.reduceEq, reduceIte]) hxt (by omega) (by omega) (by omega)) dX5_isNumber_9 rfl (by omega) mput_0 rfl rfl rfl (Nat.le_of_ble_eq_true rfl) ⟨Nat.le_of_ble_eq_true rfl, Nat.le_of_ble_eq_true rfl⟩ ⟨Nat.le_of_ble_eq_true rfl, Nat.le_of_ble_eq_true rfl⟩ ?_
  refine r_ifb_ne (tgt := 20) C dX5_isNumber_12 (by decide) (fun h12 => ?_) (fun h12 => ?_)
  · have hin := cAt_in (len := v 5) (x := x) (p := v 7) (by omega)
    refine r_aload_n C dX5_isNumber_20 rfl rfl ?_
    refine mm_get C flX5_19 dX5_isNumber_21 hm rfl ?_
    refine r_aload_n C dX5_isNumber_24 rfl rfl ?_
    refine mm_get C flX5_116 dX5_isNumber_25 hm rfl ?_
    try simp only [up_ap, Int.reduceEq, reduceIte]
    refine r_iald C dX5_isNumber_28 (by omega) mput_4 (by omega) (by omega) ?_
    rw [cAt_x (len := v 5) (x := x) (p := v 7) (by omega)]
    refine r_bipush C dX5_isNumber_29 (by decide) ?_
    refine r_isub C dX5_isNumber_31 ?_
    refine r_istore C dX5_isNumber_32 (Nat.le_of_ble_eq_true rfl) rfl ?_
    dsimp only [List.set]
    refine r_aload_n C dX5_isNumber_34 rfl rfl ?_
    refine r_dup C dX5_isNumber_35 rfl ?_
    refine mm_get C flX5_116 dX5_isNumber_36 hm rfl ?_
    try simp only [up_ap, Int.reduceEq, reduceIte]
    refine r_iconst C dX5_isNumber_39 ?_
    refine r_iadd C dX5_isNumber_40 ?_
    refine mm_put (j := 7) C flX5_116 dX5_isNumber_41 hm (by decide) rfl rfl rfl rfl ?_
    try rw [up_up]
    refine r_iload_n C dX5_isNumber_44 rfl rfl ?_
    refine r_if_eq (tgt := 94) C dX5_isNumber_45 (by decide) (by omega) (fun h45 => ?_) (fun h45 => ?_)
    · refine r_aload_n C dX5_isNumber_94 rfl rfl ?_
      refine mm_get C flX5_22 dX5_isNumber_95 hm rfl ?_
      refine r_iconst C dX5_isNumber_98 ?_
      refine r_aload_n C dX5_isNumber_99 rfl rfl ?_
      refine mm_get C flX5_131 dX5_isNumber_100 hm rfl ?_
      try simp only [up_ap, Int.reduceEq, reduceIte]
      refine r_imul C dX5_isNumber_103 ?_
      refine r_iconst C dX5_isNumber_104 ?_
      refine r_iadd C dX5_isNumber_105 ?_
      refine r_iload C dX5_isNumber_106 rfl ?_
      refine r_iast C dX5_isNumber_108 (by omega) mput_5 (by omega) (by omega) ?_
      rw [mput_u5]
      refine r_iconst C dX5_isNumber_109 ?_
      exact r_zretD C dX5_isNumber_110 (by omega) (gB_t h12).symm (by rw [if_pos h12, if_pos h12]; unfold nEnd nVal; first | (have hT : ¬ nTwo (v 5) x (v 7) w := (by unfold nTwo isDg; omega); rw [if_neg hT, if_neg hT]; done) | (have hT : nTwo (v 5) x (v 7) w := (by unfold nTwo isDg; omega); rw [if_pos hT, if_pos hT, show v 7 + 1 + 1 = v 7 + 2 by omega]))
    · refine r_iload C dX5_isNumber_48 rfl ?_
      refine r_if_le (tgt := 94) C dX5_isNumber_50 (by decide) (by omega) (fun h50 => ?_) (fun h50 => ?_)
      · refine r_aload_n C dX5_isNumber_94 rfl rfl ?_
        refine mm_get C flX5_22 dX5_isNumber_95 hm rfl ?_
        refine r_iconst C dX5_isNumber_98 ?_
        refine r_aload_n C dX5_isNumber_99 rfl rfl ?_
        refine mm_get C flX5_131 dX5_isNumber_100 hm rfl ?_
        try simp only [up_ap, Int.reduceEq, reduceIte]
        refine r_imul C dX5_isNumber_103 ?_
        refine r_iconst C dX5_isNumber_104 ?_
        refine r_iadd C dX5_isNumber_105 ?_
        refine r_iload C dX5_isNumber_106 rfl ?_
        refine r_iast C dX5_isNumber_108 (by omega) mput_5 (by omega) (by omega) ?_
        rw [mput_u5]
        refine r_iconst C dX5_isNumber_109 ?_
        exact r_zretD C dX5_isNumber_110 (by omega) (gB_t h12).symm (by rw [if_pos h12, if_pos h12]; unfold nEnd nVal; first | (have hT : ¬ nTwo (v 5) x (v 7) w := (by unfold nTwo isDg; omega); rw [if_neg hT, if_neg hT]; done) | (have hT : nTwo (v 5) x (v 7) w := (by unfold nTwo isDg; omega); rw [if_pos hT, if_pos hT, show v 7 + 1 + 1 = v 7 + 2 by omega]))
      · refine r_aload_n C dX5_isNumber_53 rfl rfl ?_
        refine r_bipush C dX5_isNumber_54 (by decide) ?_
        refine r_bipush C dX5_isNumber_56 (by decide) ?_
        refine r_cV C cwX5_123 (c_X5_isAt (len := v 5) (p0 := v 7 + 1) hm (by first | rfl | simp only [up_ap, Int.reduceEq, reduceIte]) (by first | rfl | simp only [up_ap, Int.reduceEq, reduceIte]) hxt (by omega) (by omega) (by omega)) dX5_isNumber_58 rfl (by omega) mput_0 rfl rfl rfl (Nat.le_of_ble_eq_true rfl) ⟨Nat.le_of_ble_eq_true rfl, Nat.le_of_ble_eq_true rfl⟩ ⟨Nat.le_of_ble_eq_true rfl, Nat.le_of_ble_eq_true rfl⟩ ?_
        refine r_ifb_eq (tgt := 94) C dX5_isNumber_61 (by decide) (fun h61 => ?_) (fun h61 => ?_)
        · refine r_aload_n C dX5_isNumber_94 rfl rfl ?_
          refine mm_get C flX5_22 dX5_isNumber_95 hm rfl ?_
          refine r_iconst C dX5_isNumber_98 ?_
          refine r_aload_n C dX5_isNumber_99 rfl rfl ?_
          refine mm_get C flX5_131 dX5_isNumber_100 hm rfl ?_
          try simp only [up_ap, Int.reduceEq, reduceIte]
          refine r_imul C dX5_isNumber_103 ?_
          refine r_iconst C dX5_isNumber_104 ?_
          refine r_iadd C dX5_isNumber_105 ?_
          refine r_iload C dX5_isNumber_106 rfl ?_
          refine r_iast C dX5_isNumber_108 (by omega) mput_5 (by omega) (by omega) ?_
          rw [mput_u5]
          refine r_iconst C dX5_isNumber_109 ?_
          exact r_zretD C dX5_isNumber_110 (by omega) (gB_t h12).symm (by rw [if_pos h12, if_pos h12]; unfold nEnd nVal; first | (have hT : ¬ nTwo (v 5) x (v 7) w := (by unfold nTwo isDg; omega); rw [if_neg hT, if_neg hT]; done) | (have hT : nTwo (v 5) x (v 7) w := (by unfold nTwo isDg; omega); rw [if_pos hT, if_pos hT, show v 7 + 1 + 1 = v 7 + 2 by omega]))
        · have hin1 := cAt_in (len := v 5) (x := x) (p := v 7 + 1) (by omega)
          refine r_bipush C dX5_isNumber_64 (by decide) ?_
          refine r_iload C dX5_isNumber_66 rfl ?_
          refine r_imul C dX5_isNumber_68 ?_
          refine r_aload_n C dX5_isNumber_69 rfl rfl ?_
          refine mm_get C flX5_19 dX5_isNumber_70 hm rfl ?_
          refine r_aload_n C dX5_isNumber_73 rfl rfl ?_
          refine mm_get C flX5_116 dX5_isNumber_74 hm rfl ?_
          try simp only [up_ap, Int.reduceEq, reduceIte]
          refine r_iald C dX5_isNumber_77 (by omega) mput_4 (by omega) (by omega) ?_
          rw [cAt_x (len := v 5) (x := x) (p := v 7 + 1) (by omega)]
          refine r_iadd C dX5_isNumber_78 ?_
          refine r_bipush C dX5_isNumber_79 (by decide) ?_
          refine r_isub C dX5_isNumber_81 ?_
          refine r_istore C dX5_isNumber_82 (Nat.le_of_ble_eq_true rfl) rfl ?_
          dsimp only [List.set]
          refine r_aload_n C dX5_isNumber_84 rfl rfl ?_
          refine r_dup C dX5_isNumber_85 rfl ?_
          refine mm_get C flX5_116 dX5_isNumber_86 hm rfl ?_
          try simp only [up_ap, Int.reduceEq, reduceIte]
          refine r_iconst C dX5_isNumber_89 ?_
          refine r_iadd C dX5_isNumber_90 ?_
          refine mm_put (j := 7) C flX5_116 dX5_isNumber_91 hm (by decide) rfl rfl rfl rfl ?_
          try rw [up_up]
          refine r_aload_n C dX5_isNumber_94 rfl rfl ?_
          refine mm_get C flX5_22 dX5_isNumber_95 hm rfl ?_
          refine r_iconst C dX5_isNumber_98 ?_
          refine r_aload_n C dX5_isNumber_99 rfl rfl ?_
          refine mm_get C flX5_131 dX5_isNumber_100 hm rfl ?_
          try simp only [up_ap, Int.reduceEq, reduceIte]
          refine r_imul C dX5_isNumber_103 ?_
          refine r_iconst C dX5_isNumber_104 ?_
          refine r_iadd C dX5_isNumber_105 ?_
          refine r_iload C dX5_isNumber_106 rfl ?_
          refine r_iast C dX5_isNumber_108 (by omega) mput_5 (by omega) (by omega) ?_
          rw [mput_u5]
          refine r_iconst C dX5_isNumber_109 ?_
          exact r_zretD C dX5_isNumber_110 (by omega) (gB_t h12).symm (by rw [if_pos h12, if_pos h12]; unfold nEnd nVal; first | (have hT : ¬ nTwo (v 5) x (v 7) w := (by unfold nTwo isDg; omega); rw [if_neg hT, if_neg hT]; done) | (have hT : nTwo (v 5) x (v 7) w := (by unfold nTwo isDg; omega); rw [if_pos hT, if_pos hT, show v 7 + 1 + 1 = v 7 + 2 by omega]))
  · refine r_aload_n C dX5_isNumber_15 rfl rfl ?_
    refine r_cV C cwX5_127 (c_X5_stops (len := v 5) (p0 := v 7) hm (by first | rfl | simp only [up_ap, Int.reduceEq, reduceIte]) (by first | rfl | simp only [up_ap, Int.reduceEq, reduceIte]) hlen (by omega)) dX5_isNumber_16 rfl (by omega) mput_0 rfl rfl rfl (Nat.le_of_ble_eq_true rfl) ⟨Nat.le_of_ble_eq_true rfl, Nat.le_of_ble_eq_true rfl⟩ ⟨Nat.le_of_ble_eq_true rfl, Nat.le_of_ble_eq_true rfl⟩ ?_
    exact r_zretD C dX5_isNumber_19 (by omega) (gB_f h12).symm (by rw [if_neg h12, if_neg h12])

section PART
variable {len p k : Int} {x v q : Int → Int}
theorem part_0 (h : ¬ isDg (cAt len x p) 0 5) (h7 : v 7 = p) : pV len x p v = up v 8 (gB (p < len)) ∧ pQ len x p k q = q ∧ gB (pOk len x p) = 0 := by
  have hn : ¬ pOk len x p := fun q => h q.1
  refine ⟨?_, if_pos h, gB_f hn⟩
  unfold pV
  rw [if_neg hn, show pF len x p = p from if_pos h, up_id h7]
theorem part_1 (h : isDg (cAt len x p) 0 5) (h2 : sgn (cAt len x (p + 1)) = 6) : pV len x p v = up (up v 7 (p + 1)) 8 (gB (p + 1 < len)) ∧ pQ len x p k q = up (up q (3 * k) (cAt len x p - 48)) (3 * k + 1) (cAt len x (p + 1)) ∧ gB (pOk len x p) = 0 := by
  have hn : ¬ pOk len x p := fun q => q.2.1 h2
  have h6 := sgn_6.mp h2
  have hf : pF len x p = p + 1 := by unfold pF; rw [if_neg (fun c => c h), if_pos h2]
  refine ⟨?_, ?_, gB_f hn⟩
  · unfold pV; rw [if_neg hn, hf]
  · unfold pQ; rw [if_neg (fun c => c h), if_neg (fun c => h6.2.2.2.2.1 c.1), if_neg (fun c => h6.2.2.2.2.2 c.1)]
theorem part_2 (h : isDg (cAt len x p) 0 5) (h2 : sgn (cAt len x (p + 1)) ≠ 6) (h3 : cAt len x (p + 1) ≠ 98 ∧ cAt len x (p + 1) ≠ 43) : pV len x p v = up v 7 (p + 2) ∧ pQ len x p k q = up (up q (3 * k) (cAt len x p - 48)) (3 * k + 1) (cAt len x (p + 1)) ∧ gB (pOk len x p) = 1 := by
  have hn : pOk len x p := ⟨h, h2, fun c => absurd c h3.1, fun c => absurd c h3.2⟩
  refine ⟨?_, ?_, gB_t hn⟩
  · unfold pV; rw [if_pos hn]; unfold pE; rw [if_neg h3.1, if_neg h3.2]
  · unfold pQ; rw [if_neg (fun c => c h), if_neg (fun c => h3.1 c.1), if_neg (fun c => h3.2 c.1)]
theorem part_3 (h : isDg (cAt len x p) 0 5) (h3 : cAt len x (p + 1) = 98) : pV len x p v = (if nOk len x (p + 2) 1 6 then up v 7 (nEnd len x (p + 2) 0) else up (up v 7 (p + 2)) 8 (gB (p + 2 < len))) ∧ pQ len x p k q = (if nOk len x (p + 2) 1 6 then up (up (up q (3 * k) (cAt len x p - 48)) (3 * k + 1) (cAt len x (p + 1))) (3 * k + 2) (nVal len x (p + 2) 0) else up (up q (3 * k) (cAt len x p - 48)) (3 * k + 1) (cAt len x (p + 1))) ∧ gB (pOk len x p) = gB (nOk len x (p + 2) 1 6) := by
  have h2 : sgn (cAt len x (p + 1)) ≠ 6 := fun c => (sgn_6.mp c).2.2.2.2.1 h3
  by_cases hc : nOk len x (p + 2) 1 6
  · have hn : pOk len x p := ⟨h, h2, fun _ => hc, fun c => by rw [h3] at c; exact absurd c (by decide)⟩
    rw [if_pos hc, if_pos hc, gB_t hc]
    refine ⟨?_, ?_, gB_t hn⟩
    · unfold pV; rw [if_pos hn]; unfold pE; rw [if_pos h3]
    · unfold pQ; rw [if_neg (fun c => c h), if_pos ⟨h3, hc⟩]
  · have hn : ¬ pOk len x p := fun c => hc (c.2.2.1 h3)
    rw [if_neg hc, if_neg hc, gB_f hc]
    refine ⟨?_, ?_, gB_f hn⟩
    · unfold pV; rw [if_neg hn, show pF len x p = p + 2 by unfold pF; rw [if_neg (fun c => c h), if_neg h2]]
    · unfold pQ; rw [if_neg (fun c => c h), if_neg (fun c => hc c.2), if_neg (fun c => by rw [h3] at c; exact absurd c.1 (by decide))]
theorem part_4 (h : isDg (cAt len x p) 0 5) (h3 : cAt len x (p + 1) = 43) : pV len x p v = (if nOk len x (p + 2) 0 9 then up v 7 (nEnd len x (p + 2) 1) else up (up v 7 (p + 2)) 8 (gB (p + 2 < len))) ∧ pQ len x p k q = (if nOk len x (p + 2) 0 9 then up (up (up q (3 * k) (cAt len x p - 48)) (3 * k + 1) (cAt len x (p + 1))) (3 * k + 2) (nVal len x (p + 2) 1) else up (up q (3 * k) (cAt len x p - 48)) (3 * k + 1) (cAt len x (p + 1))) ∧ gB (pOk len x p) = gB (nOk len x (p + 2) 0 9) := by
  have h2 : sgn (cAt len x (p + 1)) ≠ 6 := fun c => (sgn_6.mp c).2.2.2.2.2 h3
  have h98 : cAt len x (p + 1) ≠ 98 := fun c => by rw [h3] at c; exact absurd c (by decide)
  by_cases hc : nOk len x (p + 2) 0 9
  · have hn : pOk len x p := ⟨h, h2, fun c => absurd c h98, fun _ => hc⟩
    rw [if_pos hc, if_pos hc, gB_t hc]
    refine ⟨?_, ?_, gB_t hn⟩
    · unfold pV; rw [if_pos hn]; unfold pE; rw [if_neg h98, if_pos h3]
    · unfold pQ; rw [if_neg (fun c => c h), if_neg (fun c => h98 c.1), if_pos ⟨h3, hc⟩]
  · have hn : ¬ pOk len x p := fun c => hc (c.2.2.2 h3)
    rw [if_neg hc, if_neg hc, gB_f hc]
    refine ⟨?_, ?_, gB_f hn⟩
    · unfold pV; rw [if_neg hn, show pF len x p = p + 2 by unfold pF; rw [if_neg (fun c => c h), if_neg h2]]
    · unfold pQ; rw [if_neg (fun c => c h), if_neg (fun c => h98 c.1), if_neg (fun c => hc c.2)]
end PART

theorem gB_01 (p : Prop) [Decidable p] : gB p = 0 ∨ gB p = 1 := by have := gB_rng p; omega

set_option maxRecDepth 100000 in
set_option maxHeartbeats 4000000 in
theorem c_X5_isPart {l : Launch} {D : va_G} {ty : Nat → ClassId} {ad : Int → Nat} {N : Int} {σ : Int → va_E} {m : Int} {v s t p x q : Int → Int} {len p0 k : Int} (hm : 0 ≤ m ∧ m + 6 ≤ N) (e5 : v 5 = len) (e7 : v 7 = p0) (ek : v 10 = k) (hxt : okT len x) (h7 : 0 ≤ p0 ∧ p0 ≤ len) (hk : 0 ≤ k ∧ 3 * k ≤ p0) : gM0 l yX5_isPart cX5_isPart 2 (some .boolean) 3 68 [.ref (ad m)] D ty ad N (mput ad ty σ m (v) (s) (t) (p) (x) (q)) (some (.int (gI (gB (pOk len x p0))))) (mput ad ty σ m (pV len x p0 v) (s) (t) (p) (x) (pQ len x p0 k q)) := by
  refine gMet_of [some (.ref (ad m)), none] (by decide +kernel) rfl (Nat.le_of_ble_eq_true rfl) rfl ?_
  intro X hl hD hty C hini
  subst hl hD hty
  subst e5 e7 ek
  have hlen := hxt.1
  have hc0 := cAt_rng hxt (v 7)
  have hc1 := cAt_rng hxt (v 7 + 1)
  have hs6 := sgn_6 (c := cAt (v 5) x (v 7 + 1))
  refine r_aload_n C dX5_isPart_0 rfl rfl ?_
  refine r_bipush C dX5_isPart_1 (by decide) ?_
  refine r_bipush C dX5_isPart_3 (by decide) ?_
  refine r_cV C cwX5_123 (c_X5_isAt (len := v 5) (p0 := v 7) hm (by first | rfl | simp only [up_ap, Int.reduceEq, reduceIte]) (by first | rfl | simp only [up_ap, Int.reduceEq, reduceIte]) hxt (by omega) (by omega) (by omega)) dX5_isPart_5 rfl (by omega) mput_0 rfl rfl rfl (Nat.le_of_ble_eq_true rfl) ⟨Nat.le_of_ble_eq_true rfl, Nat.le_of_ble_eq_true rfl⟩ ⟨Nat.le_of_ble_eq_true rfl, Nat.le_of_ble_eq_true rfl⟩ ?_
  refine r_ifb_ne (tgt := 16) C dX5_isPart_8 (by decide) (fun h8 => ?_) (fun h8 => ?_)
  · have hd : isDg (cAt (v 5) x (v 7)) 0 5 := h8
    have hin := cAt_in (len := v 5) (x := x) (p := v 7) (by omega)
    have l129 : sgn (cAt (v 5) x (v 7 + 1)) ≠ 6 → V X 0 0 (gQ X (gD (some (.int (gI (gB (pOk (v 5) x (v 7)))))) ad N (mput ad (gty X) σ m (pV (v 5) x (v 7) v) (s) (t) (p) (x) (pQ (v 5) x (v 7) (v 10) q))) 0 0) 129 [some (.ref (ad m)), some (.int (gI (cAt (v 5) x (v 7 + 1))))] [] ad N (mput ad (gty X) σ m (up v 7 (v 7 + 1)) (s) (t) (p) (x) (up (up q (3 * v 10) (cAt (v 5) x (v 7) - 48)) (3 * v 10 + 1) (cAt (v 5) x (v 7 + 1)))) := by
      intro hs2
      have hin1 := cAt_in (len := v 5) (x := x) (p := v 7 + 1) (fun c => hs2 (hs6.mpr (by omega)))
      refine r_aload_n C dX5_isPart_129 rfl rfl ?_
      refine r_dup C dX5_isPart_130 rfl ?_
      refine mm_get C flX5_116 dX5_isPart_131 hm rfl ?_
      try simp only [up_ap, Int.reduceEq, reduceIte]
      refine r_iconst C dX5_isPart_134 ?_
      refine r_iadd C dX5_isPart_135 ?_
      refine mm_put (j := 7) C flX5_116 dX5_isPart_136 hm (by decide) rfl rfl rfl rfl ?_
      try rw [up_up]
      rw [show v 7 + 1 + 1 = v 7 + 2 by omega]
      refine r_iload_n C dX5_isPart_139 rfl rfl ?_
      refine r_bipush C dX5_isPart_140 (by decide) ?_
      refine r_icmp_eq (tgt := 151) C dX5_isPart_142 (by decide) (by omega) (by omega) (fun h142 => ?_) (fun h142 => ?_)
      · first
        | (exfalso; omega)
        | refine r_aload_n C dX5_isPart_151 rfl rfl ?_
          refine r_iload_n C dX5_isPart_152 rfl rfl ?_
          refine r_bipush C dX5_isPart_153 (by decide) ?_
          refine r_icmp_ne (tgt := 162) C dX5_isPart_155 (by decide) (by omega) (by omega) (fun h155 => ?_) (fun h155 => ?_)
          · first
            | (exfalso; omega)
            | refine r_iconst C dX5_isPart_162 ?_
              refine r_iload_n C dX5_isPart_163 rfl rfl ?_
              refine r_bipush C dX5_isPart_164 (by decide) ?_
              refine r_icmp_ne (tgt := 174) C dX5_isPart_166 (by decide) (by omega) (by omega) (fun h166 => ?_) (fun h166 => ?_)
              · first
                | (exfalso; omega)
                | refine r_bipush C dX5_isPart_174 (by decide) ?_
                  refine r_iload_n C dX5_isPart_176 rfl rfl ?_
                  refine r_bipush C dX5_isPart_177 (by decide) ?_
                  refine r_icmp_ne (tgt := 186) C dX5_isPart_179 (by decide) (by omega) (by omega) (fun h179 => ?_) (fun h179 => ?_)
                  · first
                    | (exfalso; omega)
                    | refine r_iconst C dX5_isPart_186 ?_
                      refine r_cV C cwX5_134 (c_X5_isNumber (len := v 5) (p0 := v 7 + 2) (k := v 10) hm (by first | rfl | simp only [up_ap, Int.reduceEq, reduceIte]) (by first | rfl | simp only [up_ap, Int.reduceEq, reduceIte]) (by first | rfl | simp only [up_ap, Int.reduceEq, reduceIte]) hxt (by omega) (by omega) (by omega) (by omega)) dX5_isPart_187 rfl (by omega) mput_0 rfl rfl rfl (Nat.le_of_ble_eq_true rfl) ⟨Nat.le_of_ble_eq_true rfl, Nat.le_of_ble_eq_true rfl⟩ ⟨Nat.le_of_ble_eq_true rfl, Nat.le_of_ble_eq_true rfl⟩ ?_
                      exact r_zretD C dX5_isPart_190 (by first | omega | exact gB_01 _) (by first | exact ((part_3 (v := v) (q := q) (k := v 10) hd (by omega))).2.2.symm | exact ((part_4 (v := v) (q := q) (k := v 10) hd (by omega))).2.2.symm) (by first | (have z := (part_3 (v := v) (q := q) (k := v 10) hd (by omega)); rw [z.1, z.2.1, up_up]; done) | (have z := (part_4 (v := v) (q := q) (k := v 10) hd (by omega)); rw [z.1, z.2.1, up_up]; done))
                  · first
                    | (exfalso; omega)
                    | refine r_iconst C dX5_isPart_182 ?_
                      refine r_goto (tgt := 187) C dX5_isPart_183 (by decide) ?_
                      refine r_cV C cwX5_134 (c_X5_isNumber (len := v 5) (p0 := v 7 + 2) (k := v 10) hm (by first | rfl | simp only [up_ap, Int.reduceEq, reduceIte]) (by first | rfl | simp only [up_ap, Int.reduceEq, reduceIte]) (by first | rfl | simp only [up_ap, Int.reduceEq, reduceIte]) hxt (by omega) (by omega) (by omega) (by omega)) dX5_isPart_187 rfl (by omega) mput_0 rfl rfl rfl (Nat.le_of_ble_eq_true rfl) ⟨Nat.le_of_ble_eq_true rfl, Nat.le_of_ble_eq_true rfl⟩ ⟨Nat.le_of_ble_eq_true rfl, Nat.le_of_ble_eq_true rfl⟩ ?_
                      exact r_zretD C dX5_isPart_190 (by first | omega | exact gB_01 _) (by first | exact ((part_3 (v := v) (q := q) (k := v 10) hd (by omega))).2.2.symm | exact ((part_4 (v := v) (q := q) (k := v 10) hd (by omega))).2.2.symm) (by first | (have z := (part_3 (v := v) (q := q) (k := v 10) hd (by omega)); rw [z.1, z.2.1, up_up]; done) | (have z := (part_4 (v := v) (q := q) (k := v 10) hd (by omega)); rw [z.1, z.2.1, up_up]; done))
              · first
                | (exfalso; omega)
                | refine r_bipush C dX5_isPart_169 (by decide) ?_
                  refine r_goto (tgt := 176) C dX5_isPart_171 (by decide) ?_
                  refine r_iload_n C dX5_isPart_176 rfl rfl ?_
                  refine r_bipush C dX5_isPart_177 (by decide) ?_
                  refine r_icmp_ne (tgt := 186) C dX5_isPart_179 (by decide) (by omega) (by omega) (fun h179 => ?_) (fun h179 => ?_)
                  · first
                    | (exfalso; omega)
                    | refine r_iconst C dX5_isPart_186 ?_
                      refine r_cV C cwX5_134 (c_X5_isNumber (len := v 5) (p0 := v 7 + 2) (k := v 10) hm (by first | rfl | simp only [up_ap, Int.reduceEq, reduceIte]) (by first | rfl | simp only [up_ap, Int.reduceEq, reduceIte]) (by first | rfl | simp only [up_ap, Int.reduceEq, reduceIte]) hxt (by omega) (by omega) (by omega) (by omega)) dX5_isPart_187 rfl (by omega) mput_0 rfl rfl rfl (Nat.le_of_ble_eq_true rfl) ⟨Nat.le_of_ble_eq_true rfl, Nat.le_of_ble_eq_true rfl⟩ ⟨Nat.le_of_ble_eq_true rfl, Nat.le_of_ble_eq_true rfl⟩ ?_
                      exact r_zretD C dX5_isPart_190 (by first | omega | exact gB_01 _) (by first | exact ((part_3 (v := v) (q := q) (k := v 10) hd (by omega))).2.2.symm | exact ((part_4 (v := v) (q := q) (k := v 10) hd (by omega))).2.2.symm) (by first | (have z := (part_3 (v := v) (q := q) (k := v 10) hd (by omega)); rw [z.1, z.2.1, up_up]; done) | (have z := (part_4 (v := v) (q := q) (k := v 10) hd (by omega)); rw [z.1, z.2.1, up_up]; done))
                  · first
                    | (exfalso; omega)
                    | refine r_iconst C dX5_isPart_182 ?_
                      refine r_goto (tgt := 187) C dX5_isPart_183 (by decide) ?_
                      refine r_cV C cwX5_134 (c_X5_isNumber (len := v 5) (p0 := v 7 + 2) (k := v 10) hm (by first | rfl | simp only [up_ap, Int.reduceEq, reduceIte]) (by first | rfl | simp only [up_ap, Int.reduceEq, reduceIte]) (by first | rfl | simp only [up_ap, Int.reduceEq, reduceIte]) hxt (by omega) (by omega) (by omega) (by omega)) dX5_isPart_187 rfl (by omega) mput_0 rfl rfl rfl (Nat.le_of_ble_eq_true rfl) ⟨Nat.le_of_ble_eq_true rfl, Nat.le_of_ble_eq_true rfl⟩ ⟨Nat.le_of_ble_eq_true rfl, Nat.le_of_ble_eq_true rfl⟩ ?_
                      exact r_zretD C dX5_isPart_190 (by first | omega | exact gB_01 _) (by first | exact ((part_3 (v := v) (q := q) (k := v 10) hd (by omega))).2.2.symm | exact ((part_4 (v := v) (q := q) (k := v 10) hd (by omega))).2.2.symm) (by first | (have z := (part_3 (v := v) (q := q) (k := v 10) hd (by omega)); rw [z.1, z.2.1, up_up]; done) | (have z := (part_4 (v := v) (q := q) (k := v 10) hd (by omega)); rw [z.1, z.2.1, up_up]; done))
          · first
            | (exfalso; omega)
            | refine r_iconst C dX5_isPart_158 ?_
              refine r_goto (tgt := 163) C dX5_isPart_159 (by decide) ?_
              refine r_iload_n C dX5_isPart_163 rfl rfl ?_
              refine r_bipush C dX5_isPart_164 (by decide) ?_
              refine r_icmp_ne (tgt := 174) C dX5_isPart_166 (by decide) (by omega) (by omega) (fun h166 => ?_) (fun h166 => ?_)
              · first
                | (exfalso; omega)
                | refine r_bipush C dX5_isPart_174 (by decide) ?_
                  refine r_iload_n C dX5_isPart_176 rfl rfl ?_
                  refine r_bipush C dX5_isPart_177 (by decide) ?_
                  refine r_icmp_ne (tgt := 186) C dX5_isPart_179 (by decide) (by omega) (by omega) (fun h179 => ?_) (fun h179 => ?_)
                  · first
                    | (exfalso; omega)
                    | refine r_iconst C dX5_isPart_186 ?_
                      refine r_cV C cwX5_134 (c_X5_isNumber (len := v 5) (p0 := v 7 + 2) (k := v 10) hm (by first | rfl | simp only [up_ap, Int.reduceEq, reduceIte]) (by first | rfl | simp only [up_ap, Int.reduceEq, reduceIte]) (by first | rfl | simp only [up_ap, Int.reduceEq, reduceIte]) hxt (by omega) (by omega) (by omega) (by omega)) dX5_isPart_187 rfl (by omega) mput_0 rfl rfl rfl (Nat.le_of_ble_eq_true rfl) ⟨Nat.le_of_ble_eq_true rfl, Nat.le_of_ble_eq_true rfl⟩ ⟨Nat.le_of_ble_eq_true rfl, Nat.le_of_ble_eq_true rfl⟩ ?_
                      exact r_zretD C dX5_isPart_190 (by first | omega | exact gB_01 _) (by first | exact ((part_3 (v := v) (q := q) (k := v 10) hd (by omega))).2.2.symm | exact ((part_4 (v := v) (q := q) (k := v 10) hd (by omega))).2.2.symm) (by first | (have z := (part_3 (v := v) (q := q) (k := v 10) hd (by omega)); rw [z.1, z.2.1, up_up]; done) | (have z := (part_4 (v := v) (q := q) (k := v 10) hd (by omega)); rw [z.1, z.2.1, up_up]; done))
                  · first
                    | (exfalso; omega)
                    | refine r_iconst C dX5_isPart_182 ?_
                      refine r_goto (tgt := 187) C dX5_isPart_183 (by decide) ?_
                      refine r_cV C cwX5_134 (c_X5_isNumber (len := v 5) (p0 := v 7 + 2) (k := v 10) hm (by first | rfl | simp only [up_ap, Int.reduceEq, reduceIte]) (by first | rfl | simp only [up_ap, Int.reduceEq, reduceIte]) (by first | rfl | simp only [up_ap, Int.reduceEq, reduceIte]) hxt (by omega) (by omega) (by omega) (by omega)) dX5_isPart_187 rfl (by omega) mput_0 rfl rfl rfl (Nat.le_of_ble_eq_true rfl) ⟨Nat.le_of_ble_eq_true rfl, Nat.le_of_ble_eq_true rfl⟩ ⟨Nat.le_of_ble_eq_true rfl, Nat.le_of_ble_eq_true rfl⟩ ?_
                      exact r_zretD C dX5_isPart_190 (by first | omega | exact gB_01 _) (by first | exact ((part_3 (v := v) (q := q) (k := v 10) hd (by omega))).2.2.symm | exact ((part_4 (v := v) (q := q) (k := v 10) hd (by omega))).2.2.symm) (by first | (have z := (part_3 (v := v) (q := q) (k := v 10) hd (by omega)); rw [z.1, z.2.1, up_up]; done) | (have z := (part_4 (v := v) (q := q) (k := v 10) hd (by omega)); rw [z.1, z.2.1, up_up]; done))
              · first
                | (exfalso; omega)
                | refine r_bipush C dX5_isPart_169 (by decide) ?_
                  refine r_goto (tgt := 176) C dX5_isPart_171 (by decide) ?_
                  refine r_iload_n C dX5_isPart_176 rfl rfl ?_
                  refine r_bipush C dX5_isPart_177 (by decide) ?_
                  refine r_icmp_ne (tgt := 186) C dX5_isPart_179 (by decide) (by omega) (by omega) (fun h179 => ?_) (fun h179 => ?_)
                  · first
                    | (exfalso; omega)
                    | refine r_iconst C dX5_isPart_186 ?_
                      refine r_cV C cwX5_134 (c_X5_isNumber (len := v 5) (p0 := v 7 + 2) (k := v 10) hm (by first | rfl | simp only [up_ap, Int.reduceEq, reduceIte]) (by first | rfl | simp only [up_ap, Int.reduceEq, reduceIte]) (by first | rfl | simp only [up_ap, Int.reduceEq, reduceIte]) hxt (by omega) (by omega) (by omega) (by omega)) dX5_isPart_187 rfl (by omega) mput_0 rfl rfl rfl (Nat.le_of_ble_eq_true rfl) ⟨Nat.le_of_ble_eq_true rfl, Nat.le_of_ble_eq_true rfl⟩ ⟨Nat.le_of_ble_eq_true rfl, Nat.le_of_ble_eq_true rfl⟩ ?_
                      exact r_zretD C dX5_isPart_190 (by first | omega | exact gB_01 _) (by first | exact ((part_3 (v := v) (q := q) (k := v 10) hd (by omega))).2.2.symm | exact ((part_4 (v := v) (q := q) (k := v 10) hd (by omega))).2.2.symm) (by first | (have z := (part_3 (v := v) (q := q) (k := v 10) hd (by omega)); rw [z.1, z.2.1, up_up]; done) | (have z := (part_4 (v := v) (q := q) (k := v 10) hd (by omega)); rw [z.1, z.2.1, up_up]; done))
                  · first
                    | (exfalso; omega)
                    | refine r_iconst C dX5_isPart_182 ?_
                      refine r_goto (tgt := 187) C dX5_isPart_183 (by decide) ?_
                      refine r_cV C cwX5_134 (c_X5_isNumber (len := v 5) (p0 := v 7 + 2) (k := v 10) hm (by first | rfl | simp only [up_ap, Int.reduceEq, reduceIte]) (by first | rfl | simp only [up_ap, Int.reduceEq, reduceIte]) (by first | rfl | simp only [up_ap, Int.reduceEq, reduceIte]) hxt (by omega) (by omega) (by omega) (by omega)) dX5_isPart_187 rfl (by omega) mput_0 rfl rfl rfl (Nat.le_of_ble_eq_true rfl) ⟨Nat.le_of_ble_eq_true rfl, Nat.le_of_ble_eq_true rfl⟩ ⟨Nat.le_of_ble_eq_true rfl, Nat.le_of_ble_eq_true rfl⟩ ?_
                      exact r_zretD C dX5_isPart_190 (by first | omega | exact gB_01 _) (by first | exact ((part_3 (v := v) (q := q) (k := v 10) hd (by omega))).2.2.symm | exact ((part_4 (v := v) (q := q) (k := v 10) hd (by omega))).2.2.symm) (by first | (have z := (part_3 (v := v) (q := q) (k := v 10) hd (by omega)); rw [z.1, z.2.1, up_up]; done) | (have z := (part_4 (v := v) (q := q) (k := v 10) hd (by omega)); rw [z.1, z.2.1, up_up]; done))
      · first
        | (exfalso; omega)
        | refine r_iload_n C dX5_isPart_145 rfl rfl ?_
          refine r_bipush C dX5_isPart_146 (by decide) ?_
          refine r_icmp_ne (tgt := 191) C dX5_isPart_148 (by decide) (by omega) (by omega) (fun h148 => ?_) (fun h148 => ?_)
          · first
            | (exfalso; omega)
            | refine r_iconst C dX5_isPart_191 ?_
              exact r_zretD C dX5_isPart_192 (by first | omega | exact gB_01 _) ((part_2 (v := v) (q := q) (k := v 10) hd hs2 ⟨by omega, by omega⟩)).2.2.symm (by have z := (part_2 (v := v) (q := q) (k := v 10) hd hs2 ⟨by omega, by omega⟩); rw [z.1, z.2.1])
          · first
            | (exfalso; omega)
            | refine r_aload_n C dX5_isPart_151 rfl rfl ?_
              refine r_iload_n C dX5_isPart_152 rfl rfl ?_
              refine r_bipush C dX5_isPart_153 (by decide) ?_
              refine r_icmp_ne (tgt := 162) C dX5_isPart_155 (by decide) (by omega) (by omega) (fun h155 => ?_) (fun h155 => ?_)
              · first
                | (exfalso; omega)
                | refine r_iconst C dX5_isPart_162 ?_
                  refine r_iload_n C dX5_isPart_163 rfl rfl ?_
                  refine r_bipush C dX5_isPart_164 (by decide) ?_
                  refine r_icmp_ne (tgt := 174) C dX5_isPart_166 (by decide) (by omega) (by omega) (fun h166 => ?_) (fun h166 => ?_)
                  · first
                    | (exfalso; omega)
                    | refine r_bipush C dX5_isPart_174 (by decide) ?_
                      refine r_iload_n C dX5_isPart_176 rfl rfl ?_
                      refine r_bipush C dX5_isPart_177 (by decide) ?_
                      refine r_icmp_ne (tgt := 186) C dX5_isPart_179 (by decide) (by omega) (by omega) (fun h179 => ?_) (fun h179 => ?_)
                      · first
                        | (exfalso; omega)
                        | refine r_iconst C dX5_isPart_186 ?_
                          refine r_cV C cwX5_134 (c_X5_isNumber (len := v 5) (p0 := v 7 + 2) (k := v 10) hm (by first | rfl | simp only [up_ap, Int.reduceEq, reduceIte]) (by first | rfl | simp only [up_ap, Int.reduceEq, reduceIte]) (by first | rfl | simp only [up_ap, Int.reduceEq, reduceIte]) hxt (by omega) (by omega) (by omega) (by omega)) dX5_isPart_187 rfl (by omega) mput_0 rfl rfl rfl (Nat.le_of_ble_eq_true rfl) ⟨Nat.le_of_ble_eq_true rfl, Nat.le_of_ble_eq_true rfl⟩ ⟨Nat.le_of_ble_eq_true rfl, Nat.le_of_ble_eq_true rfl⟩ ?_
                          exact r_zretD C dX5_isPart_190 (by first | omega | exact gB_01 _) (by first | exact ((part_3 (v := v) (q := q) (k := v 10) hd (by omega))).2.2.symm | exact ((part_4 (v := v) (q := q) (k := v 10) hd (by omega))).2.2.symm) (by first | (have z := (part_3 (v := v) (q := q) (k := v 10) hd (by omega)); rw [z.1, z.2.1, up_up]; done) | (have z := (part_4 (v := v) (q := q) (k := v 10) hd (by omega)); rw [z.1, z.2.1, up_up]; done))
                      · first
                        | (exfalso; omega)
                        | refine r_iconst C dX5_isPart_182 ?_
                          refine r_goto (tgt := 187) C dX5_isPart_183 (by decide) ?_
                          refine r_cV C cwX5_134 (c_X5_isNumber (len := v 5) (p0 := v 7 + 2) (k := v 10) hm (by first | rfl | simp only [up_ap, Int.reduceEq, reduceIte]) (by first | rfl | simp only [up_ap, Int.reduceEq, reduceIte]) (by first | rfl | simp only [up_ap, Int.reduceEq, reduceIte]) hxt (by omega) (by omega) (by omega) (by omega)) dX5_isPart_187 rfl (by omega) mput_0 rfl rfl rfl (Nat.le_of_ble_eq_true rfl) ⟨Nat.le_of_ble_eq_true rfl, Nat.le_of_ble_eq_true rfl⟩ ⟨Nat.le_of_ble_eq_true rfl, Nat.le_of_ble_eq_true rfl⟩ ?_
                          exact r_zretD C dX5_isPart_190 (by first | omega | exact gB_01 _) (by first | exact ((part_3 (v := v) (q := q) (k := v 10) hd (by omega))).2.2.symm | exact ((part_4 (v := v) (q := q) (k := v 10) hd (by omega))).2.2.symm) (by first | (have z := (part_3 (v := v) (q := q) (k := v 10) hd (by omega)); rw [z.1, z.2.1, up_up]; done) | (have z := (part_4 (v := v) (q := q) (k := v 10) hd (by omega)); rw [z.1, z.2.1, up_up]; done))
                  · first
                    | (exfalso; omega)
                    | refine r_bipush C dX5_isPart_169 (by decide) ?_
                      refine r_goto (tgt := 176) C dX5_isPart_171 (by decide) ?_
                      refine r_iload_n C dX5_isPart_176 rfl rfl ?_
                      refine r_bipush C dX5_isPart_177 (by decide) ?_
                      refine r_icmp_ne (tgt := 186) C dX5_isPart_179 (by decide) (by omega) (by omega) (fun h179 => ?_) (fun h179 => ?_)
                      · first
                        | (exfalso; omega)
                        | refine r_iconst C dX5_isPart_186 ?_
                          refine r_cV C cwX5_134 (c_X5_isNumber (len := v 5) (p0 := v 7 + 2) (k := v 10) hm (by first | rfl | simp only [up_ap, Int.reduceEq, reduceIte]) (by first | rfl | simp only [up_ap, Int.reduceEq, reduceIte]) (by first | rfl | simp only [up_ap, Int.reduceEq, reduceIte]) hxt (by omega) (by omega) (by omega) (by omega)) dX5_isPart_187 rfl (by omega) mput_0 rfl rfl rfl (Nat.le_of_ble_eq_true rfl) ⟨Nat.le_of_ble_eq_true rfl, Nat.le_of_ble_eq_true rfl⟩ ⟨Nat.le_of_ble_eq_true rfl, Nat.le_of_ble_eq_true rfl⟩ ?_
                          exact r_zretD C dX5_isPart_190 (by first | omega | exact gB_01 _) (by first | exact ((part_3 (v := v) (q := q) (k := v 10) hd (by omega))).2.2.symm | exact ((part_4 (v := v) (q := q) (k := v 10) hd (by omega))).2.2.symm) (by first | (have z := (part_3 (v := v) (q := q) (k := v 10) hd (by omega)); rw [z.1, z.2.1, up_up]; done) | (have z := (part_4 (v := v) (q := q) (k := v 10) hd (by omega)); rw [z.1, z.2.1, up_up]; done))
                      · first
                        | (exfalso; omega)
                        | refine r_iconst C dX5_isPart_182 ?_
                          refine r_goto (tgt := 187) C dX5_isPart_183 (by decide) ?_
                          refine r_cV C cwX5_134 (c_X5_isNumber (len := v 5) (p0 := v 7 + 2) (k := v 10) hm (by first | rfl | simp only [up_ap, Int.reduceEq, reduceIte]) (by first | rfl | simp only [up_ap, Int.reduceEq, reduceIte]) (by first | rfl | simp only [up_ap, Int.reduceEq, reduceIte]) hxt (by omega) (by omega) (by omega) (by omega)) dX5_isPart_187 rfl (by omega) mput_0 rfl rfl rfl (Nat.le_of_ble_eq_true rfl) ⟨Nat.le_of_ble_eq_true rfl, Nat.le_of_ble_eq_true rfl⟩ ⟨Nat.le_of_ble_eq_true rfl, Nat.le_of_ble_eq_true rfl⟩ ?_
                          exact r_zretD C dX5_isPart_190 (by first | omega | exact gB_01 _) (by first | exact ((part_3 (v := v) (q := q) (k := v 10) hd (by omega))).2.2.symm | exact ((part_4 (v := v) (q := q) (k := v 10) hd (by omega))).2.2.symm) (by first | (have z := (part_3 (v := v) (q := q) (k := v 10) hd (by omega)); rw [z.1, z.2.1, up_up]; done) | (have z := (part_4 (v := v) (q := q) (k := v 10) hd (by omega)); rw [z.1, z.2.1, up_up]; done))
              · first
                | (exfalso; omega)
                | refine r_iconst C dX5_isPart_158 ?_
                  refine r_goto (tgt := 163) C dX5_isPart_159 (by decide) ?_
                  refine r_iload_n C dX5_isPart_163 rfl rfl ?_
                  refine r_bipush C dX5_isPart_164 (by decide) ?_
                  refine r_icmp_ne (tgt := 174) C dX5_isPart_166 (by decide) (by omega) (by omega) (fun h166 => ?_) (fun h166 => ?_)
                  · first
                    | (exfalso; omega)
                    | refine r_bipush C dX5_isPart_174 (by decide) ?_
                      refine r_iload_n C dX5_isPart_176 rfl rfl ?_
                      refine r_bipush C dX5_isPart_177 (by decide) ?_
                      refine r_icmp_ne (tgt := 186) C dX5_isPart_179 (by decide) (by omega) (by omega) (fun h179 => ?_) (fun h179 => ?_)
                      · first
                        | (exfalso; omega)
                        | refine r_iconst C dX5_isPart_186 ?_
                          refine r_cV C cwX5_134 (c_X5_isNumber (len := v 5) (p0 := v 7 + 2) (k := v 10) hm (by first | rfl | simp only [up_ap, Int.reduceEq, reduceIte]) (by first | rfl | simp only [up_ap, Int.reduceEq, reduceIte]) (by first | rfl | simp only [up_ap, Int.reduceEq, reduceIte]) hxt (by omega) (by omega) (by omega) (by omega)) dX5_isPart_187 rfl (by omega) mput_0 rfl rfl rfl (Nat.le_of_ble_eq_true rfl) ⟨Nat.le_of_ble_eq_true rfl, Nat.le_of_ble_eq_true rfl⟩ ⟨Nat.le_of_ble_eq_true rfl, Nat.le_of_ble_eq_true rfl⟩ ?_
                          exact r_zretD C dX5_isPart_190 (by first | omega | exact gB_01 _) (by first | exact ((part_3 (v := v) (q := q) (k := v 10) hd (by omega))).2.2.symm | exact ((part_4 (v := v) (q := q) (k := v 10) hd (by omega))).2.2.symm) (by first | (have z := (part_3 (v := v) (q := q) (k := v 10) hd (by omega)); rw [z.1, z.2.1, up_up]; done) | (have z := (part_4 (v := v) (q := q) (k := v 10) hd (by omega)); rw [z.1, z.2.1, up_up]; done))
                      · first
                        | (exfalso; omega)
                        | refine r_iconst C dX5_isPart_182 ?_
                          refine r_goto (tgt := 187) C dX5_isPart_183 (by decide) ?_
                          refine r_cV C cwX5_134 (c_X5_isNumber (len := v 5) (p0 := v 7 + 2) (k := v 10) hm (by first | rfl | simp only [up_ap, Int.reduceEq, reduceIte]) (by first | rfl | simp only [up_ap, Int.reduceEq, reduceIte]) (by first | rfl | simp only [up_ap, Int.reduceEq, reduceIte]) hxt (by omega) (by omega) (by omega) (by omega)) dX5_isPart_187 rfl (by omega) mput_0 rfl rfl rfl (Nat.le_of_ble_eq_true rfl) ⟨Nat.le_of_ble_eq_true rfl, Nat.le_of_ble_eq_true rfl⟩ ⟨Nat.le_of_ble_eq_true rfl, Nat.le_of_ble_eq_true rfl⟩ ?_
                          exact r_zretD C dX5_isPart_190 (by first | omega | exact gB_01 _) (by first | exact ((part_3 (v := v) (q := q) (k := v 10) hd (by omega))).2.2.symm | exact ((part_4 (v := v) (q := q) (k := v 10) hd (by omega))).2.2.symm) (by first | (have z := (part_3 (v := v) (q := q) (k := v 10) hd (by omega)); rw [z.1, z.2.1, up_up]; done) | (have z := (part_4 (v := v) (q := q) (k := v 10) hd (by omega)); rw [z.1, z.2.1, up_up]; done))
                  · first
                    | (exfalso; omega)
                    | refine r_bipush C dX5_isPart_169 (by decide) ?_
                      refine r_goto (tgt := 176) C dX5_isPart_171 (by decide) ?_
                      refine r_iload_n C dX5_isPart_176 rfl rfl ?_
                      refine r_bipush C dX5_isPart_177 (by decide) ?_
                      refine r_icmp_ne (tgt := 186) C dX5_isPart_179 (by decide) (by omega) (by omega) (fun h179 => ?_) (fun h179 => ?_)
                      · first
                        | (exfalso; omega)
                        | refine r_iconst C dX5_isPart_186 ?_
                          refine r_cV C cwX5_134 (c_X5_isNumber (len := v 5) (p0 := v 7 + 2) (k := v 10) hm (by first | rfl | simp only [up_ap, Int.reduceEq, reduceIte]) (by first | rfl | simp only [up_ap, Int.reduceEq, reduceIte]) (by first | rfl | simp only [up_ap, Int.reduceEq, reduceIte]) hxt (by omega) (by omega) (by omega) (by omega)) dX5_isPart_187 rfl (by omega) mput_0 rfl rfl rfl (Nat.le_of_ble_eq_true rfl) ⟨Nat.le_of_ble_eq_true rfl, Nat.le_of_ble_eq_true rfl⟩ ⟨Nat.le_of_ble_eq_true rfl, Nat.le_of_ble_eq_true rfl⟩ ?_
                          exact r_zretD C dX5_isPart_190 (by first | omega | exact gB_01 _) (by first | exact ((part_3 (v := v) (q := q) (k := v 10) hd (by omega))).2.2.symm | exact ((part_4 (v := v) (q := q) (k := v 10) hd (by omega))).2.2.symm) (by first | (have z := (part_3 (v := v) (q := q) (k := v 10) hd (by omega)); rw [z.1, z.2.1, up_up]; done) | (have z := (part_4 (v := v) (q := q) (k := v 10) hd (by omega)); rw [z.1, z.2.1, up_up]; done))
                      · first
                        | (exfalso; omega)
                        | refine r_iconst C dX5_isPart_182 ?_
                          refine r_goto (tgt := 187) C dX5_isPart_183 (by decide) ?_
                          refine r_cV C cwX5_134 (c_X5_isNumber (len := v 5) (p0 := v 7 + 2) (k := v 10) hm (by first | rfl | simp only [up_ap, Int.reduceEq, reduceIte]) (by first | rfl | simp only [up_ap, Int.reduceEq, reduceIte]) (by first | rfl | simp only [up_ap, Int.reduceEq, reduceIte]) hxt (by omega) (by omega) (by omega) (by omega)) dX5_isPart_187 rfl (by omega) mput_0 rfl rfl rfl (Nat.le_of_ble_eq_true rfl) ⟨Nat.le_of_ble_eq_true rfl, Nat.le_of_ble_eq_true rfl⟩ ⟨Nat.le_of_ble_eq_true rfl, Nat.le_of_ble_eq_true rfl⟩ ?_
                          exact r_zretD C dX5_isPart_190 (by first | omega | exact gB_01 _) (by first | exact ((part_3 (v := v) (q := q) (k := v 10) hd (by omega))).2.2.symm | exact ((part_4 (v := v) (q := q) (k := v 10) hd (by omega))).2.2.symm) (by first | (have z := (part_3 (v := v) (q := q) (k := v 10) hd (by omega)); rw [z.1, z.2.1, up_up]; done) | (have z := (part_4 (v := v) (q := q) (k := v 10) hd (by omega)); rw [z.1, z.2.1, up_up]; done))
    have l73 : V X 0 0 (gQ X (gD (some (.int (gI (gB (pOk (v 5) x (v 7)))))) ad N (mput ad (gty X) σ m (pV (v 5) x (v 7) v) (s) (t) (p) (x) (pQ (v 5) x (v 7) (v 10) q))) 0 0) 73 [some (.ref (ad m)), none] [.int (gI (cAt (v 5) x (v 7 + 1)))] ad N (mput ad (gty X) σ m (up v 7 (v 7 + 1)) (s) (t) (p) (x) (up q (3 * v 10) (cAt (v 5) x (v 7) - 48))) := by
      refine r_istore_n C dX5_isPart_73 rfl (Nat.le_of_ble_eq_true rfl) rfl ?_
      dsimp only [List.set]
      refine r_aload_n C dX5_isPart_74 rfl rfl ?_
      refine mm_get C flX5_22 dX5_isPart_75 hm rfl ?_
      refine r_iconst C dX5_isPart_78 ?_
      refine r_aload_n C dX5_isPart_79 rfl rfl ?_
      refine mm_get C flX5_131 dX5_isPart_80 hm rfl ?_
      try simp only [up_ap, Int.reduceEq, reduceIte]
      refine r_imul C dX5_isPart_83 ?_
      refine r_iconst C dX5_isPart_84 ?_
      refine r_iadd C dX5_isPart_85 ?_
      refine r_iload_n C dX5_isPart_86 rfl rfl ?_
      refine r_iast C dX5_isPart_87 (by omega) mput_5 (by omega) (by omega) ?_
      rw [mput_u5]
      refine r_iload_n C dX5_isPart_88 rfl rfl ?_
      refine r_bipush C dX5_isPart_89 (by decide) ?_
      refine r_icmp_eq (tgt := 129) C dX5_isPart_91 (by decide) (by omega) (by omega) (fun h91 => ?_) (fun h91 => ?_)
      · exact l129 (by omega)
      · refine r_iload_n C dX5_isPart_94 rfl rfl ?_
        refine r_bipush C dX5_isPart_95 (by decide) ?_
        refine r_icmp_eq (tgt := 129) C dX5_isPart_97 (by decide) (by omega) (by omega) (fun h97 => ?_) (fun h97 => ?_)
        · exact l129 (by omega)
        · refine r_iload_n C dX5_isPart_100 rfl rfl ?_
          refine r_bipush C dX5_isPart_101 (by decide) ?_
          refine r_icmp_eq (tgt := 129) C dX5_isPart_103 (by decide) (by omega) (by omega) (fun h103 => ?_) (fun h103 => ?_)
          · exact l129 (by omega)
          · refine r_iload_n C dX5_isPart_106 rfl rfl ?_
            refine r_bipush C dX5_isPart_107 (by decide) ?_
            refine r_icmp_eq (tgt := 129) C dX5_isPart_109 (by decide) (by omega) (by omega) (fun h109 => ?_) (fun h109 => ?_)
            · exact l129 (by omega)
            · refine r_iload_n C dX5_isPart_112 rfl rfl ?_
              refine r_bipush C dX5_isPart_113 (by decide) ?_
              refine r_icmp_eq (tgt := 129) C dX5_isPart_115 (by decide) (by omega) (by omega) (fun h115 => ?_) (fun h115 => ?_)
              · exact l129 (by omega)
              · refine r_iload_n C dX5_isPart_118 rfl rfl ?_
                refine r_bipush C dX5_isPart_119 (by decide) ?_
                refine r_icmp_eq (tgt := 129) C dX5_isPart_121 (by decide) (by omega) (by omega) (fun h121 => ?_) (fun h121 => ?_)
                · exact l129 (by omega)
                · refine r_aload_n C dX5_isPart_124 rfl rfl ?_
                  refine r_cV C cwX5_127 (c_X5_stops (len := v 5) (p0 := v 7 + 1) hm (by first | rfl | simp only [up_ap, Int.reduceEq, reduceIte]) (by first | rfl | simp only [up_ap, Int.reduceEq, reduceIte]) hlen (by omega)) dX5_isPart_125 rfl (by omega) mput_0 rfl rfl rfl (Nat.le_of_ble_eq_true rfl) ⟨Nat.le_of_ble_eq_true rfl, Nat.le_of_ble_eq_true rfl⟩ ⟨Nat.le_of_ble_eq_true rfl, Nat.le_of_ble_eq_true rfl⟩ ?_
                  exact r_zretD C dX5_isPart_128 (by omega) ((part_1 (v := v) (q := q) (k := v 10) hd (by omega))).2.2.symm (by have z := (part_1 (v := v) (q := q) (k := v 10) hd (by omega)); rw [z.1, z.2.1])
    refine r_aload_n C dX5_isPart_16 rfl rfl ?_
    refine mm_get C flX5_22 dX5_isPart_17 hm rfl ?_
    refine r_iconst C dX5_isPart_20 ?_
    refine r_aload_n C dX5_isPart_21 rfl rfl ?_
    refine mm_get C flX5_131 dX5_isPart_22 hm rfl ?_
    try simp only [up_ap, Int.reduceEq, reduceIte]
    refine r_imul C dX5_isPart_25 ?_
    refine r_aload_n C dX5_isPart_26 rfl rfl ?_
    refine mm_get C flX5_19 dX5_isPart_27 hm rfl ?_
    refine r_aload_n C dX5_isPart_30 rfl rfl ?_
    refine mm_get C flX5_116 dX5_isPart_31 hm rfl ?_
    try simp only [up_ap, Int.reduceEq, reduceIte]
    refine r_iald C dX5_isPart_34 (by omega) mput_4 (by omega) (by omega) ?_
    rw [cAt_x (len := v 5) (x := x) (p := v 7) (by omega)]
    refine r_bipush C dX5_isPart_35 (by decide) ?_
    refine r_isub C dX5_isPart_37 ?_
    refine r_iast C dX5_isPart_38 (by omega) mput_5 (by omega) (by omega) ?_
    rw [mput_u5]
    refine r_aload_n C dX5_isPart_39 rfl rfl ?_
    refine r_dup C dX5_isPart_40 rfl ?_
    refine mm_get C flX5_116 dX5_isPart_41 hm rfl ?_
    try simp only [up_ap, Int.reduceEq, reduceIte]
    refine r_iconst C dX5_isPart_44 ?_
    refine r_iadd C dX5_isPart_45 ?_
    refine mm_put (j := 7) C flX5_116 dX5_isPart_46 hm (by decide) rfl rfl rfl rfl ?_
    try rw [up_up]
    refine r_aload_n C dX5_isPart_49 rfl rfl ?_
    refine mm_get C flX5_116 dX5_isPart_50 hm rfl ?_
    try simp only [up_ap, Int.reduceEq, reduceIte]
    refine r_aload_n C dX5_isPart_53 rfl rfl ?_
    refine mm_get C flX5_113 dX5_isPart_54 hm rfl ?_
    try simp only [up_ap, Int.reduceEq, reduceIte]
    refine r_icmp_ge (tgt := 72) C dX5_isPart_57 (by decide) (by omega) (by omega) (fun h57 => ?_) (fun h57 => ?_)
    · refine r_iconst C dX5_isPart_72 ?_
      rw [show gI 0 = gI (cAt (v 5) x (v 7 + 1)) by rw [show cAt (v 5) x (v 7 + 1) = 0 from if_neg (by omega)]]
      exact l73
    · refine r_aload_n C dX5_isPart_60 rfl rfl ?_
      refine mm_get C flX5_19 dX5_isPart_61 hm rfl ?_
      refine r_aload_n C dX5_isPart_64 rfl rfl ?_
      refine mm_get C flX5_116 dX5_isPart_65 hm rfl ?_
      try simp only [up_ap, Int.reduceEq, reduceIte]
      refine r_iald C dX5_isPart_68 (by omega) mput_4 (by omega) (by omega) ?_
      rw [cAt_x (len := v 5) (x := x) (p := v 7 + 1) (by omega)]
      refine r_goto (tgt := 73) C dX5_isPart_69 (by decide) ?_
      exact l73
  · have hd : ¬ isDg (cAt (v 5) x (v 7)) 0 5 := h8
    refine r_aload_n C dX5_isPart_11 rfl rfl ?_
    refine r_cV C cwX5_127 (c_X5_stops (len := v 5) (p0 := v 7) hm (by first | rfl | simp only [up_ap, Int.reduceEq, reduceIte]) (by first | rfl | simp only [up_ap, Int.reduceEq, reduceIte]) hlen (by omega)) dX5_isPart_12 rfl (by omega) mput_0 rfl rfl rfl (Nat.le_of_ble_eq_true rfl) ⟨Nat.le_of_ble_eq_true rfl, Nat.le_of_ble_eq_true rfl⟩ ⟨Nat.le_of_ble_eq_true rfl, Nat.le_of_ble_eq_true rfl⟩ ?_
    exact r_zretD C dX5_isPart_15 (by omega) ((part_0 (v := v) (q := q) (k := v 10) hd rfl)).2.2.symm (by have z := (part_0 (v := v) (q := q) (k := v 10) hd rfl); rw [z.1, z.2.1])

