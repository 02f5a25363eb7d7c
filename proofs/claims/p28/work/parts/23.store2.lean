/-! Store, second part -/

theorem r_dconst_1 {X : gT} {cc : ByteArray} {nL : Nat} {own : String} {R : Room} {ret : Option FieldType} {kc kn : Nat} {Q : State → Prop} {pc : Nat} {L : List (Option Value)} {st : List Value} {ad : Int → Nat} {N : Int} {σ : Int → va_E} (C : gOk X cc nL own R ret) (hd : decode cc pc = .ok (.dconst 1, 1)) (k : V X kc kn Q (pc + 1) L (.double FP.dconst1 :: st) ad N σ) : V X kc kn Q pc L st ad N σ := fun ls H locs hl hw => lv_dconst1 C.1 C.2.1 hd (k ls H locs hl hw)
theorem r_dconst_0 {X : gT} {cc : ByteArray} {nL : Nat} {own : String} {R : Room} {ret : Option FieldType} {kc kn : Nat} {Q : State → Prop} {pc : Nat} {L : List (Option Value)} {st : List Value} {ad : Int → Nat} {N : Int} {σ : Int → va_E} (C : gOk X cc nL own R ret) (hd : decode cc pc = .ok (.dconst 0, 1)) (k : V X kc kn Q (pc + 1) L (.double FP.dconst0 :: st) ad N σ) : V X kc kn Q pc L st ad N σ := fun ls H locs hl hw => lv_dconst0 C.1 C.2.1 hd (k ls H locs hl hw)
/-- what stands at a place is no longer needed -/
theorem V_drop {X : gT} {k n : Nat} {Q : State → Prop} {pc : Nat} {L : List (Option Value)} {st : List Value} {ad : Int → Nat} {N : Int} {σ : Int → va_E} (i : Nat) (kk : V X k n Q pc (L.set i none) st ad N σ) : V X k n Q pc L st ad N σ := by
  refine V_sub (by simp) (fun j v h => ?_) kk
  rw [List.getElem?_set] at h
  split at h
  · split at h <;> cases h
  · exact h
def draS (s : Int → Int) (r t : Int) : Int → Int := up (up s 7 r) 8 t
theorem okS_dra {s : Int → Int} (hs : okS s) {r t : Int} (hr : 0 ≤ r ∧ r < 6) (ht : 1 ≤ t ∧ t ≤ 6) : okS (draS s r t) := by
  unfold draS
  refine ⟨?_, ?_, Or.inr ?_, fun q h1 h2 => ?_⟩
  · rw [up_n (by omega), up_n (by omega)]; exact hs.set
  · rw [up_n (by omega), up_n (by omega)]; exact hs.box
  · rw [up_n (by omega), up_s, up_s]; omega
  · rw [rm_up_lo (by omega), rm_up_lo (by omega)]; exact hs.rm ⟨h1, h2⟩
theorem okS_room {s : Int → Int} (hs : okS s) {r : Int} (hr : 0 ≤ r ∧ r < 6) {ρ : Int → Int} (h : okR ρ) (hc : can ρ) : okS (srm s r ρ) := by
  refine ⟨?_, ?_, ?_, fun q h1 h2 => ?_⟩
  · rw [srm_lo (by omega)]; exact hs.set
  · rw [srm_lo (by omega)]; exact hs.box
  · rw [srm_lo (by omega), srm_lo (by omega)]; exact hs.dra
  · by_cases e : q = r
    · rw [e, rm_srm hc]; exact h
    · rw [rm_srm_ne e]; exact hs.rm ⟨h1, h2⟩
theorem okR_wick {ρ : Int → Int} (h : okR ρ) : okR (up ρ 2 0) := by
  obtain ⟨h0, h1, h2, h3, h5, h6, h7, h8, h9⟩ := h
  refine ⟨?_, ?_, ?_, ?_, ?_, ?_, fun i a b => ?_, fun i a b => ?_, ?_⟩
  · simp only [up_ap, Int.reduceEq, reduceIte]; omega
  · simp only [up_ap, Int.reduceEq, reduceIte]; omega
  · simp only [up_ap, Int.reduceEq, reduceIte]; omega
  · simp only [up_ap, Int.reduceEq, reduceIte]; omega
  · simp only [up_ap, Int.reduceEq, reduceIte]; omega
  · simp only [up_ap, Int.reduceEq, reduceIte]; omega
  · rw [up_n (by omega)]; exact h7 i a b
  · rw [up_n (by omega)]; exact h8 i a b
  · simp only [up_ap, Int.reduceEq, reduceIte]; omega
theorem okS_wick {s : Int → Int} (hs : okS s) {r : Int} (hr : 0 ≤ r ∧ r < 6) : okS (up s (9 + 15 * r + 2) 0) := by
  rw [← srm_up s r (by omega)]
  exact okS_room hs hr (okR_wick (hs.rm hr)) (can_up (can_rm s r) (by omega) _)
def rdS (s : Int → Int) (key : Int) : Int → Int := if rof s key = -1 then s else if rm s (rof s key) 1 = 1 then (bts 1 (up (up s 4 (s 4 + 1)) (9 + 15 * rof s key + 2) 0) 0).1 else (bts 3 (up (up s 4 (s 4 + 1)) 5 (s 5 + 1)) 0).1
/-- how long a room stays lit -/
def blit (s : Int → Int) (r : Int) : Int := if rm s r 1 = 0 then 0 else if (r - s 7) % 6 < blown s then 1 else untr 60 (rm s r 0) (rm s r 2)
theorem blit_rng (s : Int → Int) (r : Int) : 0 ≤ blit s r ∧ blit s r ≤ 60 := by
  have := untr_rng 60 (rm s r 0) (rm s r 2)
  unfold blit
  split
  · omega
  · split <;> omega
theorem maxD_rng {ρ : Int → Int} (h : ∀ i, 0 ≤ i → i < 4 → 0 ≤ ρ (11 + i) ∧ ρ (11 + i) ≤ 100) : ∀ (n : Nat) (p a : Int), 0 ≤ p → p + n ≤ 4 → 0 ≤ a ∧ a ≤ 100 → 0 ≤ maxD ρ n p a ∧ maxD ρ n p a ≤ 100
  | 0, p, a, _, _, ha => ha
  | n + 1, p, a, hp, hn, ha => by
    have := h p hp (by omega)
    exact maxD_rng h n (p + 1) _ (by omega) (by omega) (by omega)
theorem ffR_rng {ρ : Int → Int} {bl set : Int} (h : okR ρ) (hb : 0 ≤ bl ∧ bl ≤ 60) (hset : 1 ≤ set ∧ set ≤ 50) : 1 ≤ ffR ρ bl set ∧ ffR ρ bl set ≤ 110 := by
  have := maxD_rng h.darkI (ρ 6).toNat 0 0 (by omega) (by have := h.many; omega) (by omega)
  unfold ffR
  split <;> omega
def ntN (s : Int → Int) : Nat → Int → Int → Int
  | 0, _, x => x
  | n + 1, p, x => ntN s n (p + 1) (if 0 < rm s p 6 then (if x = -1 then ffR (rm s p) (blit s p) (s 0) else min x (ffR (rm s p) (blit s p) (s 0))) else x)
/-- when the next thing is forgotten -/
def nextF (s : Int → Int) : Int := ntN s 6 0 (-1)
def onW (s : Int → Int) (q d : Int) : Nat → Int → Int
  | 0, _ => -1
  | n + 1, l => if rm s ((q + l * d) % 6) 1 = 1 then l else if rm s ((q + l * d) % 6) 0 = 0 ∨ ¬ joined s ((q + l * d) % 6) (((q + l * d) % 6 + d) % 6) then -1 else onW s q d n (l + 1)
theorem onW_rng (s : Int → Int) (q d : Int) : ∀ (n : Nat) (l : Int), onW s q d n l = -1 ∨ (l ≤ onW s q d n l ∧ onW s q d n l < l + n)
  | 0, l => Or.inl rfl
  | n + 1, l => by
    have := onW_rng s q d n (l + 1)
    unfold onW
    split
    · omega
    · split <;> omega
def toL (s : Int → Int) (q : Int) : Int := if cb s = 0 then (if 0 < rm s q 0 then 1 else -1) else if onW s q (-1) 6 0 = -1 then onW s q 1 6 0 else if onW s q 1 6 0 = -1 then onW s q (-1) 6 0 else min (onW s q (-1) 6 0) (onW s q 1 6 0)
abbrev needr (s : Int → Int) (r o : Int) : Prop := rm s r 0 < rm s o 0 ∨ (rm s r 0 = rm s o 0 ∧ rm s o 6 < rm s r 6)
def ndN (s : Int → Int) : Nat → Int → Int → Int
  | 0, _, x => x
  | n + 1, p, x => ndN s n (p + 1) (if 0 < rm s p 6 ∧ (x = -1 ∨ needr s p x) then p else x)
def needS (s : Int → Int) : Int := ndN s 6 0 (-1)
def inl (s : Int → Int) : Int := sumF (fun r => if rm s r 1 = 1 then rm s r 6 else 0) 6 0
def shD (a b : Int) : UInt64 := FP.ddiv (FP.i2d (gI a)) (FP.i2d (gI b))
def share (s : Int → Int) : UInt64 := if thg s = 0 then FP.dconst1 else shD (inl s) (thg s)
theorem shD_tab : ∀ a : Fin 25, ∀ b : Fin 24, shD (a.val : Int) ((b.val : Int) + 1) &&& 0x7fffffffffffffff ≤ 0x7ff0000000000000 := by decide +kernel
theorem shD_n {a b : Int} (ha : 0 ≤ a ∧ a ≤ 24) (hb : 1 ≤ b ∧ b ≤ 24) : vf_n64 (shD a b) := by
  have h := shD_tab ⟨a.toNat, by omega⟩ ⟨(b - 1).toNat, by omega⟩
  rw [show (((⟨a.toNat, by omega⟩ : Fin 25).val : Nat) : Int) = a from Int.toNat_of_nonneg ha.1, show (((⟨(b - 1).toNat, by omega⟩ : Fin 24).val : Nat) : Int) + 1 = b by show (((b - 1).toNat : Nat) : Int) + 1 = b; omega] at h
  exact h
theorem inl_rng {s : Int → Int} (hs : okS s) : 0 ≤ inl s ∧ inl s ≤ 24 := by
  have := sumF_rng (f := fun r => if rm s r 1 = 1 then rm s r 6 else 0) (m := 4) 6 0 (fun i h1 h2 => by have := (hs.rm (r := i) (by omega)).many; show 0 ≤ (if rm s i 1 = 1 then rm s i 6 else 0) ∧ (if rm s i 1 = 1 then rm s i 6 else 0) ≤ 4; split <;> omega)
  unfold inl; omega

set_option maxRecDepth 100000 in
set_option maxHeartbeats 4000000 in
theorem c_X3_beginDraught {l : Launch} {D : va_G} {ty : Nat → ClassId} {ad : Int → Nat} {N : Int} {σ : Int → va_E} {b : Int} {s : Int → Int} {r t : Int} (hb : 0 ≤ b ∧ b + 20 ≤ N) (hs : okS s) (hr : 0 ≤ r ∧ r < 6) (ht : 1 ≤ t ∧ t ≤ 6) : gM0 l yX3_beginDraught cX3_beginDraught 3 (some .int) 3 67 [.ref (ad b), .int (gI r), .int (gI t)] D ty ad N (sput ad ty σ b s) (some (.int (gI (cbF (draS s r t) r (blown (draS s r t)))))) (sput ad ty σ b (draS s r t)) := by
  refine gMet_of [some (.ref (ad b)), some (.int (gI r)), some (.int (gI t))] (by decide +kernel) rfl (Nat.le_of_ble_eq_true rfl) rfl ?_
  intro X hl hD hty C hini
  subst hl hD hty
  have hs2 := okS_dra hs hr ht
  have hb2 : 0 ≤ blown (up (up s 7 r) 8 t) ∧ blown (up (up s 7 r) 8 t) ≤ _ ∧ blown (up (up s 7 r) 8 t) ≤ 6 := blown_rng hs2
  refine r_aload_n C dX3_beginDraught_0 rfl rfl ?_
  refine r_iload_n C dX3_beginDraught_1 rfl rfl ?_
  refine ss_put (j := 7) C flX3_22 dX3_beginDraught_2 hb (by decide) rfl rfl rfl rfl ?_
  refine r_aload_n C dX3_beginDraught_5 rfl rfl ?_
  refine r_iload_n C dX3_beginDraught_6 rfl rfl ?_
  refine ss_put (j := 8) C flX3_47 dX3_beginDraught_7 hb (by decide) rfl rfl rfl rfl ?_
  refine r_aload_n C dX3_beginDraught_10 rfl rfl ?_
  refine r_iload_n C dX3_beginDraught_11 rfl rfl ?_
  refine r_aload_n C dX3_beginDraught_12 rfl rfl ?_
  refine r_cV C cwX3_125 (c_X3_roomsBlown hb hs2) dX3_beginDraught_13 rfl (by omega) sput_0 rfl rfl rfl (Nat.le_of_ble_eq_true rfl) ⟨Nat.le_of_ble_eq_true rfl, Nat.le_of_ble_eq_true rfl⟩ ⟨Nat.le_of_ble_eq_true rfl, Nat.le_of_ble_eq_true rfl⟩ ?_
  refine r_cV C cwX3_128 (c_X3_candlesBurningFrom hb hs2 (by omega) (by omega)) dX3_beginDraught_16 rfl (by omega) sput_0 rfl rfl rfl (Nat.le_of_ble_eq_true rfl) ⟨Nat.le_of_ble_eq_true rfl, Nat.le_of_ble_eq_true rfl⟩ ⟨Nat.le_of_ble_eq_true rfl, Nat.le_of_ble_eq_true rfl⟩ ?_
  exact r_iretD C dX3_beginDraught_19 rfl rfl

set_option maxRecDepth 100000 in
set_option maxHeartbeats 4000000 in
theorem c_X3_blow {l : Launch} {D : va_G} {ty : Nat → ClassId} {ad : Int → Nat} {N : Int} {σ : Int → va_E} {b : Int} {s : Int → Int} (hb : 0 ≤ b ∧ b + 20 ≤ N) (hs : okS s) : gM0 l yX3_blow cX3_blow 3 none 3 67 [.ref (ad b)] D ty ad N (sput ad ty σ b s) (none) (sput ad ty σ b (blow s)) := by
  refine gMet_of [some (.ref (ad b)), none, none] (by decide +kernel) rfl (Nat.le_of_ble_eq_true rfl) rfl ?_
  intro X hl hD hty C hini
  subst hl hD hty
  have hbl := blown_rng hs
  have hd := hs.dra
  refine r_aload_n C dX3_blow_0 rfl rfl ?_
  refine r_cV C cwX3_125 (c_X3_roomsBlown hb hs) dX3_blow_1 rfl (by omega) sput_0 rfl rfl rfl (Nat.le_of_ble_eq_true rfl) ⟨Nat.le_of_ble_eq_true rfl, Nat.le_of_ble_eq_true rfl⟩ ⟨Nat.le_of_ble_eq_true rfl, Nat.le_of_ble_eq_true rfl⟩ ?_
  refine r_istore_n C dX3_blow_4 rfl (Nat.le_of_ble_eq_true rfl) rfl ?_
  dsimp only [List.set]
  refine r_aload_n C dX3_blow_5 rfl rfl ?_
  refine r_dup C dX3_blow_6 rfl ?_
  refine ss_get C flX3_44 dX3_blow_7 hb rfl ?_
  refine r_aload_n C dX3_blow_10 rfl rfl ?_
  refine r_aload_n C dX3_blow_11 rfl rfl ?_
  refine ss_get C flX3_22 dX3_blow_12 hb rfl ?_
  refine r_iload_n C dX3_blow_15 rfl rfl ?_
  refine r_cV C cwX3_128 (c_X3_candlesBurningFrom hb hs (by omega) (by omega)) dX3_blow_16 rfl (by omega) sput_0 rfl rfl rfl (Nat.le_of_ble_eq_true rfl) ⟨Nat.le_of_ble_eq_true rfl, Nat.le_of_ble_eq_true rfl⟩ ⟨Nat.le_of_ble_eq_true rfl, Nat.le_of_ble_eq_true rfl⟩ ?_
  refine r_iadd C dX3_blow_19 ?_
  refine ss_put (j := 6) C flX3_44 dX3_blow_20 hb (by decide) rfl rfl rfl rfl ?_
  refine r_iconst C dX3_blow_23 ?_
  refine r_istore_n C dX3_blow_24 rfl (Nat.le_of_ble_eq_true rfl) rfl ?_
  dsimp only [List.set]
  have lp : ∀ (n : Nat) (p : Int), (0 ≤ p) → (p + n = blown s) → V X 0 0 (gQ X (gD (none) ad N (sput ad (gty X) σ b (blow s))) 0 0) 25 [some (.ref (ad b)), some (.int (gI (blown s))), some (.int (gI p))] [] ad N (sput ad (gty X) σ b (offTo (up s 6 (s 6 + cbF s (s 7) (blown s))) (s 7) p)) := by
    intro n
    induction n with
    | zero =>
      intro p hp hpn
      have hpp : p = blown s := by omega
      subst hpp
      refine r_iload_n C dX3_blow_25 rfl rfl ?_
      refine r_iload_n C dX3_blow_26 rfl rfl ?_
      refine r_icmp_ge (tgt := 50) C dX3_blow_27 (by decide) (by omega) (by omega) (fun h27 => ?_) (fun h27 => ?_)
      · refine r_aload_n C dX3_blow_50 rfl rfl ?_
        refine r_iconst C dX3_blow_51 ?_
        refine ss_put (j := 7) C flX3_22 dX3_blow_52 hb (by decide) rfl rfl rfl rfl ?_
        refine r_aload_n C dX3_blow_55 rfl rfl ?_
        refine r_iconst C dX3_blow_56 ?_
        refine ss_put (j := 8) C flX3_47 dX3_blow_57 hb (by decide) rfl rfl rfl rfl ?_
        exact r_vretD C dX3_blow_60 rfl
      · exact absurd h27 (by omega)
    | succ n ih =>
      intro p hp hpn
      refine r_iload_n C dX3_blow_25 rfl rfl ?_
      refine r_iload_n C dX3_blow_26 rfl rfl ?_
      refine r_icmp_ge (tgt := 50) C dX3_blow_27 (by decide) (by omega) (by omega) (fun h27 => ?_) (fun h27 => ?_)
      · exact absurd h27 (by omega)
      · refine r_aload_n C dX3_blow_30 rfl rfl ?_
        refine r_aload_n C dX3_blow_31 rfl rfl ?_
        refine ss_get C flX3_22 dX3_blow_32 hb rfl ?_
        rw [offTo_lo (by omega), up_n (by omega)]
        refine r_iload_n C dX3_blow_35 rfl rfl ?_
        refine r_iadd C dX3_blow_36 ?_
        refine r_cV C cwX3_64 (c_X3_roomAt hb (by omega)) dX3_blow_37 rfl (by omega) sput_0 rfl rfl rfl (Nat.le_of_ble_eq_true rfl) ⟨Nat.le_of_ble_eq_true rfl, Nat.le_of_ble_eq_true rfl⟩ ⟨Nat.le_of_ble_eq_true rfl, Nat.le_of_ble_eq_true rfl⟩ ?_
        refine r_iconst C dX3_blow_40 ?_
        refine sr_put (j := 1) C flX3_56 dX3_blow_41 hb (by omega) (by decide) rfl (by decide) rfl (gI_z (by omega)) (gI_f (by omega)) ?_
        refine r_iinc C dX3_blow_44 rfl rfl ?_
        dsimp only [List.set]
        refine r_goto (tgt := 25) C dX3_blow_47 (by decide) ?_
        rw [offTo_s ⟨by omega, by omega⟩]
        exact ih _ (by omega) (by omega)
  have h0 := lp (blown s).toNat 0 (by omega) (by omega)
  rw [offTo_0] at h0
  exact h0

set_option maxRecDepth 100000 in
set_option maxHeartbeats 4000000 in
theorem c_X3_passBeat {l : Launch} {D : va_G} {ty : Nat → ClassId} {ad : Int → Nat} {N : Int} {σ : Int → va_E} {b : Int} {s : Int → Int} (hb : 0 ≤ b ∧ b + 20 ≤ N) (hs : okS s) : gM0 l yX3_passBeat cX3_passBeat 3 (some .int) 4 89 [.ref (ad b)] D ty ad N (sput ad ty σ b s) (some (.int (gI (goneB s)))) (sput ad ty σ b (beat s)) := by
  refine gMet_of [some (.ref (ad b)), none, none] (by decide +kernel) rfl (Nat.le_of_ble_eq_true rfl) rfl ?_
  intro X hl hD hty C hini
  subst hl hD hty
  refine r_iconst C dX3_passBeat_0 ?_
  refine r_istore_n C dX3_passBeat_1 rfl (Nat.le_of_ble_eq_true rfl) rfl ?_
  dsimp only [List.set]
  have lp : ∀ (n : Nat) (p : Int), (0 ≤ p) → (p + n = 6) → V X 0 0 (gQ X (gD (some (.int (gI (goneB s)))) ad N (sput ad (gty X) σ b (beat s))) 0 0) 2 [some (.ref (ad b)), some (.int (gI p)), none] [] ad N (sput ad (gty X) σ b (mapR (fun _ ρ => burnR ρ) s p)) := by
    intro n
    induction n with
    | zero =>
      intro p hp hpn
      have hpp : p = 6 := by omega
      subst hpp
      refine r_iload_n C dX3_passBeat_2 rfl rfl ?_
      refine r_bipush C dX3_passBeat_3 (by decide) ?_
      refine r_icmp_ge (tgt := 23) C dX3_passBeat_5 (by decide) (by omega) (by omega) (fun h5 => ?_) (fun h5 => ?_)
      · refine r_aload_n C dX3_passBeat_23 rfl rfl ?_
        refine r_cVv C cwX3_140 (c_X3_blow hb (okS_burnAll hs)) dX3_passBeat_24 rfl (by omega) sput_0 rfl rfl rfl (Nat.le_of_ble_eq_true rfl) ⟨Nat.le_of_ble_eq_true rfl, Nat.le_of_ble_eq_true rfl⟩ ⟨Nat.le_of_ble_eq_true rfl, Nat.le_of_ble_eq_true rfl⟩ ?_
        show V X 0 0 _ _ _ _ ad N (sput ad (gty X) σ b (mid s))
        refine r_iconst C dX3_passBeat_27 ?_
        refine r_istore_n C dX3_passBeat_28 rfl (Nat.le_of_ble_eq_true rfl) rfl ?_
        dsimp only [List.set]
        refine r_iconst C dX3_passBeat_29 ?_
        refine r_istore_n C dX3_passBeat_30 rfl (Nat.le_of_ble_eq_true rfl) rfl ?_
        dsimp only [List.set]
        have hm := okS_mid hs
        have hm0 := mid_lo (s := s) (j := 0) (by omega)
        have hset := hs.set
        have lq : ∀ (n : Nat) (p g : Int), (0 ≤ p) → (p + n = 6) → (g + sumF (fun r => rm (mid s) r 6 - ageQ (rm (mid s) r) (mid s 0)) n p = goneB s) → V X 0 0 (gQ X (gD (some (.int (gI (goneB s)))) ad N (sput ad (gty X) σ b (beat s))) 0 0) 31 [some (.ref (ad b)), some (.int (gI g)), some (.int (gI p))] [] ad N (sput ad (gty X) σ b (mapR (fun _ ρ => ageR ρ (mid s 0)) (mid s) p)) := by
          intro n
          induction n with
          | zero =>
            intro p g hp hpn e
            have hpp : p = 6 := by omega
            subst hpp
            have hg : g = goneB s := by rw [← e]; simp only [sumF]; omega
            subst hg
            refine r_iload_n C dX3_passBeat_31 rfl rfl ?_
            refine r_bipush C dX3_passBeat_32 (by decide) ?_
            refine r_icmp_ge (tgt := 59) C dX3_passBeat_34 (by decide) (by omega) (by omega) (fun h34 => ?_) (fun h34 => ?_)
            · refine r_aload_n C dX3_passBeat_59 rfl rfl ?_
              refine r_dup C dX3_passBeat_60 rfl ?_
              refine ss_get C flX3_35 dX3_passBeat_61 hb rfl ?_
              rw [mapR_lo (by omega), mid_lo (by omega)]
              refine r_iload_n C dX3_passBeat_64 rfl rfl ?_
              refine r_iadd C dX3_passBeat_65 ?_
              refine ss_put (j := 3) C flX3_35 dX3_passBeat_66 hb (by decide) rfl rfl rfl rfl ?_
              refine r_aload_n C dX3_passBeat_69 rfl rfl ?_
              refine r_dup C dX3_passBeat_70 rfl ?_
              refine ss_get C flX3_32 dX3_passBeat_71 hb rfl ?_
              rw [up_n (by omega), mapR_lo (by omega), mid_lo (by omega)]
              refine r_iconst C dX3_passBeat_74 ?_
              refine r_iadd C dX3_passBeat_75 ?_
              refine ss_put (j := 2) C flX3_32 dX3_passBeat_76 hb (by decide) rfl rfl rfl rfl ?_
              refine r_iload_n C dX3_passBeat_79 rfl rfl ?_
              exact r_iretD C dX3_passBeat_80 rfl rfl
            · exact absurd h34 (by omega)
          | succ n ih =>
            intro p g hp hpn e
            have hq : okR (rm (mapR (fun _ ρ => ageR ρ (mid s 0)) (mid s) p) p) := by rw [rm_mapR_ge (Int.le_refl p)]; exact hm.rm ⟨by omega, by omega⟩
            refine r_iload_n C dX3_passBeat_31 rfl rfl ?_
            refine r_bipush C dX3_passBeat_32 (by decide) ?_
            refine r_icmp_ge (tgt := 59) C dX3_passBeat_34 (by decide) (by omega) (by omega) (fun h34 => ?_) (fun h34 => ?_)
            · exact absurd h34 (by omega)
            · refine r_iload_n C dX3_passBeat_37 rfl rfl ?_
              refine r_aload_n C dX3_passBeat_38 rfl rfl ?_
              refine ss_get C flX3_11 dX3_passBeat_39 hb rfl ?_
              refine r_iload_n C dX3_passBeat_42 rfl rfl ?_
              refine ss_room C dX3_passBeat_43 hb (by omega) ?_
              refine r_aload_n C dX3_passBeat_44 rfl rfl ?_
              refine ss_get C flX3_25 dX3_passBeat_45 hb rfl ?_
              rw [mapR_lo (by omega)]
              refine r_cV C cwX3_143 (lift (by omega) (c_X1_ageThings (by omega) hq.many hq.bur (by omega) hq.darkI)) dX3_passBeat_48 rfl (by omega) (sput_r (by omega)) rfl rfl rfl (Nat.le_of_ble_eq_true rfl) ⟨Nat.le_of_ble_eq_true rfl, Nat.le_of_ble_eq_true rfl⟩ ⟨Nat.le_of_ble_eq_true rfl, Nat.le_of_ble_eq_true rfl⟩ ?_
              rw [rm_mapR_ge (Int.le_refl p), show srm (mapR (fun _ ρ => ageR ρ (mid s 0)) (mid s) p) p (ageR (rm (mid s) p) (mid s 0)) = mapR (fun _ ρ => ageR ρ (mid s 0)) (mid s) (p + 1) from srm_mapR hp]
              refine r_iadd C dX3_passBeat_51 ?_
              refine r_istore_n C dX3_passBeat_52 rfl (Nat.le_of_ble_eq_true rfl) rfl ?_
              dsimp only [List.set]
              refine r_iinc C dX3_passBeat_53 rfl rfl ?_
              dsimp only [List.set]
              refine r_goto (tgt := 31) C dX3_passBeat_56 (by decide) ?_
              exact ih _ _ (by omega) (by omega) (by rw [← e]; simp only [sumF]; omega)
        have h0 := lq 6 0 0 (by omega) (by omega) (by unfold goneB goneS; omega)
        rw [mapR_0] at h0
        exact h0
      · exact absurd h5 (by omega)
    | succ n ih =>
      intro p hp hpn
      have hq : okR (rm (mapR (fun _ ρ => burnR ρ) s p) p) := by rw [rm_mapR_ge (Int.le_refl p)]; exact hs.rm ⟨by omega, by omega⟩
      refine r_iload_n C dX3_passBeat_2 rfl rfl ?_
      refine r_bipush C dX3_passBeat_3 (by decide) ?_
      refine r_icmp_ge (tgt := 23) C dX3_passBeat_5 (by decide) (by omega) (by omega) (fun h5 => ?_) (fun h5 => ?_)
      · exact absurd h5 (by omega)
      · refine r_aload_n C dX3_passBeat_8 rfl rfl ?_
        refine ss_get C flX3_11 dX3_passBeat_9 hb rfl ?_
        refine r_iload_n C dX3_passBeat_12 rfl rfl ?_
        refine ss_room C dX3_passBeat_13 hb (by omega) ?_
        refine r_cVv C cwX3_137 (lift (by omega) (c_X1_burnForBeat (by omega) hq.len hq.bur hq.wick)) dX3_passBeat_14 rfl (by omega) (sput_r (by omega)) rfl rfl rfl (Nat.le_of_ble_eq_true rfl) ⟨Nat.le_of_ble_eq_true rfl, Nat.le_of_ble_eq_true rfl⟩ ⟨Nat.le_of_ble_eq_true rfl, Nat.le_of_ble_eq_true rfl⟩ ?_
        rw [rm_mapR_ge (Int.le_refl p), show srm (mapR (fun _ ρ => burnR ρ) s p) p (burnR (rm s p)) = mapR (fun _ ρ => burnR ρ) s (p + 1) from srm_mapR hp]
        refine r_iinc C dX3_passBeat_17 rfl rfl ?_
        dsimp only [List.set]
        refine r_goto (tgt := 2) C dX3_passBeat_20 (by decide) ?_
        exact ih _ (by omega) (by omega)
  have h0 := lp 6 0 (by omega) (by omega)
  rw [mapR_0] at h0
  exact h0

set_option maxRecDepth 100000 in
set_option maxHeartbeats 4000000 in
theorem c_X3_passBeats {l : Launch} {D : va_G} {ty : Nat → ClassId} {ad : Int → Nat} {N : Int} {σ : Int → va_E} {b : Int} {s : Int → Int} {c : Int} (hb : 0 ≤ b ∧ b + 20 ≤ N) (hs : okS s) (hc : 0 ≤ c ∧ c ≤ 100) : gM0 l yX3_passBeats cX3_passBeats 4 (some .int) 5 111 [.ref (ad b), .int (gI c)] D ty ad N (sput ad ty σ b s) (some (.int (gI (bts c.toNat s 0).2))) (sput ad ty σ b (bts c.toNat s 0).1) := by
  refine gMet_of [some (.ref (ad b)), some (.int (gI c)), none, none] (by decide +kernel) rfl (Nat.le_of_ble_eq_true rfl) rfl ?_
  intro X hl hD hty C hini
  subst hl hD hty
  refine r_iconst C dX3_passBeats_0 ?_
  refine r_istore_n C dX3_passBeats_1 rfl (Nat.le_of_ble_eq_true rfl) rfl ?_
  dsimp only [List.set]
  refine r_iconst C dX3_passBeats_2 ?_
  refine r_istore_n C dX3_passBeats_3 rfl (Nat.le_of_ble_eq_true rfl) rfl ?_
  dsimp only [List.set]
  have lp : ∀ (n : Nat) (p g : Int) (t : Int → Int), (0 ≤ p) → (p + n = c) → (okS t) → (bts n t g = bts c.toNat s 0) → V X 0 0 (gQ X (gD (some (.int (gI (bts c.toNat s 0).2))) ad N (sput ad (gty X) σ b (bts c.toNat s 0).1)) 0 0) 4 [some (.ref (ad b)), some (.int (gI c)), some (.int (gI g)), some (.int (gI p))] [] ad N (sput ad (gty X) σ b t) := by
    intro n
    induction n with
    | zero =>
      intro p g t hp hpn ht e
      refine r_iload_n C dX3_passBeats_4 rfl rfl ?_
      refine r_iload_n C dX3_passBeats_5 rfl rfl ?_
      refine r_icmp_ge (tgt := 22) C dX3_passBeats_6 (by decide) (by omega) (by omega) (fun h6 => ?_) (fun h6 => ?_)
      · refine r_iload_n C dX3_passBeats_22 rfl rfl ?_
        exact r_iretD C dX3_passBeats_23 (by rw [← e]; rfl) (by rw [← e]; rfl)
      · exact absurd h6 (by omega)
    | succ n ih =>
      intro p g t hp hpn ht e
      refine r_iload_n C dX3_passBeats_4 rfl rfl ?_
      refine r_iload_n C dX3_passBeats_5 rfl rfl ?_
      refine r_icmp_ge (tgt := 22) C dX3_passBeats_6 (by decide) (by omega) (by omega) (fun h6 => ?_) (fun h6 => ?_)
      · exact absurd h6 (by omega)
      · refine r_iload_n C dX3_passBeats_9 rfl rfl ?_
        refine r_aload_n C dX3_passBeats_10 rfl rfl ?_
        refine r_cV C cwX3_134 (c_X3_passBeat hb ht) dX3_passBeats_11 rfl (by omega) sput_0 rfl rfl rfl (Nat.le_of_ble_eq_true rfl) ⟨Nat.le_of_ble_eq_true rfl, Nat.le_of_ble_eq_true rfl⟩ ⟨Nat.le_of_ble_eq_true rfl, Nat.le_of_ble_eq_true rfl⟩ ?_
        refine r_iadd C dX3_passBeats_14 ?_
        refine r_istore_n C dX3_passBeats_15 rfl (Nat.le_of_ble_eq_true rfl) rfl ?_
        dsimp only [List.set]
        refine r_iinc C dX3_passBeats_16 rfl rfl ?_
        dsimp only [List.set]
        refine r_goto (tgt := 4) C dX3_passBeats_19 (by decide) ?_
        exact ih _ _ _ (by omega) (by omega) (okS_beat ht) e
  exact lp c.toNat 0 0 s (by omega) (by omega) hs rfl

set_option maxRecDepth 100000 in
set_option maxHeartbeats 4000000 in
theorem c_X3_readThing {l : Launch} {D : va_G} {ty : Nat → ClassId} {ad : Int → Nat} {N : Int} {σ : Int → va_E} {b : Int} {s : Int → Int} {key : Int} (hb : 0 ≤ b ∧ b + 20 ≤ N) (hs : okS s) (hkey : -2147483648 ≤ key ∧ key < 2147483648) : gM0 l yX3_readThing cX3_readThing 4 (some .int) 6 134 [.ref (ad b), .int (gI key)] D ty ad N (sput ad ty σ b s) (some (.int (gI (rof s key)))) (sput ad ty σ b (rdS s key)) := by
  refine gMet_of [some (.ref (ad b)), some (.int (gI key)), none, none] (by decide +kernel) rfl (Nat.le_of_ble_eq_true rfl) rfl ?_
  intro X hl hD hty C hini
  subst hl hD hty
  have hrr := rof_rng s key
  refine r_aload_n C dX3_readThing_0 rfl rfl ?_
  refine r_iload_n C dX3_readThing_1 rfl rfl ?_
  refine r_cV C cwX3_75 (c_X3_roomOf hb hs (by omega)) dX3_readThing_2 rfl (by omega) sput_0 rfl rfl rfl (Nat.le_of_ble_eq_true rfl) ⟨Nat.le_of_ble_eq_true rfl, Nat.le_of_ble_eq_true rfl⟩ ⟨Nat.le_of_ble_eq_true rfl, Nat.le_of_ble_eq_true rfl⟩ ?_
  refine r_istore_n C dX3_readThing_5 rfl (Nat.le_of_ble_eq_true rfl) rfl ?_
  dsimp only [List.set]
  refine r_iload_n C dX3_readThing_6 rfl rfl ?_
  refine r_iconst C dX3_readThing_7 ?_
  refine r_icmp_ne (tgt := 13) C dX3_readThing_8 (by decide) (by omega) (by omega) (fun h8 => ?_) (fun h8 => ?_)
  · have hr : 0 ≤ rof s key ∧ rof s key < 6 := by omega
    have hqb := (hs.rm hr).bur
    refine r_aload_n C dX3_readThing_13 rfl rfl ?_
    refine r_iload_n C dX3_readThing_14 rfl rfl ?_
    refine r_cV C cwX3_64 (c_X3_roomAt0 hb (by omega)) dX3_readThing_15 rfl (by omega) sput_0 rfl rfl rfl (Nat.le_of_ble_eq_true rfl) ⟨Nat.le_of_ble_eq_true rfl, Nat.le_of_ble_eq_true rfl⟩ ⟨Nat.le_of_ble_eq_true rfl, Nat.le_of_ble_eq_true rfl⟩ ?_
    refine r_astore_n C dX3_readThing_18 rfl (Nat.le_of_ble_eq_true rfl) rfl ?_
    dsimp only [List.set]
    refine r_aload_n C dX3_readThing_19 rfl rfl ?_
    refine r_dup C dX3_readThing_20 rfl ?_
    refine ss_get C flX3_38 dX3_readThing_21 hb rfl ?_
    refine r_iconst C dX3_readThing_24 ?_
    refine r_iadd C dX3_readThing_25 ?_
    refine ss_put (j := 4) C flX3_38 dX3_readThing_26 hb (by decide) rfl rfl rfl rfl ?_
    refine r_aload_n C dX3_readThing_29 rfl rfl ?_
    refine sr_get C flX3_56 dX3_readThing_30 hb (by omega) rfl ?_
    rw [rm_up_lo (by omega)]
    refine r_if_eq (tgt := 50) C dX3_readThing_33 (by decide) (by omega) (fun h33 => ?_) (fun h33 => ?_)
    · refine r_aload_n C dX3_readThing_50 rfl rfl ?_
      refine r_dup C dX3_readThing_51 rfl ?_
      refine ss_get C flX3_41 dX3_readThing_52 hb rfl ?_
      rw [up_n (by omega)]
      refine r_iconst C dX3_readThing_55 ?_
      refine r_iadd C dX3_readThing_56 ?_
      refine ss_put (j := 5) C flX3_41 dX3_readThing_57 hb (by decide) rfl rfl rfl rfl ?_
      refine r_aload_n C dX3_readThing_60 rfl rfl ?_
      refine r_iconst C dX3_readThing_61 ?_
      refine r_cV C cwX3_149 (c_X3_passBeats hb (okS_lo (okS_lo hs (by omega)) (by omega)) (by omega)) dX3_readThing_62 rfl (by omega) sput_0 rfl rfl rfl (Nat.le_of_ble_eq_true rfl) ⟨Nat.le_of_ble_eq_true rfl, Nat.le_of_ble_eq_true rfl⟩ ⟨Nat.le_of_ble_eq_true rfl, Nat.le_of_ble_eq_true rfl⟩ ?_
      refine r_pop C dX3_readThing_65 rfl ?_
      refine r_iload_n C dX3_readThing_66 rfl rfl ?_
      exact r_iretD C dX3_readThing_67 rfl (by unfold rdS; rw [if_neg (by omega)]; first | (rw [if_pos (by omega)]; rfl) | (rw [if_neg (by omega)]; rfl))
    · refine r_aload_n C dX3_readThing_36 rfl rfl ?_
      refine r_iconst C dX3_readThing_37 ?_
      refine sr_put (j := 2) C flX3_146 dX3_readThing_38 hb (by omega) (by decide) rfl (by decide) rfl rfl rfl ?_
      refine r_aload_n C dX3_readThing_41 rfl rfl ?_
      refine r_iconst C dX3_readThing_42 ?_
      refine r_cV C cwX3_149 (c_X3_passBeats hb (okS_wick (okS_lo hs (by omega)) hr) (by omega)) dX3_readThing_43 rfl (by omega) sput_0 rfl rfl rfl (Nat.le_of_ble_eq_true rfl) ⟨Nat.le_of_ble_eq_true rfl, Nat.le_of_ble_eq_true rfl⟩ ⟨Nat.le_of_ble_eq_true rfl, Nat.le_of_ble_eq_true rfl⟩ ?_
      refine r_pop C dX3_readThing_46 rfl ?_
      refine r_goto (tgt := 66) C dX3_readThing_47 (by decide) ?_
      refine r_iload_n C dX3_readThing_66 rfl rfl ?_
      exact r_iretD C dX3_readThing_67 rfl (by unfold rdS; rw [if_neg (by omega)]; first | (rw [if_pos (by omega)]; rfl) | (rw [if_neg (by omega)]; rfl))
  · refine r_iconst C dX3_readThing_11 ?_
    exact r_iretD C dX3_readThing_12 (by omega) (by unfold rdS; rw [if_pos (by omega)])

set_option maxRecDepth 100000 in
set_option maxHeartbeats 4000000 in
theorem c_X3_beatsLit {l : Launch} {D : va_G} {ty : Nat → ClassId} {ad : Int → Nat} {N : Int} {σ : Int → va_E} {b : Int} {s : Int → Int} {r : Int} (hb : 0 ≤ b ∧ b + 20 ≤ N) (hs : okS s) (hr : 0 ≤ r ∧ r < 6) : gM0 l yX3_beatsLit cX3_beatsLit 3 (some .int) 4 86 [.ref (ad b), .int (gI r)] D ty ad N (sput ad ty σ b s) (some (.int (gI (blit s r)))) (sput ad ty σ b s) := by
  refine gMet_of [some (.ref (ad b)), some (.int (gI r)), none] (by decide +kernel) rfl (Nat.le_of_ble_eq_true rfl) rfl ?_
  intro X hl hD hty C hini
  subst hl hD hty
  have hq := hs.rm hr
  have hql := hq.len
  have hqb := hq.bur
  have hqd := hq.door
  have hqm := hq.many
  have hqw := hq.wick
  have hqs := hq.shi
  refine r_aload_n C dX3_beatsLit_0 rfl rfl ?_
  refine r_iload_n C dX3_beatsLit_1 rfl rfl ?_
  refine r_cV C cwX3_64 (c_X3_roomAt0 hb (by omega)) dX3_beatsLit_2 rfl (by omega) sput_0 rfl rfl rfl (Nat.le_of_ble_eq_true rfl) ⟨Nat.le_of_ble_eq_true rfl, Nat.le_of_ble_eq_true rfl⟩ ⟨Nat.le_of_ble_eq_true rfl, Nat.le_of_ble_eq_true rfl⟩ ?_
  refine r_astore_n C dX3_beatsLit_5 rfl (Nat.le_of_ble_eq_true rfl) rfl ?_
  dsimp only [List.set]
  refine r_aload_n C dX3_beatsLit_6 rfl rfl ?_
  refine sr_get C flX3_56 dX3_beatsLit_7 hb (by omega) rfl ?_
  refine r_if_ne (tgt := 15) C dX3_beatsLit_10 (by decide) (by omega) (fun h10 => ?_) (fun h10 => ?_)
  · refine r_aload_n C dX3_beatsLit_15 rfl rfl ?_
    refine r_iload_n C dX3_beatsLit_16 rfl rfl ?_
    refine r_cV C cwX3_152 (c_X3_isInDraught hb hs (by omega)) dX3_beatsLit_17 rfl (by omega) sput_0 rfl rfl rfl (Nat.le_of_ble_eq_true rfl) ⟨Nat.le_of_ble_eq_true rfl, Nat.le_of_ble_eq_true rfl⟩ ⟨Nat.le_of_ble_eq_true rfl, Nat.le_of_ble_eq_true rfl⟩ ?_
    refine r_ifb_eq (tgt := 27) C dX3_beatsLit_20 (by decide) (fun h20 => ?_) (fun h20 => ?_)
    · refine r_aload_n C dX3_beatsLit_27 rfl rfl ?_
      refine r_cV C cwX3_155 (lift0 (by omega) (c_X1_beatsUntrimmed (by omega) hql hqw)) dX3_beatsLit_28 rfl (by omega) (sput_r (by omega)) rfl rfl rfl (Nat.le_of_ble_eq_true rfl) ⟨Nat.le_of_ble_eq_true rfl, Nat.le_of_ble_eq_true rfl⟩ ⟨Nat.le_of_ble_eq_true rfl, Nat.le_of_ble_eq_true rfl⟩ ?_
      exact r_iretD C dX3_beatsLit_31 (by unfold blit; first | rw [if_pos (by omega)] | rw [if_neg (by omega), if_pos (by omega)] | rw [if_neg (by omega), if_neg (by omega)]) rfl
    · refine r_iconst C dX3_beatsLit_23 ?_
      refine r_goto (tgt := 31) C dX3_beatsLit_24 (by decide) ?_
      exact r_iretD C dX3_beatsLit_31 (by unfold blit; first | rw [if_pos (by omega)] | rw [if_neg (by omega), if_pos (by omega)] | rw [if_neg (by omega), if_neg (by omega)]) rfl
  · refine r_iconst C dX3_beatsLit_13 ?_
    exact r_iretD C dX3_beatsLit_14 (by unfold blit; first | rw [if_pos (by omega)] | rw [if_neg (by omega), if_pos (by omega)] | rw [if_neg (by omega), if_neg (by omega)]) rfl

set_option maxRecDepth 100000 in
set_option maxHeartbeats 4000000 in
theorem c_X3_beatsToForgetting {l : Launch} {D : va_G} {ty : Nat → ClassId} {ad : Int → Nat} {N : Int} {σ : Int → va_E} {b : Int} {s : Int → Int} (hb : 0 ≤ b ∧ b + 20 ≤ N) (hs : okS s) : gM0 l yX3_beatsToForgetting cX3_beatsToForgetting 4 (some .int) 5 108 [.ref (ad b)] D ty ad N (sput ad ty σ b s) (some (.int (gI (nextF s)))) (sput ad ty σ b s) := by
  refine gMet_of [some (.ref (ad b)), none, none, none] (by decide +kernel) rfl (Nat.le_of_ble_eq_true rfl) rfl ?_
  intro X hl hD hty C hini
  subst hl hD hty
  refine r_iconst C dX3_beatsToForgetting_0 ?_
  refine r_istore_n C dX3_beatsToForgetting_1 rfl (Nat.le_of_ble_eq_true rfl) rfl ?_
  dsimp only [List.set]
  refine r_iconst C dX3_beatsToForgetting_2 ?_
  refine r_istore_n C dX3_beatsToForgetting_3 rfl (Nat.le_of_ble_eq_true rfl) rfl ?_
  dsimp only [List.set]
  have lp : ∀ (n : Nat) (p x : Int), (0 ≤ p) → (p + n = 6) → (-1 ≤ x ∧ x ≤ 110) → (ntN s n p x = nextF s) → V X 0 0 (gQ X (gD (some (.int (gI (nextF s)))) ad N (sput ad (gty X) σ b s)) 0 0) 4 [some (.ref (ad b)), some (.int (gI x)), some (.int (gI p)), none] [] ad N (sput ad (gty X) σ b s) := by
    intro n
    induction n with
    | zero =>
      intro p x hp hpn hx e
      refine r_iload_n C dX3_beatsToForgetting_4 rfl rfl ?_
      refine r_bipush C dX3_beatsToForgetting_5 (by decide) ?_
      refine r_icmp_ge (tgt := 62) C dX3_beatsToForgetting_7 (by decide) (by omega) (by omega) (fun h7 => ?_) (fun h7 => ?_)
      · refine r_iload_n C dX3_beatsToForgetting_62 rfl rfl ?_
        exact r_iretD C dX3_beatsToForgetting_63 (by rw [← e]; rfl) rfl
      · exact absurd h7 (by omega)
    | succ n ih =>
      intro p x hp hpn hx e
      have hq := hs.rm (r := p) (by omega)
      have hqm := hq.many
      have hset := hs.set
      have hbl := blit_rng s p
      have hff := ffR_rng hq hbl hset
      refine r_iload_n C dX3_beatsToForgetting_4 rfl rfl ?_
      refine r_bipush C dX3_beatsToForgetting_5 (by decide) ?_
      refine r_icmp_ge (tgt := 62) C dX3_beatsToForgetting_7 (by decide) (by omega) (by omega) (fun h7 => ?_) (fun h7 => ?_)
      · exact absurd h7 (by omega)
      · refine r_aload_n C dX3_beatsToForgetting_10 rfl rfl ?_
        refine ss_get C flX3_11 dX3_beatsToForgetting_11 hb rfl ?_
        refine r_iload_n C dX3_beatsToForgetting_14 rfl rfl ?_
        refine ss_room C dX3_beatsToForgetting_15 hb (by omega) ?_
        refine sr_get C flX3_68 dX3_beatsToForgetting_16 hb (by omega) rfl ?_
        refine r_if_le (tgt := 56) C dX3_beatsToForgetting_19 (by decide) (by omega) (fun h19 => ?_) (fun h19 => ?_)
        · refine r_iinc C dX3_beatsToForgetting_56 rfl rfl ?_
          dsimp only [List.set]
          refine r_goto (tgt := 4) C dX3_beatsToForgetting_59 (by decide) ?_
          refine V_drop 3 ?_
          dsimp only [List.set]
          exact ih _ _ (by omega) (by omega) (by omega) (by rw [← e]; simp only [ntN]; first | rw [if_neg (by omega)] | rw [if_pos (by omega), if_pos (by omega)] | rw [if_pos (by omega), if_neg (by omega)])
        · refine r_aload_n C dX3_beatsToForgetting_22 rfl rfl ?_
          refine ss_get C flX3_11 dX3_beatsToForgetting_23 hb rfl ?_
          refine r_iload_n C dX3_beatsToForgetting_26 rfl rfl ?_
          refine ss_room C dX3_beatsToForgetting_27 hb (by omega) ?_
          refine r_aload_n C dX3_beatsToForgetting_28 rfl rfl ?_
          refine r_iload_n C dX3_beatsToForgetting_29 rfl rfl ?_
          refine r_cV C cwX3_158 (c_X3_beatsLit hb hs (by omega)) dX3_beatsToForgetting_30 rfl (by omega) sput_0 rfl rfl rfl (Nat.le_of_ble_eq_true rfl) ⟨Nat.le_of_ble_eq_true rfl, Nat.le_of_ble_eq_true rfl⟩ ⟨Nat.le_of_ble_eq_true rfl, Nat.le_of_ble_eq_true rfl⟩ ?_
          refine r_aload_n C dX3_beatsToForgetting_33 rfl rfl ?_
          refine ss_get C flX3_25 dX3_beatsToForgetting_34 hb rfl ?_
          refine r_cV C cwX3_161 (lift0 (by omega) (c_X1_beatsToFirstForgotten (by omega) hqm (by omega) (by omega) hq.darkI)) dX3_beatsToForgetting_37 rfl (by omega) (sput_r (by omega)) rfl rfl rfl (Nat.le_of_ble_eq_true rfl) ⟨Nat.le_of_ble_eq_true rfl, Nat.le_of_ble_eq_true rfl⟩ ⟨Nat.le_of_ble_eq_true rfl, Nat.le_of_ble_eq_true rfl⟩ ?_
          refine r_istore_n C dX3_beatsToForgetting_40 rfl (Nat.le_of_ble_eq_true rfl) rfl ?_
          dsimp only [List.set]
          refine r_iload_n C dX3_beatsToForgetting_41 rfl rfl ?_
          refine r_iconst C dX3_beatsToForgetting_42 ?_
          refine r_icmp_ne (tgt := 50) C dX3_beatsToForgetting_43 (by decide) (by omega) (by omega) (fun h43 => ?_) (fun h43 => ?_)
          · refine r_iload_n C dX3_beatsToForgetting_50 rfl rfl ?_
            refine r_iload_n C dX3_beatsToForgetting_51 rfl rfl ?_
            refine r_cS C cwX3_164 (c_J9_min_7cf53 (by omega) (by omega)) dX3_beatsToForgetting_52 rfl rfl rfl (Nat.le_of_ble_eq_true rfl) ⟨Nat.le_of_ble_eq_true rfl, Nat.le_of_ble_eq_true rfl⟩ ⟨Nat.le_of_ble_eq_true rfl, Nat.le_of_ble_eq_true rfl⟩ ?_
            refine r_istore_n C dX3_beatsToForgetting_55 rfl (Nat.le_of_ble_eq_true rfl) rfl ?_
            dsimp only [List.set]
            refine r_iinc C dX3_beatsToForgetting_56 rfl rfl ?_
            dsimp only [List.set]
            refine r_goto (tgt := 4) C dX3_beatsToForgetting_59 (by decide) ?_
            refine V_drop 3 ?_
            dsimp only [List.set]
            exact ih _ _ (by omega) (by omega) (by omega) (by rw [← e]; simp only [ntN]; first | rw [if_neg (by omega)] | rw [if_pos (by omega), if_pos (by omega)] | rw [if_pos (by omega), if_neg (by omega)])
          · refine r_iload_n C dX3_beatsToForgetting_46 rfl rfl ?_
            refine r_goto (tgt := 55) C dX3_beatsToForgetting_47 (by decide) ?_
            refine r_istore_n C dX3_beatsToForgetting_55 rfl (Nat.le_of_ble_eq_true rfl) rfl ?_
            dsimp only [List.set]
            refine r_iinc C dX3_beatsToForgetting_56 rfl rfl ?_
            dsimp only [List.set]
            refine r_goto (tgt := 4) C dX3_beatsToForgetting_59 (by decide) ?_
            refine V_drop 3 ?_
            dsimp only [List.set]
            exact ih _ _ (by omega) (by omega) (by omega) (by rw [← e]; simp only [ntN]; first | rw [if_neg (by omega)] | rw [if_pos (by omega), if_pos (by omega)] | rw [if_pos (by omega), if_neg (by omega)])
  exact lp 6 0 (-1) (by omega) (by omega) (by omega) rfl

set_option maxRecDepth 100000 in
set_option maxHeartbeats 4000000 in
theorem c_X3_candlesOnWay_up {l : Launch} {D : va_G} {ty : Nat → ClassId} {ad : Int → Nat} {N : Int} {σ : Int → va_E} {b : Int} {s : Int → Int} {q : Int} (hb : 0 ≤ b ∧ b + 20 ≤ N) (hs : okS s) (hq : 0 ≤ q ∧ q < 6) : gM0 l yX3_candlesOnWay cX3_candlesOnWay 6 (some .int) 3 65 [.ref (ad b), .int (gI q), .int (gI 1)] D ty ad N (sput ad ty σ b s) (some (.int (gI (onW s q 1 6 0)))) (sput ad ty σ b s) := by
  refine gMet_of [some (.ref (ad b)), some (.int (gI q)), some (.int (gI 1)), none, none, none] (by decide +kernel) rfl (Nat.le_of_ble_eq_true rfl) rfl ?_
  intro X hl hD hty C hini
  subst hl hD hty
  refine r_iconst C dX3_candlesOnWay_0 ?_
  refine r_istore_n C dX3_candlesOnWay_1 rfl (Nat.le_of_ble_eq_true rfl) rfl ?_
  dsimp only [List.set]
  have lp : ∀ (n : Nat) (l : Int), (0 ≤ l) → (l + n = 6) → (onW s q 1 n l = onW s q 1 6 0) → V X 0 0 (gQ X (gD (some (.int (gI (onW s q 1 6 0)))) ad N (sput ad (gty X) σ b s)) 0 0) 2 [some (.ref (ad b)), some (.int (gI q)), some (.int (gI 1)), some (.int (gI l)), none, none] [] ad N (sput ad (gty X) σ b s) := by
    intro n
    induction n with
    | zero =>
      intro l hp hpn e
      refine r_iload_n C dX3_candlesOnWay_2 rfl rfl ?_
      refine r_bipush C dX3_candlesOnWay_3 (by decide) ?_
      refine r_icmp_ge (tgt := 76) C dX3_candlesOnWay_5 (by decide) (by omega) (by omega) (fun h5 => ?_) (fun h5 => ?_)
      · refine r_iconst C dX3_candlesOnWay_76 ?_
        exact r_iretD C dX3_candlesOnWay_77 (by rw [← e]; rfl) rfl
      · exact absurd h5 (by omega)
    | succ n ih =>
      intro l hp hpn e
      have hh := hs.rm (r := (q + l * 1) % 6) (by omega)
      have hhb := hh.bur
      have hhl := hh.len
      refine r_iload_n C dX3_candlesOnWay_2 rfl rfl ?_
      refine r_bipush C dX3_candlesOnWay_3 (by decide) ?_
      refine r_icmp_ge (tgt := 76) C dX3_candlesOnWay_5 (by decide) (by omega) (by omega) (fun h5 => ?_) (fun h5 => ?_)
      · exact absurd h5 (by omega)
      · refine r_iload_n C dX3_candlesOnWay_8 rfl rfl ?_
        refine r_iload_n C dX3_candlesOnWay_9 rfl rfl ?_
        refine r_iload_n C dX3_candlesOnWay_10 rfl rfl ?_
        refine r_imul C dX3_candlesOnWay_11 ?_
        refine r_iadd C dX3_candlesOnWay_12 ?_
        refine r_bipush C dX3_candlesOnWay_13 (by decide) ?_
        refine r_cS C cwX3_50 (c_J9_floorMod_7cf53 (by omega) (by omega)) dX3_candlesOnWay_15 rfl rfl rfl (Nat.le_of_ble_eq_true rfl) ⟨Nat.le_of_ble_eq_true rfl, Nat.le_of_ble_eq_true rfl⟩ ⟨Nat.le_of_ble_eq_true rfl, Nat.le_of_ble_eq_true rfl⟩ ?_
        refine r_istore C dX3_candlesOnWay_18 (Nat.le_of_ble_eq_true rfl) rfl ?_
        dsimp only [List.set]
        refine r_aload_n C dX3_candlesOnWay_20 rfl rfl ?_
        refine r_iload C dX3_candlesOnWay_21 rfl ?_
        refine r_cV C cwX3_64 (c_X3_roomAt0 hb (by omega)) dX3_candlesOnWay_23 rfl (by omega) sput_0 rfl rfl rfl (Nat.le_of_ble_eq_true rfl) ⟨Nat.le_of_ble_eq_true rfl, Nat.le_of_ble_eq_true rfl⟩ ⟨Nat.le_of_ble_eq_true rfl, Nat.le_of_ble_eq_true rfl⟩ ?_
        refine sr_get C flX3_56 dX3_candlesOnWay_26 hb (by omega) rfl ?_
        refine r_if_eq (tgt := 34) C dX3_candlesOnWay_29 (by decide) (by omega) (fun h29 => ?_) (fun h29 => ?_)
        · refine r_iload C dX3_candlesOnWay_34 rfl ?_
          refine r_iload_n C dX3_candlesOnWay_36 rfl rfl ?_
          refine r_iadd C dX3_candlesOnWay_37 ?_
          refine r_bipush C dX3_candlesOnWay_38 (by decide) ?_
          refine r_cS C cwX3_50 (c_J9_floorMod_7cf53 (by omega) (by omega)) dX3_candlesOnWay_40 rfl rfl rfl (Nat.le_of_ble_eq_true rfl) ⟨Nat.le_of_ble_eq_true rfl, Nat.le_of_ble_eq_true rfl⟩ ⟨Nat.le_of_ble_eq_true rfl, Nat.le_of_ble_eq_true rfl⟩ ?_
          refine r_istore C dX3_candlesOnWay_43 (Nat.le_of_ble_eq_true rfl) rfl ?_
          dsimp only [List.set]
          refine r_aload_n C dX3_candlesOnWay_45 rfl rfl ?_
          refine r_iload C dX3_candlesOnWay_46 rfl ?_
          refine r_cV C cwX3_64 (c_X3_roomAt0 hb (by omega)) dX3_candlesOnWay_48 rfl (by omega) sput_0 rfl rfl rfl (Nat.le_of_ble_eq_true rfl) ⟨Nat.le_of_ble_eq_true rfl, Nat.le_of_ble_eq_true rfl⟩ ⟨Nat.le_of_ble_eq_true rfl, Nat.le_of_ble_eq_true rfl⟩ ?_
          refine sr_get C flX3_85 dX3_candlesOnWay_51 hb (by omega) rfl ?_
          refine r_if_eq (tgt := 68) C dX3_candlesOnWay_54 (by decide) (by omega) (fun h54 => ?_) (fun h54 => ?_)
          · refine r_iconst C dX3_candlesOnWay_68 ?_
            exact r_iretD C dX3_candlesOnWay_69 (by rw [← e]; simp only [onW]; rw [if_neg (by omega)]; first | rw [if_pos (Or.inl h54)] | rw [if_pos (Or.inr h65)]) rfl
          · refine r_aload_n C dX3_candlesOnWay_57 rfl rfl ?_
            refine r_iload C dX3_candlesOnWay_58 rfl ?_
            refine r_iload C dX3_candlesOnWay_60 rfl ?_
            refine r_cV C cwX3_88 (c_X3_areJoined hb hs (by omega) (by omega)) dX3_candlesOnWay_62 rfl (by omega) sput_0 rfl rfl rfl (Nat.le_of_ble_eq_true rfl) ⟨Nat.le_of_ble_eq_true rfl, Nat.le_of_ble_eq_true rfl⟩ ⟨Nat.le_of_ble_eq_true rfl, Nat.le_of_ble_eq_true rfl⟩ ?_
            refine r_ifb_ne (tgt := 70) C dX3_candlesOnWay_65 (by decide) (fun h65 => ?_) (fun h65 => ?_)
            · refine r_iinc C dX3_candlesOnWay_70 rfl rfl ?_
              dsimp only [List.set]
              refine r_goto (tgt := 2) C dX3_candlesOnWay_73 (by decide) ?_
              refine V_sub (L' := [some (.ref (ad b)), some (.int (gI q)), some (.int (gI 1)), some (.int (gI (l + 1))), none, none]) rfl (fun i v hv => by match i, hv with | 0, hv => exact hv | 1, hv => exact hv | 2, hv => exact hv | 3, hv => exact hv | 4, hv => simp at hv | 5, hv => simp at hv | i + 6, hv => simp at hv) ?_
              exact ih _ (by omega) (by omega) (by rw [← e]; simp only [onW]; rw [if_neg (by omega), if_neg (fun h => h.elim (fun h => h54 h) (fun h => h h65))])
            · refine r_iconst C dX3_candlesOnWay_68 ?_
              exact r_iretD C dX3_candlesOnWay_69 (by rw [← e]; simp only [onW]; rw [if_neg (by omega)]; first | rw [if_pos (Or.inl h54)] | rw [if_pos (Or.inr h65)]) rfl
        · refine r_iload_n C dX3_candlesOnWay_32 rfl rfl ?_
          exact r_iretD C dX3_candlesOnWay_33 (by rw [← e]; simp only [onW]; rw [if_pos (by omega)]) rfl
  exact lp 6 0 (by omega) (by omega) rfl

set_option maxRecDepth 100000 in
set_option maxHeartbeats 4000000 in
theorem c_X3_candlesOnWay_dn {l : Launch} {D : va_G} {ty : Nat → ClassId} {ad : Int → Nat} {N : Int} {σ : Int → va_E} {b : Int} {s : Int → Int} {q : Int} (hb : 0 ≤ b ∧ b + 20 ≤ N) (hs : okS s) (hq : 0 ≤ q ∧ q < 6) : gM0 l yX3_candlesOnWay cX3_candlesOnWay 6 (some .int) 3 65 [.ref (ad b), .int (gI q), .int (gI (-1))] D ty ad N (sput ad ty σ b s) (some (.int (gI (onW s q (-1) 6 0)))) (sput ad ty σ b s) := by
  refine gMet_of [some (.ref (ad b)), some (.int (gI q)), some (.int (gI (-1))), none, none, none] (by decide +kernel) rfl (Nat.le_of_ble_eq_true rfl) rfl ?_
  intro X hl hD hty C hini
  subst hl hD hty
  refine r_iconst C dX3_candlesOnWay_0 ?_
  refine r_istore_n C dX3_candlesOnWay_1 rfl (Nat.le_of_ble_eq_true rfl) rfl ?_
  dsimp only [List.set]
  have lp : ∀ (n : Nat) (l : Int), (0 ≤ l) → (l + n = 6) → (onW s q (-1) n l = onW s q (-1) 6 0) → V X 0 0 (gQ X (gD (some (.int (gI (onW s q (-1) 6 0)))) ad N (sput ad (gty X) σ b s)) 0 0) 2 [some (.ref (ad b)), some (.int (gI q)), some (.int (gI (-1))), some (.int (gI l)), none, none] [] ad N (sput ad (gty X) σ b s) := by
    intro n
    induction n with
    | zero =>
      intro l hp hpn e
      refine r_iload_n C dX3_candlesOnWay_2 rfl rfl ?_
      refine r_bipush C dX3_candlesOnWay_3 (by decide) ?_
      refine r_icmp_ge (tgt := 76) C dX3_candlesOnWay_5 (by decide) (by omega) (by omega) (fun h5 => ?_) (fun h5 => ?_)
      · refine r_iconst C dX3_candlesOnWay_76 ?_
        exact r_iretD C dX3_candlesOnWay_77 (by rw [← e]; rfl) rfl
      · exact absurd h5 (by omega)
    | succ n ih =>
      intro l hp hpn e
      have hh := hs.rm (r := (q + l * (-1)) % 6) (by omega)
      have hhb := hh.bur
      have hhl := hh.len
      refine r_iload_n C dX3_candlesOnWay_2 rfl rfl ?_
      refine r_bipush C dX3_candlesOnWay_3 (by decide) ?_
      refine r_icmp_ge (tgt := 76) C dX3_candlesOnWay_5 (by decide) (by omega) (by omega) (fun h5 => ?_) (fun h5 => ?_)
      · exact absurd h5 (by omega)
      · refine r_iload_n C dX3_candlesOnWay_8 rfl rfl ?_
        refine r_iload_n C dX3_candlesOnWay_9 rfl rfl ?_
        refine r_iload_n C dX3_candlesOnWay_10 rfl rfl ?_
        refine r_imul C dX3_candlesOnWay_11 ?_
        refine r_iadd C dX3_candlesOnWay_12 ?_
        refine r_bipush C dX3_candlesOnWay_13 (by decide) ?_
        refine r_cS C cwX3_50 (c_J9_floorMod_7cf53 (by omega) (by omega)) dX3_candlesOnWay_15 rfl rfl rfl (Nat.le_of_ble_eq_true rfl) ⟨Nat.le_of_ble_eq_true rfl, Nat.le_of_ble_eq_true rfl⟩ ⟨Nat.le_of_ble_eq_true rfl, Nat.le_of_ble_eq_true rfl⟩ ?_
        refine r_istore C dX3_candlesOnWay_18 (Nat.le_of_ble_eq_true rfl) rfl ?_
        dsimp only [List.set]
        refine r_aload_n C dX3_candlesOnWay_20 rfl rfl ?_
        refine r_iload C dX3_candlesOnWay_21 rfl ?_
        refine r_cV C cwX3_64 (c_X3_roomAt0 hb (by omega)) dX3_candlesOnWay_23 rfl (by omega) sput_0 rfl rfl rfl (Nat.le_of_ble_eq_true rfl) ⟨Nat.le_of_ble_eq_true rfl, Nat.le_of_ble_eq_true rfl⟩ ⟨Nat.le_of_ble_eq_true rfl, Nat.le_of_ble_eq_true rfl⟩ ?_
        refine sr_get C flX3_56 dX3_candlesOnWay_26 hb (by omega) rfl ?_
        refine r_if_eq (tgt := 34) C dX3_candlesOnWay_29 (by decide) (by omega) (fun h29 => ?_) (fun h29 => ?_)
        · refine r_iload C dX3_candlesOnWay_34 rfl ?_
          refine r_iload_n C dX3_candlesOnWay_36 rfl rfl ?_
          refine r_iadd C dX3_candlesOnWay_37 ?_
          refine r_bipush C dX3_candlesOnWay_38 (by decide) ?_
          refine r_cS C cwX3_50 (c_J9_floorMod_7cf53 (by omega) (by omega)) dX3_candlesOnWay_40 rfl rfl rfl (Nat.le_of_ble_eq_true rfl) ⟨Nat.le_of_ble_eq_true rfl, Nat.le_of_ble_eq_true rfl⟩ ⟨Nat.le_of_ble_eq_true rfl, Nat.le_of_ble_eq_true rfl⟩ ?_
          refine r_istore C dX3_candlesOnWay_43 (Nat.le_of_ble_eq_true rfl) rfl ?_
          dsimp only [List.set]
          refine r_aload_n C dX3_candlesOnWay_45 rfl rfl ?_
          refine r_iload C dX3_candlesOnWay_46 rfl ?_
          refine r_cV C cwX3_64 (c_X3_roomAt0 hb (by omega)) dX3_candlesOnWay_48 rfl (by omega) sput_0 rfl rfl rfl (Nat.le_of_ble_eq_true rfl) ⟨Nat.le_of_ble_eq_true rfl, Nat.le_of_ble_eq_true rfl⟩ ⟨Nat.le_of_ble_eq_true rfl, Nat.le_of_ble_eq_true rfl⟩ ?_
          refine sr_get C flX3_85 dX3_candlesOnWay_51 hb (by omega) rfl ?_
          refine r_if_eq (tgt := 68) C dX3_candlesOnWay_54 (by decide) (by omega) (fun h54 => ?_) (fun h54 => ?_)
          · refine r_iconst C dX3_candlesOnWay_68 ?_
            exact r_iretD C dX3_candlesOnWay_69 (by rw [← e]; simp only [onW]; rw [if_neg (by omega)]; first | rw [if_pos (Or.inl h54)] | rw [if_pos (Or.inr h65)]) rfl
          · refine r_aload_n C dX3_candlesOnWay_57 rfl rfl ?_
            refine r_iload C dX3_candlesOnWay_58 rfl ?_
            refine r_iload C dX3_candlesOnWay_60 rfl ?_
            refine r_cV C cwX3_88 (c_X3_areJoined hb hs (by omega) (by omega)) dX3_candlesOnWay_62 rfl (by omega) sput_0 rfl rfl rfl (Nat.le_of_ble_eq_true rfl) ⟨Nat.le_of_ble_eq_true rfl, Nat.le_of_ble_eq_true rfl⟩ ⟨Nat.le_of_ble_eq_true rfl, Nat.le_of_ble_eq_true rfl⟩ ?_
            refine r_ifb_ne (tgt := 70) C dX3_candlesOnWay_65 (by decide) (fun h65 => ?_) (fun h65 => ?_)
            · refine r_iinc C dX3_candlesOnWay_70 rfl rfl ?_
              dsimp only [List.set]
              refine r_goto (tgt := 2) C dX3_candlesOnWay_73 (by decide) ?_
              refine V_sub (L' := [some (.ref (ad b)), some (.int (gI q)), some (.int (gI (-1))), some (.int (gI (l + 1))), none, none]) rfl (fun i v hv => by match i, hv with | 0, hv => exact hv | 1, hv => exact hv | 2, hv => exact hv | 3, hv => exact hv | 4, hv => simp at hv | 5, hv => simp at hv | i + 6, hv => simp at hv) ?_
              exact ih _ (by omega) (by omega) (by rw [← e]; simp only [onW]; rw [if_neg (by omega), if_neg (fun h => h.elim (fun h => h54 h) (fun h => h h65))])
            · refine r_iconst C dX3_candlesOnWay_68 ?_
              exact r_iretD C dX3_candlesOnWay_69 (by rw [← e]; simp only [onW]; rw [if_neg (by omega)]; first | rw [if_pos (Or.inl h54)] | rw [if_pos (Or.inr h65)]) rfl
        · refine r_iload_n C dX3_candlesOnWay_32 rfl rfl ?_
          exact r_iretD C dX3_candlesOnWay_33 (by rw [← e]; simp only [onW]; rw [if_pos (by omega)]) rfl
  exact lp 6 0 (by omega) (by omega) rfl

set_option maxRecDepth 100000 in
set_option maxHeartbeats 4000000 in
theorem c_X3_candlesToLight {l : Launch} {D : va_G} {ty : Nat → ClassId} {ad : Int → Nat} {N : Int} {σ : Int → va_E} {b : Int} {s : Int → Int} {q : Int} (hb : 0 ≤ b ∧ b + 20 ≤ N) (hs : okS s) (hq : 0 ≤ q ∧ q < 6) : gM0 l yX3_candlesToLight cX3_candlesToLight 4 (some .int) 4 90 [.ref (ad b), .int (gI q)] D ty ad N (sput ad ty σ b s) (some (.int (gI (toL s q)))) (sput ad ty σ b s) := by
  refine gMet_of [some (.ref (ad b)), some (.int (gI q)), none, none] (by decide +kernel) rfl (Nat.le_of_ble_eq_true rfl) rfl ?_
  intro X hl hD hty C hini
  subst hl hD hty
  have hcb := cb_rng hs
  have hql := (hs.rm hq).len
  have h1 := onW_rng s q (-1) 6 0
  have h2 := onW_rng s q 1 6 0
  refine r_aload_n C dX3_candlesToLight_0 rfl rfl ?_
  refine r_cV C cwX3_81 (c_X3_candlesBurning hb hs) dX3_candlesToLight_1 rfl (by omega) sput_0 rfl rfl rfl (Nat.le_of_ble_eq_true rfl) ⟨Nat.le_of_ble_eq_true rfl, Nat.le_of_ble_eq_true rfl⟩ ⟨Nat.le_of_ble_eq_true rfl, Nat.le_of_ble_eq_true rfl⟩ ?_
  refine r_if_ne (tgt := 24) C dX3_candlesToLight_4 (by decide) (by omega) (fun h4 => ?_) (fun h4 => ?_)
  · refine r_aload_n C dX3_candlesToLight_24 rfl rfl ?_
    refine r_iload_n C dX3_candlesToLight_25 rfl rfl ?_
    refine r_iconst C dX3_candlesToLight_26 ?_
    refine r_cV C cwX3_167 (c_X3_candlesOnWay_dn hb hs hq) dX3_candlesToLight_27 rfl (by omega) sput_0 rfl rfl rfl (Nat.le_of_ble_eq_true rfl) ⟨Nat.le_of_ble_eq_true rfl, Nat.le_of_ble_eq_true rfl⟩ ⟨Nat.le_of_ble_eq_true rfl, Nat.le_of_ble_eq_true rfl⟩ ?_
    refine r_istore_n C dX3_candlesToLight_30 rfl (Nat.le_of_ble_eq_true rfl) rfl ?_
    dsimp only [List.set]
    refine r_aload_n C dX3_candlesToLight_31 rfl rfl ?_
    refine r_iload_n C dX3_candlesToLight_32 rfl rfl ?_
    refine r_iconst C dX3_candlesToLight_33 ?_
    refine r_cV C cwX3_167 (c_X3_candlesOnWay_up hb hs hq) dX3_candlesToLight_34 rfl (by omega) sput_0 rfl rfl rfl (Nat.le_of_ble_eq_true rfl) ⟨Nat.le_of_ble_eq_true rfl, Nat.le_of_ble_eq_true rfl⟩ ⟨Nat.le_of_ble_eq_true rfl, Nat.le_of_ble_eq_true rfl⟩ ?_
    refine r_istore_n C dX3_candlesToLight_37 rfl (Nat.le_of_ble_eq_true rfl) rfl ?_
    dsimp only [List.set]
    refine r_iload_n C dX3_candlesToLight_38 rfl rfl ?_
    refine r_iconst C dX3_candlesToLight_39 ?_
    refine r_icmp_ne (tgt := 45) C dX3_candlesToLight_40 (by decide) (by omega) (by omega) (fun h40 => ?_) (fun h40 => ?_)
    · refine r_iload_n C dX3_candlesToLight_45 rfl rfl ?_
      refine r_iconst C dX3_candlesToLight_46 ?_
      refine r_icmp_ne (tgt := 54) C dX3_candlesToLight_47 (by decide) (by omega) (by omega) (fun h47 => ?_) (fun h47 => ?_)
      · refine r_iload_n C dX3_candlesToLight_54 rfl rfl ?_
        refine r_iload_n C dX3_candlesToLight_55 rfl rfl ?_
        refine r_cS C cwX3_164 (c_J9_min_7cf53 (by omega) (by omega)) dX3_candlesToLight_56 rfl rfl rfl (Nat.le_of_ble_eq_true rfl) ⟨Nat.le_of_ble_eq_true rfl, Nat.le_of_ble_eq_true rfl⟩ ⟨Nat.le_of_ble_eq_true rfl, Nat.le_of_ble_eq_true rfl⟩ ?_
        exact r_iretD C dX3_candlesToLight_59 (by unfold toL; first | rw [if_pos (by omega), if_pos (by omega)] | rw [if_pos (by omega), if_neg (by omega)] | rw [if_neg (by omega), if_pos (by omega)] | rw [if_neg (by omega), if_neg (by omega), if_pos (by omega)] | rw [if_neg (by omega), if_neg (by omega), if_neg (by omega)]) rfl
      · refine r_iload_n C dX3_candlesToLight_50 rfl rfl ?_
        refine r_goto (tgt := 59) C dX3_candlesToLight_51 (by decide) ?_
        exact r_iretD C dX3_candlesToLight_59 (by unfold toL; first | rw [if_pos (by omega), if_pos (by omega)] | rw [if_pos (by omega), if_neg (by omega)] | rw [if_neg (by omega), if_pos (by omega)] | rw [if_neg (by omega), if_neg (by omega), if_pos (by omega)] | rw [if_neg (by omega), if_neg (by omega), if_neg (by omega)]) rfl
    · refine r_iload_n C dX3_candlesToLight_43 rfl rfl ?_
      exact r_iretD C dX3_candlesToLight_44 (by unfold toL; first | rw [if_pos (by omega), if_pos (by omega)] | rw [if_pos (by omega), if_neg (by omega)] | rw [if_neg (by omega), if_pos (by omega)] | rw [if_neg (by omega), if_neg (by omega), if_pos (by omega)] | rw [if_neg (by omega), if_neg (by omega), if_neg (by omega)]) rfl
  · refine r_aload_n C dX3_candlesToLight_7 rfl rfl ?_
    refine r_iload_n C dX3_candlesToLight_8 rfl rfl ?_
    refine r_cV C cwX3_64 (c_X3_roomAt0 hb (by omega)) dX3_candlesToLight_9 rfl (by omega) sput_0 rfl rfl rfl (Nat.le_of_ble_eq_true rfl) ⟨Nat.le_of_ble_eq_true rfl, Nat.le_of_ble_eq_true rfl⟩ ⟨Nat.le_of_ble_eq_true rfl, Nat.le_of_ble_eq_true rfl⟩ ?_
    refine sr_get C flX3_85 dX3_candlesToLight_12 hb (by omega) rfl ?_
    refine r_if_le (tgt := 22) C dX3_candlesToLight_15 (by decide) (by omega) (fun h15 => ?_) (fun h15 => ?_)
    · refine r_iconst C dX3_candlesToLight_22 ?_
      exact r_iretD C dX3_candlesToLight_23 (by unfold toL; first | rw [if_pos (by omega), if_pos (by omega)] | rw [if_pos (by omega), if_neg (by omega)] | rw [if_neg (by omega), if_pos (by omega)] | rw [if_neg (by omega), if_neg (by omega), if_pos (by omega)] | rw [if_neg (by omega), if_neg (by omega), if_neg (by omega)]) rfl
    · refine r_iconst C dX3_candlesToLight_18 ?_
      refine r_goto (tgt := 23) C dX3_candlesToLight_19 (by decide) ?_
      exact r_iretD C dX3_candlesToLight_23 (by unfold toL; first | rw [if_pos (by omega), if_pos (by omega)] | rw [if_pos (by omega), if_neg (by omega)] | rw [if_neg (by omega), if_pos (by omega)] | rw [if_neg (by omega), if_neg (by omega), if_pos (by omega)] | rw [if_neg (by omega), if_neg (by omega), if_neg (by omega)]) rfl

set_option maxRecDepth 100000 in
set_option maxHeartbeats 4000000 in
theorem c_X3_isNeedier {l : Launch} {D : va_G} {ty : Nat → ClassId} {ad : Int → Nat} {N : Int} {σ : Int → va_E} {b : Int} {s : Int → Int} {r o : Int} (hb : 0 ≤ b ∧ b + 20 ≤ N) (hs : okS s) (hr : 0 ≤ r ∧ r < 6) (ho : 0 ≤ o ∧ o < 6) : gM0 l yX3_isNeedier cX3_isNeedier 5 (some .boolean) 2 43 [.ref (ad b), .int (gI r), .int (gI o)] D ty ad N (sput ad ty σ b s) (some (.int (gI (gB (needr s r o))))) (sput ad ty σ b s) := by
  refine gMet_of [some (.ref (ad b)), some (.int (gI r)), some (.int (gI o)), none, none] (by decide +kernel) rfl (Nat.le_of_ble_eq_true rfl) rfl ?_
  intro X hl hD hty C hini
  subst hl hD hty
  have hq := hs.rm hr
  have hql := hq.len
  have hqm := hq.many
  have hp := hs.rm ho
  have hpl := hp.len
  have hpm := hp.many
  refine r_aload_n C dX3_isNeedier_0 rfl rfl ?_
  refine r_iload_n C dX3_isNeedier_1 rfl rfl ?_
  refine r_cV C cwX3_64 (c_X3_roomAt0 hb (by omega)) dX3_isNeedier_2 rfl (by omega) sput_0 rfl rfl rfl (Nat.le_of_ble_eq_true rfl) ⟨Nat.le_of_ble_eq_true rfl, Nat.le_of_ble_eq_true rfl⟩ ⟨Nat.le_of_ble_eq_true rfl, Nat.le_of_ble_eq_true rfl⟩ ?_
  refine r_astore_n C dX3_isNeedier_5 rfl (Nat.le_of_ble_eq_true rfl) rfl ?_
  dsimp only [List.set]
  refine r_aload_n C dX3_isNeedier_6 rfl rfl ?_
  refine r_iload_n C dX3_isNeedier_7 rfl rfl ?_
  refine r_cV C cwX3_64 (c_X3_roomAt0 hb (by omega)) dX3_isNeedier_8 rfl (by omega) sput_0 rfl rfl rfl (Nat.le_of_ble_eq_true rfl) ⟨Nat.le_of_ble_eq_true rfl, Nat.le_of_ble_eq_true rfl⟩ ⟨Nat.le_of_ble_eq_true rfl, Nat.le_of_ble_eq_true rfl⟩ ?_
  refine r_astore C dX3_isNeedier_11 (Nat.le_of_ble_eq_true rfl) rfl ?_
  dsimp only [List.set]
  refine r_aload_n C dX3_isNeedier_13 rfl rfl ?_
  refine sr_get C flX3_85 dX3_isNeedier_14 hb (by omega) rfl ?_
  refine r_aload C dX3_isNeedier_17 rfl ?_
  refine sr_get C flX3_85 dX3_isNeedier_19 hb (by omega) rfl ?_
  refine r_icmp_eq (tgt := 43) C dX3_isNeedier_22 (by decide) (by omega) (by omega) (fun h22 => ?_) (fun h22 => ?_)
  · refine r_aload_n C dX3_isNeedier_43 rfl rfl ?_
    refine sr_get C flX3_68 dX3_isNeedier_44 hb (by omega) rfl ?_
    refine r_aload C dX3_isNeedier_47 rfl ?_
    refine sr_get C flX3_68 dX3_isNeedier_49 hb (by omega) rfl ?_
    refine r_icmp_le (tgt := 59) C dX3_isNeedier_52 (by decide) (by omega) (by omega) (fun h52 => ?_) (fun h52 => ?_)
    · refine r_iconst C dX3_isNeedier_59 ?_
      exact r_zretD C dX3_isNeedier_60 (by omega) (by first | exact (gB_t (by unfold needr; omega)).symm | exact (gB_f (by unfold needr; omega)).symm) rfl
    · refine r_iconst C dX3_isNeedier_55 ?_
      refine r_goto (tgt := 60) C dX3_isNeedier_56 (by decide) ?_
      exact r_zretD C dX3_isNeedier_60 (by omega) (by first | exact (gB_t (by unfold needr; omega)).symm | exact (gB_f (by unfold needr; omega)).symm) rfl
  · refine r_aload_n C dX3_isNeedier_25 rfl rfl ?_
    refine sr_get C flX3_85 dX3_isNeedier_26 hb (by omega) rfl ?_
    refine r_aload C dX3_isNeedier_29 rfl ?_
    refine sr_get C flX3_85 dX3_isNeedier_31 hb (by omega) rfl ?_
    refine r_icmp_ge (tgt := 41) C dX3_isNeedier_34 (by decide) (by omega) (by omega) (fun h34 => ?_) (fun h34 => ?_)
    · refine r_iconst C dX3_isNeedier_41 ?_
      exact r_zretD C dX3_isNeedier_42 (by omega) (by first | exact (gB_t (by unfold needr; omega)).symm | exact (gB_f (by unfold needr; omega)).symm) rfl
    · refine r_iconst C dX3_isNeedier_37 ?_
      refine r_goto (tgt := 42) C dX3_isNeedier_38 (by decide) ?_
      exact r_zretD C dX3_isNeedier_42 (by omega) (by first | exact (gB_t (by unfold needr; omega)).symm | exact (gB_f (by unfold needr; omega)).symm) rfl

set_option maxRecDepth 100000 in
set_option maxHeartbeats 4000000 in
theorem c_X3_neediest {l : Launch} {D : va_G} {ty : Nat → ClassId} {ad : Int → Nat} {N : Int} {σ : Int → va_E} {b : Int} {s : Int → Int} (hb : 0 ≤ b ∧ b + 20 ≤ N) (hs : okS s) : gM0 l yX3_neediest cX3_neediest 3 (some .int) 3 67 [.ref (ad b)] D ty ad N (sput ad ty σ b s) (some (.int (gI (needS s)))) (sput ad ty σ b s) := by
  refine gMet_of [some (.ref (ad b)), none, none] (by decide +kernel) rfl (Nat.le_of_ble_eq_true rfl) rfl ?_
  intro X hl hD hty C hini
  subst hl hD hty
  refine r_iconst C dX3_neediest_0 ?_
  refine r_istore_n C dX3_neediest_1 rfl (Nat.le_of_ble_eq_true rfl) rfl ?_
  dsimp only [List.set]
  refine r_iconst C dX3_neediest_2 ?_
  refine r_istore_n C dX3_neediest_3 rfl (Nat.le_of_ble_eq_true rfl) rfl ?_
  dsimp only [List.set]
  have lp : ∀ (n : Nat) (p x : Int), (0 ≤ p) → (p + n = 6) → (-1 ≤ x ∧ x < 6) → (ndN s n p x = needS s) → V X 0 0 (gQ X (gD (some (.int (gI (needS s)))) ad N (sput ad (gty X) σ b s)) 0 0) 4 [some (.ref (ad b)), some (.int (gI x)), some (.int (gI p))] [] ad N (sput ad (gty X) σ b s) := by
    intro n
    induction n with
    | zero =>
      intro p x hp hpn hx e
      refine r_iload_n C dX3_neediest_4 rfl rfl ?_
      refine r_bipush C dX3_neediest_5 (by decide) ?_
      refine r_icmp_ge (tgt := 44) C dX3_neediest_7 (by decide) (by omega) (by omega) (fun h7 => ?_) (fun h7 => ?_)
      · refine r_iload_n C dX3_neediest_44 rfl rfl ?_
        exact r_iretD C dX3_neediest_45 (by rw [← e]; rfl) rfl
      · exact absurd h7 (by omega)
    | succ n ih =>
      intro p x hp hpn hx e
      have hqm := (hs.rm (r := p) (by omega)).many
      refine r_iload_n C dX3_neediest_4 rfl rfl ?_
      refine r_bipush C dX3_neediest_5 (by decide) ?_
      refine r_icmp_ge (tgt := 44) C dX3_neediest_7 (by decide) (by omega) (by omega) (fun h7 => ?_) (fun h7 => ?_)
      · exact absurd h7 (by omega)
      · refine r_aload_n C dX3_neediest_10 rfl rfl ?_
        refine ss_get C flX3_11 dX3_neediest_11 hb rfl ?_
        refine r_iload_n C dX3_neediest_14 rfl rfl ?_
        refine ss_room C dX3_neediest_15 hb (by omega) ?_
        refine sr_get C flX3_68 dX3_neediest_16 hb (by omega) rfl ?_
        refine r_if_le (tgt := 38) C dX3_neediest_19 (by decide) (by omega) (fun h19 => ?_) (fun h19 => ?_)
        · refine r_iinc C dX3_neediest_38 rfl rfl ?_
          dsimp only [List.set]
          refine r_goto (tgt := 4) C dX3_neediest_41 (by decide) ?_
          first
          | exact ih _ p (by omega) (by omega) (by omega) (by rw [← e]; simp only [ndN]; first | rw [if_pos ⟨by omega, Or.inl (by omega)⟩] | rw [if_pos ⟨by omega, Or.inr h33⟩])
          | exact ih _ x (by omega) (by omega) (by omega) (by rw [← e]; simp only [ndN]; first | rw [if_neg (fun h => absurd h.1 (by omega))] | rw [if_neg (fun h => h.2.elim (fun h => absurd h (by omega)) (fun h => h33 h))])
        · refine r_iload_n C dX3_neediest_22 rfl rfl ?_
          refine r_iconst C dX3_neediest_23 ?_
          refine r_icmp_eq (tgt := 36) C dX3_neediest_24 (by decide) (by omega) (by omega) (fun h24 => ?_) (fun h24 => ?_)
          · refine r_iload_n C dX3_neediest_36 rfl rfl ?_
            refine r_istore_n C dX3_neediest_37 rfl (Nat.le_of_ble_eq_true rfl) rfl ?_
            dsimp only [List.set]
            refine r_iinc C dX3_neediest_38 rfl rfl ?_
            dsimp only [List.set]
            refine r_goto (tgt := 4) C dX3_neediest_41 (by decide) ?_
            first
            | exact ih _ p (by omega) (by omega) (by omega) (by rw [← e]; simp only [ndN]; first | rw [if_pos ⟨by omega, Or.inl (by omega)⟩] | rw [if_pos ⟨by omega, Or.inr h33⟩])
            | exact ih _ x (by omega) (by omega) (by omega) (by rw [← e]; simp only [ndN]; first | rw [if_neg (fun h => absurd h.1 (by omega))] | rw [if_neg (fun h => h.2.elim (fun h => absurd h (by omega)) (fun h => h33 h))])
          · refine r_aload_n C dX3_neediest_27 rfl rfl ?_
            refine r_iload_n C dX3_neediest_28 rfl rfl ?_
            refine r_iload_n C dX3_neediest_29 rfl rfl ?_
            refine r_cV C cwX3_170 (c_X3_isNeedier hb hs (by omega) (by omega)) dX3_neediest_30 rfl (by omega) sput_0 rfl rfl rfl (Nat.le_of_ble_eq_true rfl) ⟨Nat.le_of_ble_eq_true rfl, Nat.le_of_ble_eq_true rfl⟩ ⟨Nat.le_of_ble_eq_true rfl, Nat.le_of_ble_eq_true rfl⟩ ?_
            refine r_ifb_eq (tgt := 38) C dX3_neediest_33 (by decide) (fun h33 => ?_) (fun h33 => ?_)
            · refine r_iinc C dX3_neediest_38 rfl rfl ?_
              dsimp only [List.set]
              refine r_goto (tgt := 4) C dX3_neediest_41 (by decide) ?_
              first
              | exact ih _ p (by omega) (by omega) (by omega) (by rw [← e]; simp only [ndN]; first | rw [if_pos ⟨by omega, Or.inl (by omega)⟩] | rw [if_pos ⟨by omega, Or.inr h33⟩])
              | exact ih _ x (by omega) (by omega) (by omega) (by rw [← e]; simp only [ndN]; first | rw [if_neg (fun h => absurd h.1 (by omega))] | rw [if_neg (fun h => h.2.elim (fun h => absurd h (by omega)) (fun h => h33 h))])
            · refine r_iload_n C dX3_neediest_36 rfl rfl ?_
              refine r_istore_n C dX3_neediest_37 rfl (Nat.le_of_ble_eq_true rfl) rfl ?_
              dsimp only [List.set]
              refine r_iinc C dX3_neediest_38 rfl rfl ?_
              dsimp only [List.set]
              refine r_goto (tgt := 4) C dX3_neediest_41 (by decide) ?_
              first
              | exact ih _ p (by omega) (by omega) (by omega) (by rw [← e]; simp only [ndN]; first | rw [if_pos ⟨by omega, Or.inl (by omega)⟩] | rw [if_pos ⟨by omega, Or.inr h33⟩])
              | exact ih _ x (by omega) (by omega) (by omega) (by rw [← e]; simp only [ndN]; first | rw [if_neg (fun h => absurd h.1 (by omega))] | rw [if_neg (fun h => h.2.elim (fun h => absurd h (by omega)) (fun h => h33 h))])
  exact lp 6 0 (-1) (by omega) (by omega) (by omega) rfl

set_option maxRecDepth 100000 in
set_option maxHeartbeats 4000000 in
theorem c_X3_shareInLight {l : Launch} {D : va_G} {ty : Nat → ClassId} {ad : Int → Nat} {N : Int} {σ : Int → va_E} {b : Int} {s : Int → Int} (hb : 0 ≤ b ∧ b + 20 ≤ N) (hs : okS s) : gM0 l yX3_shareInLight cX3_shareInLight 4 (some .double) 1 22 [.ref (ad b)] D ty ad N (sput ad ty σ b s) (some (.double (share s))) (sput ad ty σ b s) := by
  refine gMet_of [some (.ref (ad b)), none, none, none] (by decide +kernel) rfl (Nat.le_of_ble_eq_true rfl) rfl ?_
  intro X hl hD hty C hini
  subst hl hD hty
  have htg := thg_rng hs
  have hil := inl_rng hs
  refine r_aload_n C dX3_shareInLight_0 rfl rfl ?_
  refine r_cV C cwX3_173 (c_X3_thingsInAll hb hs) dX3_shareInLight_1 rfl (by omega) sput_0 rfl rfl rfl (Nat.le_of_ble_eq_true rfl) ⟨Nat.le_of_ble_eq_true rfl, Nat.le_of_ble_eq_true rfl⟩ ⟨Nat.le_of_ble_eq_true rfl, Nat.le_of_ble_eq_true rfl⟩ ?_
  refine r_istore_n C dX3_shareInLight_4 rfl (Nat.le_of_ble_eq_true rfl) rfl ?_
  dsimp only [List.set]
  refine r_iload_n C dX3_shareInLight_5 rfl rfl ?_
  refine r_if_ne (tgt := 11) C dX3_shareInLight_6 (by decide) (by omega) (fun h6 => ?_) (fun h6 => ?_)
  · refine r_iconst C dX3_shareInLight_11 ?_
    refine r_istore_n C dX3_shareInLight_12 rfl (Nat.le_of_ble_eq_true rfl) rfl ?_
    dsimp only [List.set]
    refine r_iconst C dX3_shareInLight_13 ?_
    refine r_istore_n C dX3_shareInLight_14 rfl (Nat.le_of_ble_eq_true rfl) rfl ?_
    dsimp only [List.set]
    have lp : ∀ (n : Nat) (p a : Int), (0 ≤ p) → (p + n = 6) → (a + sumF (fun r => if rm s r 1 = 1 then rm s r 6 else 0) n p = inl s) → V X 0 0 (gQ X (gD (some (.double (share s))) ad N (sput ad (gty X) σ b s)) 0 0) 15 [some (.ref (ad b)), some (.int (gI (thg s))), some (.int (gI a)), some (.int (gI p))] [] ad N (sput ad (gty X) σ b s) := by
      intro n
      induction n with
      | zero =>
        intro p a hp hpn e
        have ha : a = inl s := by rw [← e]; simp only [sumF]; omega
        subst ha
        refine r_iload_n C dX3_shareInLight_15 rfl rfl ?_
        refine r_bipush C dX3_shareInLight_16 (by decide) ?_
        refine r_icmp_ge (tgt := 55) C dX3_shareInLight_18 (by decide) (by omega) (by omega) (fun h18 => ?_) (fun h18 => ?_)
        · refine r_iload_n C dX3_shareInLight_55 rfl rfl ?_
          refine r_i2d C dX3_shareInLight_56 ?_
          refine r_iload_n C dX3_shareInLight_57 rfl rfl ?_
          refine r_i2d C dX3_shareInLight_58 ?_
          refine r_ddiv C dX3_shareInLight_59 (shD_n (by omega) (by omega)) ?_
          exact r_dretD C dX3_shareInLight_60 (by unfold share; rw [if_neg (by omega)]; rfl) rfl
        · exact absurd h18 (by omega)
      | succ n ih =>
        intro p a hp hpn e
        have hqb := (hs.rm (r := p) (by omega)).bur
        refine r_iload_n C dX3_shareInLight_15 rfl rfl ?_
        refine r_bipush C dX3_shareInLight_16 (by decide) ?_
        refine r_icmp_ge (tgt := 55) C dX3_shareInLight_18 (by decide) (by omega) (by omega) (fun h18 => ?_) (fun h18 => ?_)
        · exact absurd h18 (by omega)
        · refine r_iload_n C dX3_shareInLight_21 rfl rfl ?_
          refine r_aload_n C dX3_shareInLight_22 rfl rfl ?_
          refine ss_get C flX3_11 dX3_shareInLight_23 hb rfl ?_
          refine r_iload_n C dX3_shareInLight_26 rfl rfl ?_
          refine ss_room C dX3_shareInLight_27 hb (by omega) ?_
          refine sr_get C flX3_56 dX3_shareInLight_28 hb (by omega) rfl ?_
          refine r_if_eq (tgt := 46) C dX3_shareInLight_31 (by decide) (by omega) (fun h31 => ?_) (fun h31 => ?_)
          · refine r_iconst C dX3_shareInLight_46 ?_
            refine r_iadd C dX3_shareInLight_47 ?_
            refine r_istore_n C dX3_shareInLight_48 rfl (Nat.le_of_ble_eq_true rfl) rfl ?_
            dsimp only [List.set]
            refine r_iinc C dX3_shareInLight_49 rfl rfl ?_
            dsimp only [List.set]
            refine r_goto (tgt := 15) C dX3_shareInLight_52 (by decide) ?_
            exact ih _ _ (by omega) (by omega) (by rw [← e]; simp only [sumF]; first | (rw [if_neg (by omega)]; omega) | (rw [if_pos (by omega)]; omega))
          · refine r_aload_n C dX3_shareInLight_34 rfl rfl ?_
            refine ss_get C flX3_11 dX3_shareInLight_35 hb rfl ?_
            refine r_iload_n C dX3_shareInLight_38 rfl rfl ?_
            refine ss_room C dX3_shareInLight_39 hb (by omega) ?_
            refine sr_get C flX3_68 dX3_shareInLight_40 hb (by omega) rfl ?_
            refine r_goto (tgt := 47) C dX3_shareInLight_43 (by decide) ?_
            refine r_iadd C dX3_shareInLight_47 ?_
            refine r_istore_n C dX3_shareInLight_48 rfl (Nat.le_of_ble_eq_true rfl) rfl ?_
            dsimp only [List.set]
            refine r_iinc C dX3_shareInLight_49 rfl rfl ?_
            dsimp only [List.set]
            refine r_goto (tgt := 15) C dX3_shareInLight_52 (by decide) ?_
            exact ih _ _ (by omega) (by omega) (by rw [← e]; simp only [sumF]; first | (rw [if_neg (by omega)]; omega) | (rw [if_pos (by omega)]; omega))
    exact lp 6 0 0 (by omega) (by omega) (by unfold inl; omega)
  · refine r_dconst_1 C dX3_shareInLight_9 ?_
    exact r_dretD C dX3_shareInLight_10 (by unfold share; rw [if_pos (by omega)]) rfl
