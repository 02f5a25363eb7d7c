/-! the reference: what it finds by trying -/

theorem r_icmp_neD {X : gT} {cc : ByteArray} {nL : Nat} {own : String} {R : Room} {ret : Option FieldType} {kc kn : Nat} {Q : State → Prop} {pc : Nat} {L : List (Option Value)} {st : List Value} {ad : Int → Nat} {N : Int} {σ : Int → va_E} {a b off : Int} {tgt : Nat} (C : gOk X cc nL own R ret) (hd : decode cc pc = .ok (.if_icmp .ne off, 3)) (ht : (pc : Int) + off = (tgt : Int)) (h1 : a - b < 4294967296) (h2 : b - a < 4294967296) (kt : a ≠ b → V X kc kn Q tgt L st ad N σ) (kf : a = b → V X kc kn Q (pc + 3) L st ad N σ) : V X kc kn Q pc L (.int (gI b) :: .int (gI a) :: st) ad N σ := fun ls H locs hl hw =>
  lv_icmp_ne C.1 C.2.1 hd ht (fun h => kt (fun e => h ((gI_eqd ⟨h1, h2⟩).mpr e)) ls H locs hl hw) (fun h => kf ((gI_eqd ⟨h1, h2⟩).mp h) ls H locs hl hw)
def stT (s : Int → Int) (r : Int) : Int → Int := (bts (blit s r).toNat s 0).1
def ffT (s t : Int → Int) : Int → Int := if thg s = 0 then t else (bts (nextF s).toNat s 0).1
theorem blit_pos {s : Int → Int} (hs : okS s) {r : Int} (hr : 0 ≤ r ∧ r < 6) (h1 : rm s r 1 = 1) : 1 ≤ blit s r := by
  have := blit_beat hs hr h1
  have := blit_rng (beat s) r
  omega

set_option maxRecDepth 100000 in
set_option maxHeartbeats 4000000 in
theorem c_X5_stays {l : Launch} {D : va_G} {ty : Nat → ClassId} {ad : Int → Nat} {N : Int} {σ : Int → va_E} {m : Int} {v s t p x q : Int → Int} {r : Int} (hm : 0 ≤ m ∧ m + 6 ≤ N) (hs : okS s) (hr : 0 ≤ r ∧ r < 6) : gM0 l yX5_stays cX5_stays 3 (some .int) 5 115 [.ref (ad m), .int (gI r)] D ty ad N (mput ad ty σ m (v) (s) (t) (p) (x) (q)) (some (.int (gI (blit s r)))) (mput ad ty σ m (v) (s) (stT s r) (p) (x) (q)) := by
  refine gMet_of [some (.ref (ad m)), some (.int (gI r)), none] (by decide +kernel) rfl (Nat.le_of_ble_eq_true rfl) rfl ?_
  intro X hl hD hty C hini
  subst hl hD hty
  refine r_aload_n C dX5_stays_0 rfl rfl ?_
  refine mm_get C flX5_7 dX5_stays_1 hm rfl ?_
  refine r_iconst C dX5_stays_4 ?_
  refine r_aload_n C dX5_stays_5 rfl rfl ?_
  refine mm_get C flX5_13 dX5_stays_6 hm rfl ?_
  refine r_iconst C dX5_stays_9 ?_
  refine r_cSv C cwX5_40 (liftT (c_X5_copies (n1 := 99) (f := s) (by omega) (by omega) (by omega) mput_1 (by omega) (by omega) (by decide) (by decide))) dX5_stays_10 rfl rfl rfl (Nat.le_of_ble_eq_true rfl) ⟨Nat.le_of_ble_eq_true rfl, Nat.le_of_ble_eq_true rfl⟩ ⟨Nat.le_of_ble_eq_true rfl, Nat.le_of_ble_eq_true rfl⟩ ?_
  rw [mput_cp]
  refine r_iconst C dX5_stays_13 ?_
  refine r_istore_n C dX5_stays_14 rfl (Nat.le_of_ble_eq_true rfl) rfl ?_
  dsimp only [List.set]
  have lp : ∀ (n : Nat) (i g : Int) (y : Int → Int), (0 ≤ i) → (i + n = blit s r) → (okS y) → (blit y r = n) → ((bts n y g).1 = stT s r) → V X 0 0 (gQ X (gD (some (.int (gI (blit s r)))) ad N (mput ad (gty X) σ m (v) (s) (stT s r) (p) (x) (q))) 0 0) 15 [some (.ref (ad m)), some (.int (gI r)), some (.int (gI i))] [] ad N (mput ad (gty X) σ m (v) (s) (y) (p) (x) (q)) := by
    intro n
    induction n with
    | zero =>
      intro i g y hp hpn hy hb e
      refine r_aload_n C dX5_stays_15 rfl rfl ?_
      refine mm_get C flX5_13 dX5_stays_16 hm rfl ?_
      refine r_iload_n C dX5_stays_19 rfl rfl ?_
      refine r_cS C cwX5_52 (c_X5_isLit (by omega) mput_2 hy hr) dX5_stays_20 rfl rfl rfl (Nat.le_of_ble_eq_true rfl) ⟨Nat.le_of_ble_eq_true rfl, Nat.le_of_ble_eq_true rfl⟩ ⟨Nat.le_of_ble_eq_true rfl, Nat.le_of_ble_eq_true rfl⟩ ?_
      refine r_ifb_eq (tgt := 40) C dX5_stays_23 (by decide) (fun h23 => ?_) (fun h23 => ?_)
      · refine r_iload_n C dX5_stays_40 rfl rfl ?_
        exact r_iretD C dX5_stays_41 (by omega) (by rw [← e]; rfl)
      · have hb1 := blit_pos hy hr h23
        exfalso
        omega
    | succ n ih =>
      intro i g y hp hpn hy hb e
      refine r_aload_n C dX5_stays_15 rfl rfl ?_
      refine mm_get C flX5_13 dX5_stays_16 hm rfl ?_
      refine r_iload_n C dX5_stays_19 rfl rfl ?_
      refine r_cS C cwX5_52 (c_X5_isLit (by omega) mput_2 hy hr) dX5_stays_20 rfl rfl rfl (Nat.le_of_ble_eq_true rfl) ⟨Nat.le_of_ble_eq_true rfl, Nat.le_of_ble_eq_true rfl⟩ ⟨Nat.le_of_ble_eq_true rfl, Nat.le_of_ble_eq_true rfl⟩ ?_
      refine r_ifb_eq (tgt := 40) C dX5_stays_23 (by decide) (fun h23 => ?_) (fun h23 => ?_)
      · have hb0 := blit_0 hy hr h23
        exfalso
        omega
      · have hb1 := blit_beat hy hr h23
        refine r_aload_n C dX5_stays_26 rfl rfl ?_
        refine mm_get C flX5_13 dX5_stays_27 hm rfl ?_
        refine r_iconst C dX5_stays_30 ?_
        refine r_cSv C cwX5_110 (liftT (c_X5_beats (c := 1) (by omega) hy (by omega))) dX5_stays_31 rfl rfl rfl (Nat.le_of_ble_eq_true rfl) ⟨Nat.le_of_ble_eq_true rfl, Nat.le_of_ble_eq_true rfl⟩ ⟨Nat.le_of_ble_eq_true rfl, Nat.le_of_ble_eq_true rfl⟩ ?_
        refine r_iinc C dX5_stays_34 rfl rfl ?_
        dsimp only [List.set]
        refine r_goto (tgt := 15) C dX5_stays_37 (by decide) ?_
        exact ih (i + 1) _ (beat y) (by omega) (by omega) (okS_beat hy) (by omega) e
  have hbr := blit_rng s r
  exact lp (blit s r).toNat 0 0 s (by omega) (by omega) hs (by omega) rfl

set_option maxRecDepth 100000 in
set_option maxHeartbeats 4000000 in
theorem c_X5_lasts {l : Launch} {D : va_G} {ty : Nat → ClassId} {ad : Int → Nat} {N : Int} {σ : Int → va_E} {m : Int} {v s t p x q : Int → Int} {r : Int} (hm : 0 ≤ m ∧ m + 6 ≤ N) (hs : okS s) (hr : 0 ≤ r ∧ r < 6) : gM0 l yX5_lasts cX5_lasts 2 (some .int) 6 137 [.ref (ad m), .int (gI r)] D ty ad N (mput ad ty σ m (v) (s) (t) (p) (x) (q)) (some (.int (gI (blit s r)))) (mput ad ty σ m (up v 6 0) (s) (stT s r) (p) (x) (q)) := by
  refine gMet_of [some (.ref (ad m)), some (.int (gI r))] (by decide +kernel) rfl (Nat.le_of_ble_eq_true rfl) rfl ?_
  intro X hl hD hty C hini
  subst hl hD hty
  refine r_aload_n C dX5_lasts_0 rfl rfl ?_
  refine r_iconst C dX5_lasts_1 ?_
  refine mm_put (j := 6) C flX5_25 dX5_lasts_2 hm (by decide) rfl rfl rfl rfl ?_
  try rw [up_up]
  refine r_iload_n C dX5_lasts_5 rfl rfl ?_
  refine r_cS C cwX5_63 (c_X5_isRoom (by omega)) dX5_lasts_6 rfl rfl rfl (Nat.le_of_ble_eq_true rfl) ⟨Nat.le_of_ble_eq_true rfl, Nat.le_of_ble_eq_true rfl⟩ ⟨Nat.le_of_ble_eq_true rfl, Nat.le_of_ble_eq_true rfl⟩ ?_
  refine r_ifb_eq (tgt := 20) C dX5_lasts_9 (by decide) (fun h9 => ?_) (fun h9 => ?_)
  · exact absurd hr (by omega)
  · refine r_aload_n C dX5_lasts_12 rfl rfl ?_
    refine r_iload_n C dX5_lasts_13 rfl rfl ?_
    refine r_cV C cwX5_158 (c_X5_stays hm hs (by omega)) dX5_lasts_14 rfl (by omega) mput_0 rfl rfl rfl (Nat.le_of_ble_eq_true rfl) ⟨Nat.le_of_ble_eq_true rfl, Nat.le_of_ble_eq_true rfl⟩ ⟨Nat.le_of_ble_eq_true rfl, Nat.le_of_ble_eq_true rfl⟩ ?_
    refine r_goto (tgt := 25) C dX5_lasts_17 (by decide) ?_
    exact r_iretD C dX5_lasts_25 rfl rfl

set_option maxRecDepth 100000 in
set_option maxHeartbeats 4000000 in
theorem c_X5_lasts_f1 {l : Launch} {D : va_G} {ty : Nat → ClassId} {ad : Int → Nat} {N : Int} {σ : Int → va_E} {m : Int} {v s t p x q : Int → Int} {r : Int} (hm : 0 ≤ m ∧ m + 6 ≤ N)  (hnr : ¬ (0 ≤ r ∧ r < 6)) (hr : -2147483648 ≤ r ∧ r < 2147483648) : gM0 l yX5_lasts cX5_lasts 2 (some .int) 6 137 [.ref (ad m), .int (gI r)] D ty ad N (mput ad ty σ m (v) (s) (t) (p) (x) (q)) (some (.int (gI 0))) (mput ad ty σ m (up v 6 1) (s) (t) (p) (x) (q)) := by
  refine gMet_of [some (.ref (ad m)), some (.int (gI r))] (by decide +kernel) rfl (Nat.le_of_ble_eq_true rfl) rfl ?_
  intro X hl hD hty C hini
  subst hl hD hty
  refine r_aload_n C dX5_lasts_0 rfl rfl ?_
  refine r_iconst C dX5_lasts_1 ?_
  refine mm_put (j := 6) C flX5_25 dX5_lasts_2 hm (by decide) rfl rfl rfl rfl ?_
  try rw [up_up]
  refine r_iload_n C dX5_lasts_5 rfl rfl ?_
  refine r_cS C cwX5_63 (c_X5_isRoom (by omega)) dX5_lasts_6 rfl rfl rfl (Nat.le_of_ble_eq_true rfl) ⟨Nat.le_of_ble_eq_true rfl, Nat.le_of_ble_eq_true rfl⟩ ⟨Nat.le_of_ble_eq_true rfl, Nat.le_of_ble_eq_true rfl⟩ ?_
  refine r_ifb_eq (tgt := 20) C dX5_lasts_9 (by decide) (fun h9 => ?_) (fun h9 => ?_)
  · refine r_aload_n C dX5_lasts_20 rfl rfl ?_
    refine r_iconst C dX5_lasts_21 ?_
    refine r_cV C cwX5_44 (c_X5_fails hm) dX5_lasts_22 rfl (by omega) mput_0 rfl rfl rfl (Nat.le_of_ble_eq_true rfl) ⟨Nat.le_of_ble_eq_true rfl, Nat.le_of_ble_eq_true rfl⟩ ⟨Nat.le_of_ble_eq_true rfl, Nat.le_of_ble_eq_true rfl⟩ ?_
    exact r_iretD C dX5_lasts_25 rfl (by rw [up_up])
  · exact absurd h9 (by omega)

set_option maxRecDepth 100000 in
set_option maxHeartbeats 4000000 in
theorem c_X5_firstForgotten {l : Launch} {D : va_G} {ty : Nat → ClassId} {ad : Int → Nat} {N : Int} {σ : Int → va_E} {m : Int} {v s t p x q : Int → Int} (hm : 0 ≤ m ∧ m + 6 ≤ N) (hs : okS s)  : gM0 l yX5_firstForgotten cX5_firstForgotten 2 (some .int) 5 115 [.ref (ad m)] D ty ad N (mput ad ty σ m (v) (s) (t) (p) (x) (q)) (some (.int (gI (nextF s)))) (mput ad ty σ m (v) (s) (ffT s t) (p) (x) (q)) := by
  refine gMet_of [some (.ref (ad m)), none] (by decide +kernel) rfl (Nat.le_of_ble_eq_true rfl) rfl ?_
  intro X hl hD hty C hini
  subst hl hD hty
  have htg := thg_rng hs
  refine r_aload_n C dX5_firstForgotten_0 rfl rfl ?_
  refine r_cV C cwX5_151 (c_X5_things hm hs) dX5_firstForgotten_1 rfl (by omega) mput_0 rfl rfl rfl (Nat.le_of_ble_eq_true rfl) ⟨Nat.le_of_ble_eq_true rfl, Nat.le_of_ble_eq_true rfl⟩ ⟨Nat.le_of_ble_eq_true rfl, Nat.le_of_ble_eq_true rfl⟩ ?_
  refine r_if_ne (tgt := 9) C dX5_firstForgotten_4 (by decide) (by omega) (fun h4 => ?_) (fun h4 => ?_)
  · refine r_aload_n C dX5_firstForgotten_9 rfl rfl ?_
    refine mm_get C flX5_7 dX5_firstForgotten_10 hm rfl ?_
    refine r_iconst C dX5_firstForgotten_13 ?_
    refine r_aload_n C dX5_firstForgotten_14 rfl rfl ?_
    refine mm_get C flX5_13 dX5_firstForgotten_15 hm rfl ?_
    refine r_iconst C dX5_firstForgotten_18 ?_
    refine r_cSv C cwX5_40 (liftT (c_X5_copies (n1 := 99) (f := s) (by omega) (by omega) (by omega) mput_1 (by omega) (by omega) (by decide) (by decide))) dX5_firstForgotten_19 rfl rfl rfl (Nat.le_of_ble_eq_true rfl) ⟨Nat.le_of_ble_eq_true rfl, Nat.le_of_ble_eq_true rfl⟩ ⟨Nat.le_of_ble_eq_true rfl, Nat.le_of_ble_eq_true rfl⟩ ?_
    rw [mput_cp]
    refine r_iconst C dX5_firstForgotten_22 ?_
    refine r_istore_n C dX5_firstForgotten_23 rfl (Nat.le_of_ble_eq_true rfl) rfl ?_
    dsimp only [List.set]
    have lp : ∀ (n : Nat) (i g z : Int) (y : Int → Int), (0 ≤ i) → (okS y) → (y 3 = s 3 + g) → ((g = 0 ∧ 1 ≤ nextF y ∧ i + nextF y = nextF s ∧ nextF y = n) ∨ (1 ≤ g ∧ g ≤ 24 ∧ i = nextF s ∧ n = 0)) → ((bts n y z).1 = ffT s t) → V X 0 0 (gQ X (gD (some (.int (gI (nextF s)))) ad N (mput ad (gty X) σ m (v) (s) (ffT s t) (p) (x) (q))) 0 0) 24 [some (.ref (ad m)), some (.int (gI i))] [] ad N (mput ad (gty X) σ m (v) (s) (y) (p) (x) (q)) := by
      intro n
      induction n with
      | zero =>
        intro i g z y hp hy h3 hi e
        refine r_aload_n C dX5_firstForgotten_24 rfl rfl ?_
        refine mm_get C flX5_13 dX5_firstForgotten_25 hm rfl ?_
        refine r_iconst C dX5_firstForgotten_28 ?_
        refine r_iald C dX5_firstForgotten_29 (by omega) mput_2 (by omega) (by omega) ?_
        rw [h3]
        refine r_aload_n C dX5_firstForgotten_30 rfl rfl ?_
        refine mm_get C flX5_7 dX5_firstForgotten_31 hm rfl ?_
        refine r_iconst C dX5_firstForgotten_34 ?_
        refine r_iald C dX5_firstForgotten_35 (by omega) mput_1 (by omega) (by omega) ?_
        refine r_icmp_neD (tgt := 53) C dX5_firstForgotten_36 (by decide) (by omega) (by omega) (fun h36 => ?_) (fun h36 => ?_)
        · refine r_iload_n C dX5_firstForgotten_53 rfl rfl ?_
          exact r_iretD C dX5_firstForgotten_54 (by omega) (by rw [← e]; rfl)
        · exfalso
          omega
      | succ n ih =>
        intro i g z y hp hy h3 hi e
        refine r_aload_n C dX5_firstForgotten_24 rfl rfl ?_
        refine mm_get C flX5_13 dX5_firstForgotten_25 hm rfl ?_
        refine r_iconst C dX5_firstForgotten_28 ?_
        refine r_iald C dX5_firstForgotten_29 (by omega) mput_2 (by omega) (by omega) ?_
        rw [h3]
        refine r_aload_n C dX5_firstForgotten_30 rfl rfl ?_
        refine mm_get C flX5_7 dX5_firstForgotten_31 hm rfl ?_
        refine r_iconst C dX5_firstForgotten_34 ?_
        refine r_iald C dX5_firstForgotten_35 (by omega) mput_1 (by omega) (by omega) ?_
        refine r_icmp_neD (tgt := 53) C dX5_firstForgotten_36 (by decide) (by omega) (by omega) (fun h36 => ?_) (fun h36 => ?_)
        · exfalso
          omega
        · have hn2 := nextF_beat hy
          have hn1 := nextF_1 hy
          have hg2 := goneB_rng hy
          refine r_aload_n C dX5_firstForgotten_39 rfl rfl ?_
          refine mm_get C flX5_13 dX5_firstForgotten_40 hm rfl ?_
          refine r_iconst C dX5_firstForgotten_43 ?_
          refine r_cSv C cwX5_110 (liftT (c_X5_beats (c := 1) (by omega) hy (by omega))) dX5_firstForgotten_44 rfl rfl rfl (Nat.le_of_ble_eq_true rfl) ⟨Nat.le_of_ble_eq_true rfl, Nat.le_of_ble_eq_true rfl⟩ ⟨Nat.le_of_ble_eq_true rfl, Nat.le_of_ble_eq_true rfl⟩ ?_
          refine r_iinc C dX5_firstForgotten_47 rfl rfl ?_
          dsimp only [List.set]
          refine r_goto (tgt := 24) C dX5_firstForgotten_50 (by decide) ?_
          exact ih (i + 1) (goneB y) _ (beat y) (by omega) (okS_beat hy) (by rw [beat_3]; omega) (if hz : goneB y = 0 then (by have hn3 := hn2 hz (by omega); left; exact ⟨hz, by omega, by omega, by omega⟩) else (by have hn3 := hn1 hz; right; exact ⟨by omega, by omega, by omega, by omega⟩)) e
    have hnp := nextF_pos hs (by omega)
    exact lp (nextF s).toNat 0 0 0 s (by omega) hs (by omega) (by left; omega) (by unfold ffT; rw [if_neg (by omega)])
  · refine r_iconst C dX5_firstForgotten_7 ?_
    exact r_iretD C dX5_firstForgotten_8 (by rw [nextF_0 hs (by omega)]) (by unfold ffT; rw [if_pos (by omega)])

set_option maxRecDepth 100000 in
set_option maxHeartbeats 4000000 in
theorem c_X5_nextForgotten {l : Launch} {D : va_G} {ty : Nat → ClassId} {ad : Int → Nat} {N : Int} {σ : Int → va_E} {m : Int} {v s t p x q : Int → Int} (hm : 0 ≤ m ∧ m + 6 ≤ N) (hs : okS s)  : gM0 l yX5_nextForgotten cX5_nextForgotten 1 (some .int) 6 136 [.ref (ad m)] D ty ad N (mput ad ty σ m (v) (s) (t) (p) (x) (q)) (some (.int (gI (nextF s)))) (mput ad ty σ m (up v 6 0) (s) (ffT s t) (p) (x) (q)) := by
  refine gMet_of [some (.ref (ad m))] (by decide +kernel) rfl (Nat.le_of_ble_eq_true rfl) rfl ?_
  intro X hl hD hty C hini
  subst hl hD hty
  refine r_aload_n C dX5_nextForgotten_0 rfl rfl ?_
  refine r_iconst C dX5_nextForgotten_1 ?_
  refine mm_put (j := 6) C flX5_25 dX5_nextForgotten_2 hm (by decide) rfl rfl rfl rfl ?_
  try rw [up_up]
  refine r_aload_n C dX5_nextForgotten_5 rfl rfl ?_
  refine r_cV C cwX5_161 (c_X5_firstForgotten hm hs) dX5_nextForgotten_6 rfl (by omega) mput_0 rfl rfl rfl (Nat.le_of_ble_eq_true rfl) ⟨Nat.le_of_ble_eq_true rfl, Nat.le_of_ble_eq_true rfl⟩ ⟨Nat.le_of_ble_eq_true rfl, Nat.le_of_ble_eq_true rfl⟩ ?_
  exact r_iretD C dX5_nextForgotten_9 rfl rfl

