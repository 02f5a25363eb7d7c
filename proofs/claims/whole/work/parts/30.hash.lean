/-! the hash of the whole object -/

def mixK (f : Int → Int) : Nat → Int → Int64 → Int64
  | 0, _, h => h
  | n + 1, p, h => mixK f n (p + 1) (31 * h + (gI (f p)).toInt64)
def mix2 (ρ : Int → Int) : Nat → Int → Int64 → Int64
  | 0, _, h => h
  | n + 1, p, h => mix2 ρ n (p + 1) (31 * (31 * h + (gI (ρ (7 + p))).toInt64) + (gI (ρ (11 + p))).toInt64)
def mixRm (s : Int → Int) (r : Int) (h : Int64) : Int64 := 31 * (31 * (31 * mix2 (rm s r) (rm s r 6).toNat 0 (mixK (numR (rm s r)) 8 0 h) + (gI (blit s r)).toInt64) + (gI (toL s r)).toInt64) + (gI (savR (rm s r))).toInt64
def mixRs (s : Int → Int) : Nat → Int → Int64 → Int64
  | 0, _, h => h
  | n + 1, r, h => mixRs s n (r + 1) (mixRm s r h)
def cmpG (a b : UInt64) : Int := (Op.cmpValue (FP.dcmp a b) CmpOp.g).toInt
theorem cmpG_rng (a b : UInt64) : -2147483648 ≤ cmpG a b ∧ cmpG a b < 2147483648 := gI_rng _
theorem cmpG_I (a b : UInt64) : Op.cmpValue (FP.dcmp a b) CmpOp.g = gI (cmpG a b) := (gI_of _).symm
def nNan (r : UInt64) : Bool := decide (r &&& 0x7fffffffffffffff ≤ 0x7ff0000000000000)
/-- the loop that brings a share to 1 .. 2 -/
def bLoop : Nat → UInt64 → Int64 → UInt64 × Int64
  | 0, m, e => (m, e)
  | n + 1, m, e => if cmpG m FP.dconst1 < 0 then bLoop n (FP.dmul m 4611686018427387904) (e - 1) else (m, e)
def bEnd (m : UInt64) : Bool := nNan (FP.dsub m FP.dconst1) && nNan (FP.dmul (FP.dsub m FP.dconst1) 4841369599423283200)
def bOk : Nat → UInt64 → Bool
  | 0, m => bEnd m
  | n + 1, m => if cmpG m FP.dconst1 < 0 then nNan (FP.dmul m 4611686018427387904) && bOk n (FP.dmul m 4611686018427387904) else bEnd m
def bitsF (d : UInt64) : Int64 := if cmpG d FP.dconst0 ≤ 0 then 0 else ((bLoop 1022 d 1023).2 <<< ((gI 52).toInt64 &&& 63)) ||| FP.d2l (FP.dmul (FP.dsub (bLoop 1022 d 1023).1 FP.dconst1) 4841369599423283200)
theorem nNan_n {r : UInt64} (h : nNan r = true) : vf_n64 r := (of_decide_eq_true h : r &&& 0x7fffffffffffffff ≤ 0x7ff0000000000000)
theorem bOk_end : ∀ (n : Nat) (m : UInt64) (e : Int64), bOk n m = true → bEnd (bLoop n m e).1 = true
  | 0, m, e, h => h
  | n + 1, m, e, h => by
    unfold bOk at h
    unfold bLoop
    split
    · rename_i h2; rw [if_pos h2] at h; exact bOk_end n _ _ (by simpa using (Bool.and_eq_true _ _ ▸ h : _ ∧ _).2)
    · rename_i h2; rw [if_neg h2] at h; exact h
def digX (s : Int → Int) (n len : Int) (tx : Int → Int) : Int64 :=
  mixK (cAt len tx) len.toNat 0 (31 * (31 * (31 * (31 * mixRs s 6 0 (mixK (cntX s n) 12 0 3499) + (gI (nextF s)).toInt64) + (gI (needS s)).toInt64) + bitsF (share s)) + (gI len).toInt64)

set_option maxRecDepth 100000 in
set_option maxHeartbeats 4000000 in
theorem c_X4_mix {l : Launch} {D : va_G} {ty : Nat → ClassId} {ad : Int → Nat} {N : Int} {σ : Int → va_E} {a b : Int64}  : gM0 l yX4_mix cX4_mix 4 (some .long) 0 0 [.long a, .long b] D ty ad N (σ) (some (.long (31 * a + b))) (σ) := by
  refine gMet_of [some (.long a), none, some (.long b), none] (by decide +kernel) rfl (Nat.le_of_ble_eq_true rfl) rfl ?_
  intro X hl hD hty C hini
  subst hl hD hty
  refine r_ldc2 C dX4_mix_0 kkX4_279 ?_
  refine r_lload_n C dX4_mix_3 rfl rfl ?_
  refine r_lmul C dX4_mix_4 ?_
  refine r_lload_n C dX4_mix_5 rfl rfl ?_
  refine r_ladd C dX4_mix_6 ?_
  exact r_lretD C dX4_mix_7 rfl rfl

set_option maxRecDepth 100000 in
set_option maxHeartbeats 4000000 in
theorem c_X4_bitsOf {l : Launch} {D : va_G} {ty : Nat → ClassId} {ad : Int → Nat} {N : Int} {σ : Int → va_E} {d : UInt64} (hb : bOk 1022 d = true) : gM0 l yX4_bitsOf cX4_bitsOf 8 (some .long) 0 0 [.double d] D ty ad N (σ) (some (.long (bitsF d))) (σ) := by
  refine gMet_of [some (.double d), none, none, none, none, none, none, none] (by decide +kernel) rfl (Nat.le_of_ble_eq_true rfl) rfl ?_
  intro X hl hD hty C hini
  subst hl hD hty
  refine r_dload_n C dX4_bitsOf_0 rfl rfl ?_
  refine r_dconst_0 C dX4_bitsOf_1 ?_
  refine r_dcmp C dX4_bitsOf_2 ?_
  rw [cmpG_I]
  refine r_if_gt (tgt := 8) C dX4_bitsOf_3 (by decide) (cmpG_rng _ _) (fun h3 => ?_) (fun h3 => ?_)
  · refine r_dload_n C dX4_bitsOf_8 rfl rfl ?_
    refine r_dstore_n C dX4_bitsOf_9 rfl (Nat.le_of_ble_eq_true rfl) rfl ?_
    dsimp only [List.set]
    refine r_ldc2 C dX4_bitsOf_10 kkX4_290 ?_
    refine r_lstore C dX4_bitsOf_13 (Nat.le_of_ble_eq_true rfl) rfl ?_
    dsimp only [List.set]
    refine r_iconst C dX4_bitsOf_15 ?_
    refine r_istore C dX4_bitsOf_16 (Nat.le_of_ble_eq_true rfl) rfl ?_
    dsimp only [List.set]
    have lp : ∀ (n : Nat) (p : Int) (m : UInt64) (e : Int64), (0 ≤ p) → (p + n = 1022) → (bOk n m = true) → (bLoop n m e = bLoop 1022 d 1023) → V X 0 0 (gQ X (gD (some (.long (bitsF d))) ad N (σ)) 0 0) 18 [some (.double d), none, some (.double m), none, some (.long e), none, some (.int (gI p)), none] [] ad N (σ) := by
      intro n
      induction n with
      | zero =>
        intro p m e hp hpn hk q
        have hk2 := hk
        unfold bOk bEnd at hk2
        rw [Bool.and_eq_true] at hk2
        have hq2 : bLoop 1022 d 1023 = (m, e) := q.symm
        refine r_iload C dX4_bitsOf_18 rfl ?_
        refine r_sipush C dX4_bitsOf_20 (by decide) ?_
        refine r_icmp_ge (tgt := 50) C dX4_bitsOf_23 (by decide) (by omega) (by omega) (fun h23 => ?_) (fun h23 => ?_)
        · refine r_dload_n C dX4_bitsOf_50 rfl rfl ?_
          refine r_dconst_1 C dX4_bitsOf_51 ?_
          refine r_dsub C dX4_bitsOf_52 (nNan_n hk2.1) ?_
          refine r_ldc2d C dX4_bitsOf_53 kkX4_294 ?_
          refine r_dmul C dX4_bitsOf_56 (nNan_n hk2.2) ?_
          refine r_d2l C dX4_bitsOf_57 ?_
          refine r_lstore C dX4_bitsOf_58 (Nat.le_of_ble_eq_true rfl) rfl ?_
          dsimp only [List.set]
          refine r_lload C dX4_bitsOf_60 rfl ?_
          refine r_bipush C dX4_bitsOf_62 (by decide) ?_
          refine r_lshl C dX4_bitsOf_64 ?_
          refine r_lload C dX4_bitsOf_65 rfl ?_
          refine r_lor C dX4_bitsOf_67 ?_
          exact r_lretD C dX4_bitsOf_68 (by unfold bitsF; rw [if_neg (by omega), hq2]) rfl
        · exact absurd h23 (by omega)
      | succ n ih =>
        intro p m e hp hpn hk q
        refine r_iload C dX4_bitsOf_18 rfl ?_
        refine r_sipush C dX4_bitsOf_20 (by decide) ?_
        refine r_icmp_ge (tgt := 50) C dX4_bitsOf_23 (by decide) (by omega) (by omega) (fun h23 => ?_) (fun h23 => ?_)
        · exact absurd h23 (by omega)
        · refine r_dload_n C dX4_bitsOf_26 rfl rfl ?_
          refine r_dconst_1 C dX4_bitsOf_27 ?_
          refine r_dcmp C dX4_bitsOf_28 ?_
          rw [cmpG_I]
          refine r_if_ge (tgt := 50) C dX4_bitsOf_29 (by decide) (cmpG_rng _ _) (fun h29 => ?_) (fun h29 => ?_)
          · have hk2 := hk
            unfold bOk at hk2
            rw [if_neg (by omega)] at hk2
            unfold bEnd at hk2
            rw [Bool.and_eq_true] at hk2
            have hq2 : bLoop 1022 d 1023 = (m, e) := by rw [← q]; unfold bLoop; rw [if_neg (by omega)]
            refine r_dload_n C dX4_bitsOf_50 rfl rfl ?_
            refine r_dconst_1 C dX4_bitsOf_51 ?_
            refine r_dsub C dX4_bitsOf_52 (nNan_n hk2.1) ?_
            refine r_ldc2d C dX4_bitsOf_53 kkX4_294 ?_
            refine r_dmul C dX4_bitsOf_56 (nNan_n hk2.2) ?_
            refine r_d2l C dX4_bitsOf_57 ?_
            refine r_lstore C dX4_bitsOf_58 (Nat.le_of_ble_eq_true rfl) rfl ?_
            dsimp only [List.set]
            refine r_lload C dX4_bitsOf_60 rfl ?_
            refine r_bipush C dX4_bitsOf_62 (by decide) ?_
            refine r_lshl C dX4_bitsOf_64 ?_
            refine r_lload C dX4_bitsOf_65 rfl ?_
            refine r_lor C dX4_bitsOf_67 ?_
            exact r_lretD C dX4_bitsOf_68 (by unfold bitsF; rw [if_neg (by omega), hq2]) rfl
          · have hk2 := hk
            unfold bOk at hk2
            rw [if_pos h29, Bool.and_eq_true] at hk2
            refine r_dload_n C dX4_bitsOf_32 rfl rfl ?_
            refine r_ldc2d C dX4_bitsOf_33 kkX4_292 ?_
            refine r_dmul C dX4_bitsOf_36 (nNan_n hk2.1) ?_
            refine r_dstore_n C dX4_bitsOf_37 rfl (Nat.le_of_ble_eq_true rfl) rfl ?_
            dsimp only [List.set]
            refine r_lload C dX4_bitsOf_38 rfl ?_
            refine r_lconst (v := 1) C dX4_bitsOf_40 (by decide) ?_
            refine r_lsub C dX4_bitsOf_41 ?_
            refine r_lstore C dX4_bitsOf_42 (Nat.le_of_ble_eq_true rfl) rfl ?_
            dsimp only [List.set]
            refine r_iinc C dX4_bitsOf_44 rfl rfl ?_
            dsimp only [List.set]
            refine r_goto (tgt := 18) C dX4_bitsOf_47 (by decide) ?_
            exact ih _ _ _ (by omega) (by omega) hk2.2 ((if_pos h29 : (if cmpG m FP.dconst1 < 0 then bLoop n (FP.dmul m 4611686018427387904) (e - 1) else (m, e)) = _).symm.trans q)
    exact lp 1022 0 d 1023 (by omega) (by omega) hb rfl
  · refine r_lconst (v := 0) C dX4_bitsOf_6 (by decide) ?_
    exact r_lretD C dX4_bitsOf_7 (by unfold bitsF; rw [if_pos h3]) rfl

set_option maxRecDepth 100000 in
set_option maxHeartbeats 4000000 in
theorem c_X4_mixRoom {l : Launch} {D : va_G} {ty : Nat → ClassId} {ad : Int → Nat} {N : Int} {σ : Int → va_E} {x n k len : Int} {u : Int → Int → Int} {s tx : Int → Int} {r : Int} {h : Int64} (hx : 0 ≤ x ∧ x + 145 ≤ N) (ho : okX s n u len tx) (hr : 0 ≤ r ∧ r < 6) : gM0 l yX4_mixRoom cX4_mixRoom 8 (some .long) 5 113 [.ref (ad x), .long h, .int (gI r)] D ty ad N (xput ad ty σ x s n k u len tx) (some (.long (mixRm s r h))) (xput ad ty σ x s n k u len tx) := by
  refine gMet_of [some (.ref (ad x)), some (.long h), none, some (.int (gI r)), none, none, none, none] (by decide +kernel) rfl (Nat.le_of_ble_eq_true rfl) rfl ?_
  intro X hl hD hty C hini
  subst hl hD hty
  have hs := ho.1
  have hn := ho.2.1
  have ht := ho.2.2.2
  have hlen := ht.1
  have hq := hs.rm hr
  have hqm := hq.many
  refine r_lload_n C dX4_mixRoom_0 rfl rfl ?_
  refine r_lstore C dX4_mixRoom_1 (Nat.le_of_ble_eq_true rfl) rfl ?_
  dsimp only [List.set]
  refine r_aload_n C dX4_mixRoom_3 rfl rfl ?_
  refine r_get C flX4_10 dX4_mixRoom_4 (by omega) xput_0 rfl ?_
  refine r_iload_n C dX4_mixRoom_7 rfl rfl ?_
  refine r_cV C cwX4_76 (liftXs (c_X3_roomAt0 (by omega) (by omega))) dX4_mixRoom_8 rfl (by omega) xput_st rfl rfl rfl (Nat.le_of_ble_eq_true rfl) ⟨Nat.le_of_ble_eq_true rfl, Nat.le_of_ble_eq_true rfl⟩ ⟨Nat.le_of_ble_eq_true rfl, Nat.le_of_ble_eq_true rfl⟩ ?_
  refine r_astore C dX4_mixRoom_11 (Nat.le_of_ble_eq_true rfl) rfl ?_
  dsimp only [List.set]
  refine r_iconst C dX4_mixRoom_13 ?_
  refine r_istore C dX4_mixRoom_14 (Nat.le_of_ble_eq_true rfl) rfl ?_
  dsimp only [List.set]
  have lp : ∀ (j : Nat) (p : Int) (g : Int64), (0 ≤ p) → (p + j = 8) → (mixK (numR (rm s r)) j p g = mixK (numR (rm s r)) 8 0 h) → V X 0 0 (gQ X (gD (some (.long (mixRm s r h))) ad N (xput ad (gty X) σ x s n k u len tx)) 0 0) 16 [some (.ref (ad x)), some (.long h), none, some (.int (gI r)), some (.long g), none, some (.ref (ad (x + 1 + 2 + 3 * r))), some (.int (gI p))] [] ad N (xput ad (gty X) σ x s n k u len tx) := by
    intro j
    induction j with
    | zero =>
      intro p g hp hpn e
      have hg : g = mixK (numR (rm s r)) 8 0 h := e
      subst hg
      refine r_iload C dX4_mixRoom_16 rfl ?_
      refine r_bipush C dX4_mixRoom_18 (by decide) ?_
      refine r_icmp_ge (tgt := 44) C dX4_mixRoom_20 (by decide) (by omega) (by omega) (fun h20 => ?_) (fun h20 => ?_)
      · refine r_iconst C dX4_mixRoom_44 ?_
        refine r_istore C dX4_mixRoom_45 (Nat.le_of_ble_eq_true rfl) rfl ?_
        dsimp only [List.set]
        have lq : ∀ (j : Nat) (p : Int) (g : Int64), (0 ≤ p) → (p + j = rm s r 6) → (mix2 (rm s r) j p g = mix2 (rm s r) (rm s r 6).toNat 0 (mixK (numR (rm s r)) 8 0 h)) → V X 0 0 (gQ X (gD (some (.long (mixRm s r h))) ad N (xput ad (gty X) σ x s n k u len tx)) 0 0) 47 [some (.ref (ad x)), some (.long h), none, some (.int (gI r)), some (.long g), none, some (.ref (ad (x + 1 + 2 + 3 * r))), some (.int (gI p))] [] ad N (xput ad (gty X) σ x s n k u len tx) := by
          intro j
          induction j with
          | zero =>
            intro p g hp hpn e
            have hg : g = mix2 (rm s r) (rm s r 6).toNat 0 (mixK (numR (rm s r)) 8 0 h) := e
            subst hg
            refine r_iload C dX4_mixRoom_47 rfl ?_
            refine r_aload C dX4_mixRoom_49 rfl ?_
            refine r_get C flX4_281 dX4_mixRoom_51 (by omega) (xput_rm (by omega)) rfl ?_
            refine r_icmp_ge (tgt := 93) C dX4_mixRoom_54 (by decide) (by omega) (by omega) (fun h54 => ?_) (fun h54 => ?_)
            · refine r_lload C dX4_mixRoom_93 rfl ?_
              refine r_aload_n C dX4_mixRoom_95 rfl rfl ?_
              refine r_get C flX4_10 dX4_mixRoom_96 (by omega) xput_0 rfl ?_
              refine r_iload_n C dX4_mixRoom_99 rfl rfl ?_
              refine r_cV C cwX4_175 (liftXs (c_X3_beatsLit (by omega) hs (by omega))) dX4_mixRoom_100 rfl (by omega) xput_st rfl rfl rfl (Nat.le_of_ble_eq_true rfl) ⟨Nat.le_of_ble_eq_true rfl, Nat.le_of_ble_eq_true rfl⟩ ⟨Nat.le_of_ble_eq_true rfl, Nat.le_of_ble_eq_true rfl⟩ ?_
              refine r_i2l C dX4_mixRoom_103 ?_
              refine r_cS C cwX4_196 c_X4_mix dX4_mixRoom_104 rfl rfl rfl (Nat.le_of_ble_eq_true rfl) ⟨Nat.le_of_ble_eq_true rfl, Nat.le_of_ble_eq_true rfl⟩ ⟨Nat.le_of_ble_eq_true rfl, Nat.le_of_ble_eq_true rfl⟩ ?_
              refine r_lstore C dX4_mixRoom_107 (Nat.le_of_ble_eq_true rfl) rfl ?_
              dsimp only [List.set]
              refine r_lload C dX4_mixRoom_109 rfl ?_
              refine r_aload_n C dX4_mixRoom_111 rfl rfl ?_
              refine r_get C flX4_10 dX4_mixRoom_112 (by omega) xput_0 rfl ?_
              refine r_iload_n C dX4_mixRoom_115 rfl rfl ?_
              refine r_cV C cwX4_181 (liftXs (c_X3_candlesToLight (by omega) hs (by omega))) dX4_mixRoom_116 rfl (by omega) xput_st rfl rfl rfl (Nat.le_of_ble_eq_true rfl) ⟨Nat.le_of_ble_eq_true rfl, Nat.le_of_ble_eq_true rfl⟩ ⟨Nat.le_of_ble_eq_true rfl, Nat.le_of_ble_eq_true rfl⟩ ?_
              refine r_i2l C dX4_mixRoom_119 ?_
              refine r_cS C cwX4_196 c_X4_mix dX4_mixRoom_120 rfl rfl rfl (Nat.le_of_ble_eq_true rfl) ⟨Nat.le_of_ble_eq_true rfl, Nat.le_of_ble_eq_true rfl⟩ ⟨Nat.le_of_ble_eq_true rfl, Nat.le_of_ble_eq_true rfl⟩ ?_
              refine r_lstore C dX4_mixRoom_123 (Nat.le_of_ble_eq_true rfl) rfl ?_
              dsimp only [List.set]
              refine r_lload C dX4_mixRoom_125 rfl ?_
              refine r_aload C dX4_mixRoom_127 rfl ?_
              refine r_cV C cwX4_187 (liftXs (lift0 hr (c_X1_beatsSaved (by omega) hq.len hq.bur hq.wick))) dX4_mixRoom_129 rfl (by omega) (xput_rm (by omega)) rfl rfl rfl (Nat.le_of_ble_eq_true rfl) ⟨Nat.le_of_ble_eq_true rfl, Nat.le_of_ble_eq_true rfl⟩ ⟨Nat.le_of_ble_eq_true rfl, Nat.le_of_ble_eq_true rfl⟩ ?_
              refine r_i2l C dX4_mixRoom_132 ?_
              refine r_cS C cwX4_196 c_X4_mix dX4_mixRoom_133 rfl rfl rfl (Nat.le_of_ble_eq_true rfl) ⟨Nat.le_of_ble_eq_true rfl, Nat.le_of_ble_eq_true rfl⟩ ⟨Nat.le_of_ble_eq_true rfl, Nat.le_of_ble_eq_true rfl⟩ ?_
              exact r_lretD C dX4_mixRoom_136 rfl rfl
            · exact absurd h54 (by omega)
          | succ j ih =>
            intro p g hp hpn e
            refine r_iload C dX4_mixRoom_47 rfl ?_
            refine r_aload C dX4_mixRoom_49 rfl ?_
            refine r_get C flX4_281 dX4_mixRoom_51 (by omega) (xput_rm (by omega)) rfl ?_
            refine r_icmp_ge (tgt := 93) C dX4_mixRoom_54 (by decide) (by omega) (by omega) (fun h54 => ?_) (fun h54 => ?_)
            · exact absurd h54 (by omega)
            · refine r_lload C dX4_mixRoom_57 rfl ?_
              refine r_aload C dX4_mixRoom_59 rfl ?_
              refine r_iload C dX4_mixRoom_61 rfl ?_
              refine r_cV C cwX4_284 (liftXs (lift0 hr (c_X1_keyAt (by omega) (by omega) hqm))) dX4_mixRoom_63 rfl (by omega) (xput_rm (by omega)) rfl rfl rfl (Nat.le_of_ble_eq_true rfl) ⟨Nat.le_of_ble_eq_true rfl, Nat.le_of_ble_eq_true rfl⟩ ⟨Nat.le_of_ble_eq_true rfl, Nat.le_of_ble_eq_true rfl⟩ ?_
              refine r_i2l C dX4_mixRoom_66 ?_
              refine r_cS C cwX4_196 c_X4_mix dX4_mixRoom_67 rfl rfl rfl (Nat.le_of_ble_eq_true rfl) ⟨Nat.le_of_ble_eq_true rfl, Nat.le_of_ble_eq_true rfl⟩ ⟨Nat.le_of_ble_eq_true rfl, Nat.le_of_ble_eq_true rfl⟩ ?_
              refine r_lstore C dX4_mixRoom_70 (Nat.le_of_ble_eq_true rfl) rfl ?_
              dsimp only [List.set]
              refine r_lload C dX4_mixRoom_72 rfl ?_
              refine r_aload C dX4_mixRoom_74 rfl ?_
              refine r_iload C dX4_mixRoom_76 rfl ?_
              refine r_cV C cwX4_287 (liftXs (lift0 hr (c_X1_darkAt (by omega) (by omega) hqm))) dX4_mixRoom_78 rfl (by omega) (xput_rm (by omega)) rfl rfl rfl (Nat.le_of_ble_eq_true rfl) ⟨Nat.le_of_ble_eq_true rfl, Nat.le_of_ble_eq_true rfl⟩ ⟨Nat.le_of_ble_eq_true rfl, Nat.le_of_ble_eq_true rfl⟩ ?_
              refine r_i2l C dX4_mixRoom_81 ?_
              refine r_cS C cwX4_196 c_X4_mix dX4_mixRoom_82 rfl rfl rfl (Nat.le_of_ble_eq_true rfl) ⟨Nat.le_of_ble_eq_true rfl, Nat.le_of_ble_eq_true rfl⟩ ⟨Nat.le_of_ble_eq_true rfl, Nat.le_of_ble_eq_true rfl⟩ ?_
              refine r_lstore C dX4_mixRoom_85 (Nat.le_of_ble_eq_true rfl) rfl ?_
              dsimp only [List.set]
              refine r_iinc C dX4_mixRoom_87 rfl rfl ?_
              dsimp only [List.set]
              refine r_goto (tgt := 47) C dX4_mixRoom_90 (by decide) ?_
              refine ih _ _ (by omega) (by omega) ?_
              rw [← e]
              show _ = mix2 (rm s r) j (p + 1) _
              unfold keyR darkR
              rw [if_pos (by omega), if_pos (by omega)]
        exact lq (rm s r 6).toNat 0 _ (by omega) (by omega) rfl
      · exact absurd h20 (by omega)
    | succ j ih =>
      intro p g hp hpn e
      refine r_iload C dX4_mixRoom_16 rfl ?_
      refine r_bipush C dX4_mixRoom_18 (by decide) ?_
      refine r_icmp_ge (tgt := 44) C dX4_mixRoom_20 (by decide) (by omega) (by omega) (fun h20 => ?_) (fun h20 => ?_)
      · exact absurd h20 (by omega)
      · refine r_lload C dX4_mixRoom_23 rfl ?_
        refine r_aload C dX4_mixRoom_25 rfl ?_
        refine r_iload C dX4_mixRoom_27 rfl ?_
        refine r_cV C cwX4_166 (liftXs (lift0 hr (c_X1_number (by omega) (by omega) hqm hq.bur hq.shi hq.door))) dX4_mixRoom_29 rfl (by omega) (xput_rm (by omega)) rfl rfl rfl (Nat.le_of_ble_eq_true rfl) ⟨Nat.le_of_ble_eq_true rfl, Nat.le_of_ble_eq_true rfl⟩ ⟨Nat.le_of_ble_eq_true rfl, Nat.le_of_ble_eq_true rfl⟩ ?_
        refine r_i2l C dX4_mixRoom_32 ?_
        refine r_cS C cwX4_196 c_X4_mix dX4_mixRoom_33 rfl rfl rfl (Nat.le_of_ble_eq_true rfl) ⟨Nat.le_of_ble_eq_true rfl, Nat.le_of_ble_eq_true rfl⟩ ⟨Nat.le_of_ble_eq_true rfl, Nat.le_of_ble_eq_true rfl⟩ ?_
        refine r_lstore C dX4_mixRoom_36 (Nat.le_of_ble_eq_true rfl) rfl ?_
        dsimp only [List.set]
        refine r_iinc C dX4_mixRoom_38 rfl rfl ?_
        dsimp only [List.set]
        refine r_goto (tgt := 16) C dX4_mixRoom_41 (by decide) ?_
        exact ih _ _ (by omega) (by omega) e
  exact lp 8 0 h (by omega) (by omega) rfl

set_option maxRecDepth 100000 in
set_option maxHeartbeats 4000000 in
theorem c_X4_digest {l : Launch} {D : va_G} {ty : Nat → ClassId} {ad : Int → Nat} {N : Int} {σ : Int → va_E} {x n k len : Int} {u : Int → Int → Int} {s tx : Int → Int} (hx : 0 ≤ x ∧ x + 145 ≤ N) (ho : okX s n u len tx) (hbo : bOk 1022 (share s) = true) : gM0 l yX4_digest cX4_digest 4 (some .long) 6 140 [.ref (ad x)] D ty ad N (xput ad ty σ x s n k u len tx) (some (.long (digX s n len tx))) (xput ad ty σ x s n k u len tx) := by
  refine gMet_of [some (.ref (ad x)), none, none, none] (by decide +kernel) rfl (Nat.le_of_ble_eq_true rfl) rfl ?_
  intro X hl hD hty C hini
  subst hl hD hty
  have hs := ho.1
  have hn := ho.2.1
  have ht := ho.2.2.2
  have hlen := ht.1
  refine r_ldc2 C dX4_digest_0 kkX4_194 ?_
  refine r_lstore_n C dX4_digest_3 rfl (Nat.le_of_ble_eq_true rfl) rfl ?_
  dsimp only [List.set]
  refine r_iconst C dX4_digest_4 ?_
  refine r_istore_n C dX4_digest_5 rfl (Nat.le_of_ble_eq_true rfl) rfl ?_
  dsimp only [List.set]
  have lp : ∀ (j : Nat) (p : Int) (g : Int64), (0 ≤ p) → (p + j = 12) → (mixK (cntX s n) j p g = mixK (cntX s n) 12 0 3499) → V X 0 0 (gQ X (gD (some (.long (digX s n len tx))) ad N (xput ad (gty X) σ x s n k u len tx)) 0 0) 6 [some (.ref (ad x)), some (.long g), none, some (.int (gI p))] [] ad N (xput ad (gty X) σ x s n k u len tx) := by
    intro j
    induction j with
    | zero =>
      intro p g hp hpn e
      have hg : g = mixK (cntX s n) 12 0 3499 := e
      subst hg
      refine r_iload_n C dX4_digest_6 rfl rfl ?_
      refine r_bipush C dX4_digest_7 (by decide) ?_
      refine r_icmp_ge (tgt := 29) C dX4_digest_9 (by decide) (by omega) (by omega) (fun h9 => ?_) (fun h9 => ?_)
      · refine r_iconst C dX4_digest_29 ?_
        refine r_istore_n C dX4_digest_30 rfl (Nat.le_of_ble_eq_true rfl) rfl ?_
        dsimp only [List.set]
        have lq : ∀ (j : Nat) (r : Int) (g : Int64), (0 ≤ r) → (r + j = 6) → (mixRs s j r g = mixRs s 6 0 (mixK (cntX s n) 12 0 3499)) → V X 0 0 (gQ X (gD (some (.long (digX s n len tx))) ad N (xput ad (gty X) σ x s n k u len tx)) 0 0) 31 [some (.ref (ad x)), some (.long g), none, some (.int (gI r))] [] ad N (xput ad (gty X) σ x s n k u len tx) := by
          intro j
          induction j with
          | zero =>
            intro r g hp hpn e
            have hg : g = mixRs s 6 0 (mixK (cntX s n) 12 0 3499) := e
            subst hg
            refine r_iload_n C dX4_digest_31 rfl rfl ?_
            refine r_bipush C dX4_digest_32 (by decide) ?_
            refine r_icmp_ge (tgt := 50) C dX4_digest_34 (by decide) (by omega) (by omega) (fun h34 => ?_) (fun h34 => ?_)
            · refine r_lload_n C dX4_digest_50 rfl rfl ?_
              refine r_aload_n C dX4_digest_51 rfl rfl ?_
              refine r_get C flX4_10 dX4_digest_52 (by omega) xput_0 rfl ?_
              refine r_cV C cwX4_178 (liftXs (c_X3_beatsToForgetting (by omega) hs)) dX4_digest_55 rfl (by omega) xput_st rfl rfl rfl (Nat.le_of_ble_eq_true rfl) ⟨Nat.le_of_ble_eq_true rfl, Nat.le_of_ble_eq_true rfl⟩ ⟨Nat.le_of_ble_eq_true rfl, Nat.le_of_ble_eq_true rfl⟩ ?_
              refine r_i2l C dX4_digest_58 ?_
              refine r_cS C cwX4_196 c_X4_mix dX4_digest_59 rfl rfl rfl (Nat.le_of_ble_eq_true rfl) ⟨Nat.le_of_ble_eq_true rfl, Nat.le_of_ble_eq_true rfl⟩ ⟨Nat.le_of_ble_eq_true rfl, Nat.le_of_ble_eq_true rfl⟩ ?_
              refine r_lstore_n C dX4_digest_62 rfl (Nat.le_of_ble_eq_true rfl) rfl ?_
              dsimp only [List.set]
              refine r_lload_n C dX4_digest_63 rfl rfl ?_
              refine r_aload_n C dX4_digest_64 rfl rfl ?_
              refine r_get C flX4_10 dX4_digest_65 (by omega) xput_0 rfl ?_
              refine r_cV C cwX4_184 (liftXs (c_X3_neediest (by omega) hs)) dX4_digest_68 rfl (by omega) xput_st rfl rfl rfl (Nat.le_of_ble_eq_true rfl) ⟨Nat.le_of_ble_eq_true rfl, Nat.le_of_ble_eq_true rfl⟩ ⟨Nat.le_of_ble_eq_true rfl, Nat.le_of_ble_eq_true rfl⟩ ?_
              refine r_i2l C dX4_digest_71 ?_
              refine r_cS C cwX4_196 c_X4_mix dX4_digest_72 rfl rfl rfl (Nat.le_of_ble_eq_true rfl) ⟨Nat.le_of_ble_eq_true rfl, Nat.le_of_ble_eq_true rfl⟩ ⟨Nat.le_of_ble_eq_true rfl, Nat.le_of_ble_eq_true rfl⟩ ?_
              refine r_lstore_n C dX4_digest_75 rfl (Nat.le_of_ble_eq_true rfl) rfl ?_
              dsimp only [List.set]
              refine r_lload_n C dX4_digest_76 rfl rfl ?_
              refine r_aload_n C dX4_digest_77 rfl rfl ?_
              refine r_get C flX4_10 dX4_digest_78 (by omega) xput_0 rfl ?_
              refine r_cV C cwX4_190 (liftXs (c_X3_shareInLight (by omega) hs)) dX4_digest_81 rfl (by omega) xput_st rfl rfl rfl (Nat.le_of_ble_eq_true rfl) ⟨Nat.le_of_ble_eq_true rfl, Nat.le_of_ble_eq_true rfl⟩ ⟨Nat.le_of_ble_eq_true rfl, Nat.le_of_ble_eq_true rfl⟩ ?_
              refine r_cS C cwX4_204 (c_X4_bitsOf hbo) dX4_digest_84 rfl rfl rfl (Nat.le_of_ble_eq_true rfl) ⟨Nat.le_of_ble_eq_true rfl, Nat.le_of_ble_eq_true rfl⟩ ⟨Nat.le_of_ble_eq_true rfl, Nat.le_of_ble_eq_true rfl⟩ ?_
              refine r_cS C cwX4_196 c_X4_mix dX4_digest_87 rfl rfl rfl (Nat.le_of_ble_eq_true rfl) ⟨Nat.le_of_ble_eq_true rfl, Nat.le_of_ble_eq_true rfl⟩ ⟨Nat.le_of_ble_eq_true rfl, Nat.le_of_ble_eq_true rfl⟩ ?_
              refine r_lstore_n C dX4_digest_90 rfl (Nat.le_of_ble_eq_true rfl) rfl ?_
              dsimp only [List.set]
              refine r_lload_n C dX4_digest_91 rfl rfl ?_
              refine r_aload_n C dX4_digest_92 rfl rfl ?_
              refine r_get C flX4_26 dX4_digest_93 (by omega) xput_0 rfl ?_
              refine r_get C flX4_208 dX4_digest_96 (by omega) xput_tx rfl ?_
              refine r_i2l C dX4_digest_99 ?_
              refine r_cS C cwX4_196 c_X4_mix dX4_digest_100 rfl rfl rfl (Nat.le_of_ble_eq_true rfl) ⟨Nat.le_of_ble_eq_true rfl, Nat.le_of_ble_eq_true rfl⟩ ⟨Nat.le_of_ble_eq_true rfl, Nat.le_of_ble_eq_true rfl⟩ ?_
              refine r_lstore_n C dX4_digest_103 rfl (Nat.le_of_ble_eq_true rfl) rfl ?_
              dsimp only [List.set]
              refine r_iconst C dX4_digest_104 ?_
              refine r_istore_n C dX4_digest_105 rfl (Nat.le_of_ble_eq_true rfl) rfl ?_
              dsimp only [List.set]
              have lr : ∀ (j : Nat) (p : Int) (g : Int64), (0 ≤ p) → (p + j = len) → (mixK (cAt len tx) j p g = digX s n len tx) → V X 0 0 (gQ X (gD (some (.long (digX s n len tx))) ad N (xput ad (gty X) σ x s n k u len tx)) 0 0) 106 [some (.ref (ad x)), some (.long g), none, some (.int (gI p))] [] ad N (xput ad (gty X) σ x s n k u len tx) := by
                intro j
                induction j with
                | zero =>
                  intro p g hp hpn e
                  refine r_iload_n C dX4_digest_106 rfl rfl ?_
                  refine r_aload_n C dX4_digest_107 rfl rfl ?_
                  refine r_get C flX4_26 dX4_digest_108 (by omega) xput_0 rfl ?_
                  refine r_get C flX4_208 dX4_digest_111 (by omega) xput_tx rfl ?_
                  refine r_icmp_ge (tgt := 137) C dX4_digest_114 (by decide) (by omega) (by omega) (fun h114 => ?_) (fun h114 => ?_)
                  · refine r_lload_n C dX4_digest_137 rfl rfl ?_
                    exact r_lretD C dX4_digest_138 e rfl
                  · exact absurd h114 (by omega)
                | succ j ih =>
                  intro p g hp hpn e
                  refine r_iload_n C dX4_digest_106 rfl rfl ?_
                  refine r_aload_n C dX4_digest_107 rfl rfl ?_
                  refine r_get C flX4_26 dX4_digest_108 (by omega) xput_0 rfl ?_
                  refine r_get C flX4_208 dX4_digest_111 (by omega) xput_tx rfl ?_
                  refine r_icmp_ge (tgt := 137) C dX4_digest_114 (by decide) (by omega) (by omega) (fun h114 => ?_) (fun h114 => ?_)
                  · exact absurd h114 (by omega)
                  · refine r_lload_n C dX4_digest_117 rfl rfl ?_
                    refine r_aload_n C dX4_digest_118 rfl rfl ?_
                    refine r_get C flX4_26 dX4_digest_119 (by omega) xput_0 rfl ?_
                    refine r_iload_n C dX4_digest_122 rfl rfl ?_
                    refine r_cV C cwX4_211 (liftXd (c_X0_codeAt (by omega) ht (by omega))) dX4_digest_123 rfl (by omega) xput_tx rfl rfl rfl (Nat.le_of_ble_eq_true rfl) ⟨Nat.le_of_ble_eq_true rfl, Nat.le_of_ble_eq_true rfl⟩ ⟨Nat.le_of_ble_eq_true rfl, Nat.le_of_ble_eq_true rfl⟩ ?_
                    refine r_i2l C dX4_digest_126 ?_
                    refine r_cS C cwX4_196 c_X4_mix dX4_digest_127 rfl rfl rfl (Nat.le_of_ble_eq_true rfl) ⟨Nat.le_of_ble_eq_true rfl, Nat.le_of_ble_eq_true rfl⟩ ⟨Nat.le_of_ble_eq_true rfl, Nat.le_of_ble_eq_true rfl⟩ ?_
                    refine r_lstore_n C dX4_digest_130 rfl (Nat.le_of_ble_eq_true rfl) rfl ?_
                    dsimp only [List.set]
                    refine r_iinc C dX4_digest_131 rfl rfl ?_
                    dsimp only [List.set]
                    refine r_goto (tgt := 106) C dX4_digest_134 (by decide) ?_
                    exact ih _ _ (by omega) (by omega) e
              exact lr len.toNat 0 _ (by omega) (by omega) rfl
            · exact absurd h34 (by omega)
          | succ j ih =>
            intro r g hp hpn e
            refine r_iload_n C dX4_digest_31 rfl rfl ?_
            refine r_bipush C dX4_digest_32 (by decide) ?_
            refine r_icmp_ge (tgt := 50) C dX4_digest_34 (by decide) (by omega) (by omega) (fun h34 => ?_) (fun h34 => ?_)
            · exact absurd h34 (by omega)
            · refine r_aload_n C dX4_digest_37 rfl rfl ?_
              refine r_lload_n C dX4_digest_38 rfl rfl ?_
              refine r_iload_n C dX4_digest_39 rfl rfl ?_
              refine r_cV C cwX4_200 (c_X4_mixRoom (by omega) ho (by omega)) dX4_digest_40 rfl (by omega) xput_0 rfl rfl rfl (Nat.le_of_ble_eq_true rfl) ⟨Nat.le_of_ble_eq_true rfl, Nat.le_of_ble_eq_true rfl⟩ ⟨Nat.le_of_ble_eq_true rfl, Nat.le_of_ble_eq_true rfl⟩ ?_
              refine r_lstore_n C dX4_digest_43 rfl (Nat.le_of_ble_eq_true rfl) rfl ?_
              dsimp only [List.set]
              refine r_iinc C dX4_digest_44 rfl rfl ?_
              dsimp only [List.set]
              refine r_goto (tgt := 31) C dX4_digest_47 (by decide) ?_
              exact ih _ _ (by omega) (by omega) e
        exact lq 6 0 _ (by omega) (by omega) rfl
      · exact absurd h9 (by omega)
    | succ j ih =>
      intro p g hp hpn e
      refine r_iload_n C dX4_digest_6 rfl rfl ?_
      refine r_bipush C dX4_digest_7 (by decide) ?_
      refine r_icmp_ge (tgt := 29) C dX4_digest_9 (by decide) (by omega) (by omega) (fun h9 => ?_) (fun h9 => ?_)
      · exact absurd h9 (by omega)
      · refine r_lload_n C dX4_digest_12 rfl rfl ?_
        refine r_aload_n C dX4_digest_13 rfl rfl ?_
        refine r_iload_n C dX4_digest_14 rfl rfl ?_
        refine r_cV C cwX4_172 (c_X4_countNumber (by omega) ho (by omega)) dX4_digest_15 rfl (by omega) xput_0 rfl rfl rfl (Nat.le_of_ble_eq_true rfl) ⟨Nat.le_of_ble_eq_true rfl, Nat.le_of_ble_eq_true rfl⟩ ⟨Nat.le_of_ble_eq_true rfl, Nat.le_of_ble_eq_true rfl⟩ ?_
        refine r_i2l C dX4_digest_18 ?_
        refine r_cS C cwX4_196 c_X4_mix dX4_digest_19 rfl rfl rfl (Nat.le_of_ble_eq_true rfl) ⟨Nat.le_of_ble_eq_true rfl, Nat.le_of_ble_eq_true rfl⟩ ⟨Nat.le_of_ble_eq_true rfl, Nat.le_of_ble_eq_true rfl⟩ ?_
        refine r_lstore_n C dX4_digest_22 rfl (Nat.le_of_ble_eq_true rfl) rfl ?_
        dsimp only [List.set]
        refine r_iinc C dX4_digest_23 rfl rfl ?_
        dsimp only [List.set]
        refine r_goto (tgt := 6) C dX4_digest_26 (by decide) ?_
        exact ih _ _ (by omega) (by omega) e
  exact lp 12 0 3499 (by omega) (by omega) rfl

