/-! the bits of a share -/

theorem kdb : Cond.methodLink RJxe99ae 134 ⟨"java/lang/Double", "doubleToRawLongBits", "(D)J"⟩ ∈ WS ∧ Cond.native ⟨"java/lang/Double", "doubleToRawLongBits", "(D)J"⟩ ∈ WS ∧ Cond.static ⟨"java/lang/Double", "doubleToRawLongBits", "(D)J"⟩ ∈ WS ∧ Cond.initialized "java/lang/Double" ∈ WS := ⟨gws 1058 (by decide +kernel) (by decide +kernel), gws 1060 (by decide +kernel) (by decide +kernel), gws 1059 (by decide +kernel) (by decide +kernel), kiRJxe99ae⟩

theorem r_d2b {X : gT} {cc : ByteArray} {nL : Nat} {R : Room} {ret : Option FieldType} {kc kn : Nat} {Q : State → Prop} {pc : Nat} {L : List (Option Value)} {st : List Value} {ad : Int → Nat} {N : Int} {σ : Int → va_E} {d : UInt64} (C : gOk X cc nL RJxe99ae R ret) (hd : decode cc pc = .ok (.invokestatic 134, 3)) (hL : L.length = nL) (hf : 1 ≤ R.frames) (hlo : (st.map fun v => v.category).sum + 15 ≤ R.locals)
    (k : V X kc kn Q (pc + 3) L (.long d.toInt64 :: st) ad N σ) : V X kc kn Q pc L (.double d :: st) ad N σ := fun ls H locs hl hw =>
  vn_d2l C.1 C.2.1 (by rw [C.2.2.1, hl.1, hL]) C.2.2.2.1 (C.2.2.2.2.1 _ kdb.1) (C.2.2.2.2.1 _ kdb.2.1) (C.2.2.2.2.1 _ kdb.2.2.1) (C.2.2.2.2.1 _ kdb.2.2.2) (by rw [C.2.2.2.2.2.2.2.1]; exact hf) (by rw [C.2.2.2.2.2.2.2.1]; exact hlo) hd (k ls H locs hl hw)
def isN (d : UInt64) : Bool := Op.cmpValue (FP.dcmp d d) CmpOp.l == 0
theorem isN_0 {d : UInt64} (h : isN d = true) : Op.cmpValue (FP.dcmp d d) CmpOp.l = gI 0 := by
  unfold isN at h
  rw [gI_0]
  exact eq_of_beq h
def shOk (d : UInt64) : Bool := isN d && (bitsF d == d.toInt64) && bOk 1022 d
theorem shOk_1 : shOk FP.dconst1 = true := by decide +kernel
theorem shOk_tab : ∀ b : Fin 24, ∀ a : Fin 25, a.val ≤ b.val + 1 → shOk (shD (a.val : Int) ((b.val : Int) + 1)) = true := by decide +kernel
theorem inl_le {s : Int → Int} (hs : okS s) : inl s ≤ thg s := by
  have h : ∀ (n : Nat) (p : Int), 0 ≤ p → p + n ≤ 6 → sumF (fun r => if rm s r 1 = 1 then rm s r 6 else 0) n p ≤ sumF (fun r => rm s r 6) n p := by
    intro n
    induction n with
    | zero => intro p _ _; exact Int.le_refl _
    | succ n ih =>
      intro p h1 h2
      have := ih (p + 1) (by omega) (by omega)
      have hm := (hs.rm (r := p) (by omega)).many
      simp only [sumF]
      split <;> omega
  exact h 6 0 (by omega) (by omega)
theorem share_ok {s : Int → Int} (hs : okS s) : shOk (share s) = true := by
  have h1 := inl_le hs
  have h2 := inl_rng hs
  have h3 := thg_rng hs
  unfold share
  by_cases h : thg s = 0
  · rw [if_pos h]; exact shOk_1
  · rw [if_neg h]
    have := shOk_tab ⟨(thg s - 1).toNat, by omega⟩ ⟨(inl s).toNat, by omega⟩ (by show (inl s).toNat ≤ (thg s - 1).toNat + 1; omega)
    rw [show (((⟨(inl s).toNat, by omega⟩ : Fin 25).val : Nat) : Int) = inl s from Int.toNat_of_nonneg h2.1, show (((⟨(thg s - 1).toNat, by omega⟩ : Fin 24).val : Nat) : Int) + 1 = thg s by show (((thg s - 1).toNat : Nat) : Int) + 1 = thg s; omega] at this
    exact this
theorem shOk_n {d : UInt64} (h : shOk d = true) : Op.cmpValue (FP.dcmp d d) CmpOp.l = gI 0 ∧ d.toInt64 = bitsF d ∧ bOk 1022 d = true := by
  unfold shOk at h
  rw [Bool.and_eq_true, Bool.and_eq_true] at h
  exact ⟨isN_0 h.1.1, (eq_of_beq h.1.2).symm, h.2⟩

set_option maxRecDepth 100000 in
set_option maxHeartbeats 4000000 in
theorem c_Jxe99ae_isNaN_b9ae7 {l : Launch} {D : va_G} {ty : Nat → ClassId} {ad : Int → Nat} {N : Int} {σ : Int → va_E} {d : UInt64} (hn : Op.cmpValue (FP.dcmp d d) CmpOp.l = gI 0) : gM0 l yJxe99ae_isNaN_b9ae7 cJxe99ae_isNaN_b9ae7 2 (some .boolean) 0 0 [.double d] D ty ad N (σ) (some (.int (gI 0))) (σ) := by
  refine gMet_of [some (.double d), none] (by decide +kernel) rfl (Nat.le_of_ble_eq_true rfl) rfl ?_
  intro X hl hD hty C hini
  subst hl hD hty
  refine r_dload_n C dJxe99ae_isNaN_b9ae7_0 rfl rfl ?_
  refine r_dload_n C dJxe99ae_isNaN_b9ae7_1 rfl rfl ?_
  refine r_dcmp C dJxe99ae_isNaN_b9ae7_2 ?_
  rw [hn]
  refine r_if_eq (tgt := 10) C dJxe99ae_isNaN_b9ae7_3 (by decide) (by omega) (fun h3 => ?_) (fun h3 => ?_)
  · refine r_iconst C dJxe99ae_isNaN_b9ae7_10 ?_
    exact r_zretD C dJxe99ae_isNaN_b9ae7_11 (by omega) rfl rfl
  · (exfalso; omega)

set_option maxRecDepth 100000 in
set_option maxHeartbeats 4000000 in
theorem c_Jxe99ae_doubleToLongBits_ccdee {l : Launch} {D : va_G} {ty : Nat → ClassId} {ad : Int → Nat} {N : Int} {σ : Int → va_E} {d : UInt64} (hn : Op.cmpValue (FP.dcmp d d) CmpOp.l = gI 0) : gM0 l yJxe99ae_doubleToLongBits_ccdee cJxe99ae_doubleToLongBits_ccdee 2 (some .long) 1 40 [.double d] D ty ad N (σ) (some (.long d.toInt64)) (σ) := by
  refine gMet_of [some (.double d), none] (by decide +kernel) rfl (Nat.le_of_ble_eq_true rfl) rfl ?_
  intro X hl hD hty C hini
  subst hl hD hty
  refine r_dload_n C dJxe99ae_doubleToLongBits_ccdee_0 rfl rfl ?_
  refine r_cS C cwJxe99ae_122 (c_Jxe99ae_isNaN_b9ae7 hn) dJxe99ae_doubleToLongBits_ccdee_1 rfl rfl rfl (Nat.le_of_ble_eq_true rfl) ⟨Nat.le_of_ble_eq_true rfl, Nat.le_of_ble_eq_true rfl⟩ ⟨Nat.le_of_ble_eq_true rfl, Nat.le_of_ble_eq_true rfl⟩ ?_
  refine r_if_ne (tgt := 12) C dJxe99ae_doubleToLongBits_ccdee_4 (by decide) (by omega) (fun h4 => ?_) (fun h4 => ?_)
  · (exfalso; omega)
  · refine r_dload_n C dJxe99ae_doubleToLongBits_ccdee_7 rfl rfl ?_
    refine r_d2b C dJxe99ae_doubleToLongBits_ccdee_8 rfl (by decide) (by decide) ?_
    exact r_lretD C dJxe99ae_doubleToLongBits_ccdee_11 rfl rfl

