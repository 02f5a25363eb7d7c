/-! the deeds as a text, played; the hash -/

theorem okS_light {s : Int → Int} (hs : okS s) {r : Int} (hr : 0 ≤ r ∧ r < 6) (h : 0 < rm s r 0) : okS (light1 s r) := by
  unfold light1
  rw [← srm_up s r (by omega)]
  refine okS_room hs hr ?_ (can_up (can_rm s r) (by omega) _)
  obtain ⟨h0, h1, h2, h3, h5, h6, h7, h8, h9⟩ := hs.rm hr
  refine ⟨?_, ?_, ?_, ?_, ?_, ?_, fun i a b => ?_, fun i a b => ?_, ?_⟩
  · simp only [up_ap, Int.reduceEq, reduceIte]; omega
  · rw [up_s]; exact Or.inr rfl
  · simp only [up_ap, Int.reduceEq, reduceIte]; omega
  · simp only [up_ap, Int.reduceEq, reduceIte]; omega
  · simp only [up_ap, Int.reduceEq, reduceIte]; omega
  · simp only [up_ap, Int.reduceEq, reduceIte]; omega
  · rw [up_n (by omega)]; exact h7 i a b
  · rw [up_n (by omega)]; exact h8 i a b
  · intro _; rw [up_n (by omega)]; exact h
theorem okS_one {s : Int → Int} (hs : okS s) {z : Int} (hz : 0 ≤ z ∧ z ≤ 12) : okS (up s 1 z) := by
  refine ⟨?_, ?_, ?_, fun r h1 h2 => ?_⟩
  · rw [up_n (by omega)]; exact hs.set
  · rw [up_s]; exact hz
  · rw [up_n (by omega), up_n (by omega)]; exact hs.dra
  · rw [rm_up_lo (by omega)]; exact hs.rm ⟨h1, h2⟩
theorem okS_set {s : Int → Int} (hs : okS s) {z : Int} (hz : 1 ≤ z ∧ z ≤ 50) : okS (up s 0 z) := by
  refine ⟨?_, ?_, ?_, fun r h1 h2 => ?_⟩
  · rw [up_s]; exact hz
  · rw [up_n (by omega)]; exact hs.box
  · rw [up_n (by omega), up_n (by omega)]; exact hs.dra
  · rw [rm_up_lo (by omega)]; exact hs.rm ⟨h1, h2⟩
theorem okS_renew {s : Int → Int} (hs : okS s) {r : Int} (hr : 0 ≤ r ∧ r < 6) (h : 0 < s 1) : okS (renew s r) := by
  unfold renew
  refine okS_one (okS_room hs hr ?_ (can_up (can_up (can_up (can_rm s r) (by omega) _) (by omega) _) (by omega) _)) (by have := hs.box; omega)
  obtain ⟨h0, h1, h2, h3, h5, h6, h7, h8, h9⟩ := hs.rm hr
  refine ⟨?_, ?_, ?_, ?_, ?_, ?_, fun i a b => ?_, fun i a b => ?_, ?_⟩
  · first | (simp only [up_ap, Int.reduceEq, reduceIte]; omega) | (simp [up_ap]; done)
  · exact Or.inl (by rw [up_s])
  · first | (simp only [up_ap, Int.reduceEq, reduceIte]; omega) | (simp [up_ap]; done)
  · simp only [up_ap, Int.reduceEq, reduceIte]; omega
  · simp only [up_ap, Int.reduceEq, reduceIte]; omega
  · simp only [up_ap, Int.reduceEq, reduceIte]; omega
  · rw [up_n (by omega), up_n (by omega), up_n (by omega)]; exact h7 i a b
  · rw [up_n (by omega), up_n (by omega), up_n (by omega)]; exact h8 i a b
  · intro h; rw [up_s] at h; omega
theorem okS_keep {s : Int → Int} (hs : okS s) {r key : Int} (hr : 0 ≤ r ∧ r < 6) (hk : 0 ≤ key ∧ key < 100) (h : rm s r 6 < 4) : okS (keepS s r key) := by
  have hq := hs.rm hr
  have hm := hq.many
  unfold keepS addR
  have h1 : okR (up (up (rm s r) (7 + rm s r 6) key) (11 + rm s r 6) 0) := okR_row hq (fun j a b => by rw [up_n (by omega), up_n (by omega)])
    (fun i a b => by
      rw [up_n (by omega)]
      by_cases e : i = rm s r 6
      · rw [e, up_s]; exact hk
      · rw [up_n (by omega)]; exact hq.keys i a b)
    (fun i a b => by
      by_cases e : i = rm s r 6
      · rw [e, up_s]; omega
      · rw [up_n (by omega), up_n (by omega)]; exact hq.dark i a b)
  exact okS_room hs hr (okR_many h1 (by omega)) (can_up (can_up (can_up (can_rm s r) (by omega) _) (by omega) _) (by omega) _)
theorem okS_door {s : Int → Int} (hs : okS s) {r z : Int} (hr : 0 ≤ r ∧ r < 6) (hz : z = 0 ∨ z = 1) : okS (up s (9 + 15 * r + 5) z) := by
  rw [← srm_up s r (by omega)]
  refine okS_room hs hr ?_ (can_up (can_rm s r) (by omega) _)
  obtain ⟨h0, h1, h2, h3, h5, h6, h7, h8, h9⟩ := hs.rm hr
  refine ⟨?_, ?_, ?_, ?_, ?_, ?_, fun i a b => ?_, fun i a b => ?_, ?_⟩
  · simp only [up_ap, Int.reduceEq, reduceIte]; omega
  · simp only [up_ap, Int.reduceEq, reduceIte]; omega
  · simp only [up_ap, Int.reduceEq, reduceIte]; omega
  · simp only [up_ap, Int.reduceEq, reduceIte]; omega
  · rw [up_s]; exact hz
  · simp only [up_ap, Int.reduceEq, reduceIte]; omega
  · rw [up_n (by omega)]; exact h7 i a b
  · rw [up_n (by omega)]; exact h8 i a b
  · simp only [up_ap, Int.reduceEq, reduceIte]; omega
theorem okS_shield {s : Int → Int} (hs : okS s) {r z : Int} (hr : 0 ≤ r ∧ r < 6) (hz : z = 0 ∨ z = 1) : okS (up s (9 + 15 * r + 3) z) := by
  rw [← srm_up s r (by omega)]
  refine okS_room hs hr ?_ (can_up (can_rm s r) (by omega) _)
  obtain ⟨h0, h1, h2, h3, h5, h6, h7, h8, h9⟩ := hs.rm hr
  refine ⟨?_, ?_, ?_, ?_, ?_, ?_, fun i a b => ?_, fun i a b => ?_, ?_⟩
  · simp only [up_ap, Int.reduceEq, reduceIte]; omega
  · simp only [up_ap, Int.reduceEq, reduceIte]; omega
  · simp only [up_ap, Int.reduceEq, reduceIte]; omega
  · rw [up_s]; exact hz
  · simp only [up_ap, Int.reduceEq, reduceIte]; omega
  · simp only [up_ap, Int.reduceEq, reduceIte]; omega
  · rw [up_n (by omega)]; exact h7 i a b
  · rw [up_n (by omega)]; exact h8 i a b
  · simp only [up_ap, Int.reduceEq, reduceIte]; omega
theorem okS_rd {s : Int → Int} (hs : okS s) (key : Int) : okS (rdS s key) := by
  have hrr := rof_rng s key
  unfold rdS
  split
  · exact hs
  · split
    · exact okS_bts _ _ _ (okS_wick (okS_lo hs (by omega)) (by omega))
    · exact okS_bts _ _ _ (okS_lo (okS_lo hs (by omega)) (by omega))
/-- a deed of the text: whether it is possible, and what it does -/
def dOk (s : Int → Int) (r c v : Int) : Int := if c = 42 then gB (mayS s r) else if c = 60 then gB (mayL s r ((r - 1) % 6)) else if c = 62 then gB (mayL s r ((r + 1) % 6)) else if c = 98 then 1 else if c = 110 then gB (0 < s 1) else gB (mayK s r v)
def dS (s : Int → Int) (r c v : Int) : Int → Int := if c = 42 then (if mayS s r then light1 s r else s) else if c = 60 then (if mayL s r ((r - 1) % 6) then light1 s r else s) else if c = 62 then (if mayL s r ((r + 1) % 6) then light1 s r else s) else if c = 98 then draS s r v else if c = 110 then (if 0 < s 1 then renew s r else s) else (if mayK s r v then keepS s r v else s)
theorem dOk_rng (s : Int → Int) (r c v : Int) : dOk s r c v = 0 ∨ dOk s r c v = 1 := by
  have h1 := gB_rng (mayS s r)
  have h2 := gB_rng (mayL s r ((r - 1) % 6))
  have h3 := gB_rng (mayL s r ((r + 1) % 6))
  have h4 := gB_rng (0 < s 1)
  have h5 := gB_rng (mayK s r v)
  unfold dOk
  (repeat' split) <;> omega
theorem dS_0 {s : Int → Int} {r c v : Int} (h : dOk s r c v = 0) : dS s r c v = s := by
  unfold dOk at h
  unfold dS
  by_cases e1 : c = 42
  · rw [if_pos e1] at h ⊢; rw [if_neg ((gB_0 _).mp h)]
  · rw [if_neg e1] at h ⊢
    by_cases e2 : c = 60
    · rw [if_pos e2] at h ⊢; rw [if_neg ((gB_0 _).mp h)]
    · rw [if_neg e2] at h ⊢
      by_cases e3 : c = 62
      · rw [if_pos e3] at h ⊢; rw [if_neg ((gB_0 _).mp h)]
      · rw [if_neg e3] at h ⊢
        by_cases e4 : c = 98
        · rw [if_pos e4] at h; omega
        · rw [if_neg e4] at h ⊢
          by_cases e5 : c = 110
          · rw [if_pos e5] at h ⊢; rw [if_neg ((gB_0 _).mp h)]
          · rw [if_neg e5] at h ⊢; rw [if_neg ((gB_0 _).mp h)]
/-- what a part says is a deed -/
def vD (r c v : Int) : Prop := (0 ≤ r ∧ r < 6) ∧ (c = 98 → 1 ≤ v ∧ v ≤ 6) ∧ (0 ≤ v ∧ v < 100)
theorem okS_dS {s : Int → Int} (hs : okS s) {r c v : Int} (h : vD r c v) : okS (dS s r c v) := by
  obtain ⟨hr, hb, hv⟩ := h
  unfold dS
  split
  · split
    · rename_i h2; exact okS_light hs hr h2.2
    · exact hs
  · split
    · split
      · rename_i h2; exact okS_light hs hr h2.2.1
      · exact hs
    · split
      · split
        · rename_i h2; exact okS_light hs hr h2.2.1
        · exact hs
      · split
        · rename_i h2; exact okS_dra hs hr (hb h2)
        · split
          · split
            · rename_i h2; exact okS_renew hs hr h2
            · exact hs
          · split
            · rename_i h2; exact okS_keep hs hr hv h2.2
            · exact hs
def plN (len : Int) (tx : Int → Int) : Nat → Int → Int → (Int → Int) → (Int → Int) × Int
  | 0, _, d, s => (s, d)
  | n + 1, p, d, s => if stP len tx p then (if dOk s (dgAt len tx p) (cAt len tx (p + 1)) (nuAt len tx (p + 2)) = 1 then plN len tx n (p + 1) (d + 1) (dS s (dgAt len tx p) (cAt len tx (p + 1)) (nuAt len tx (p + 2))) else (s, d)) else plN len tx n (p + 1) d s
def vT (len : Int) (tx : Int → Int) : Prop := ∀ p, 0 ≤ p → p < len → stP len tx p → vD (dgAt len tx p) (cAt len tx (p + 1)) (nuAt len tx (p + 2))
theorem okS_plN {len : Int} {tx : Int → Int} (hv : vT len tx) : ∀ (n : Nat) (p d : Int) (s : Int → Int), 0 ≤ p → p + n ≤ len → okS s → okS (plN len tx n p d s).1
  | 0, _, _, s, _, _, hs => hs
  | n + 1, p, d, s, hp, hn, hs => by
    unfold plN
    split
    · rename_i h
      split
      · exact okS_plN hv n (p + 1) _ _ (by omega) (by omega) (okS_dS hs (hv p hp (by omega) h))
      · exact hs
    · exact okS_plN hv n (p + 1) d s (by omega) (by omega) hs
theorem okX.s {s : Int → Int} {n : Int} {u : Int → Int → Int} {len : Int} {tx : Int → Int} (h : okX s n u len tx) {s' : Int → Int} (h' : okS s') : okX s' n u len tx := ⟨h', h.2⟩

set_option maxRecDepth 100000 in
set_option maxHeartbeats 4000000 in
theorem c_X4_playDeed {l : Launch} {D : va_G} {ty : Nat → ClassId} {ad : Int → Nat} {N : Int} {σ : Int → va_E} {x n k len : Int} {u : Int → Int → Int} {s tx : Int → Int} {p : Int} (hx : 0 ≤ x ∧ x + 145 ≤ N) (ho : okX s n u len tx) (hp : 0 ≤ p ∧ p ≤ 900) (hd : vD (dgAt len tx p) (cAt len tx (p + 1)) (nuAt len tx (p + 2))) : gM0 l yX4_playDeed cX4_playDeed 4 (some .boolean) 5 110 [.ref (ad x), .int (gI p)] D ty ad N (xput ad ty σ x s n k u len tx) (some (.int (gI (dOk s (dgAt len tx p) (cAt len tx (p + 1)) (nuAt len tx (p + 2)))))) (xput ad ty σ x (dS s (dgAt len tx p) (cAt len tx (p + 1)) (nuAt len tx (p + 2))) n k u len tx) := by
  refine gMet_of [some (.ref (ad x)), some (.int (gI p)), none, none] (by decide +kernel) rfl (Nat.le_of_ble_eq_true rfl) rfl ?_
  intro X hl hD hty C hini
  subst hl hD hty
  have hs := ho.1
  have hn := ho.2.1
  have ht := ho.2.2.2
  have hlen := ht.1
  have hr := hd.1
  have hv := hd.2.2
  have hb98 := hd.2.1
  have hca := cAt_rng ht (p + 1)
  refine r_aload_n C dX4_playDeed_0 rfl rfl ?_
  refine r_get C flX4_26 dX4_playDeed_1 (by omega) xput_0 rfl ?_
  refine r_iload_n C dX4_playDeed_4 rfl rfl ?_
  refine r_cV C cwX4_256 (liftXd (c_X0_digitAt (by omega) ht (by omega))) dX4_playDeed_5 rfl (by omega) xput_tx rfl rfl rfl (Nat.le_of_ble_eq_true rfl) ⟨Nat.le_of_ble_eq_true rfl, Nat.le_of_ble_eq_true rfl⟩ ⟨Nat.le_of_ble_eq_true rfl, Nat.le_of_ble_eq_true rfl⟩ ?_
  refine r_istore_n C dX4_playDeed_8 rfl (Nat.le_of_ble_eq_true rfl) rfl ?_
  dsimp only [List.set]
  refine r_aload_n C dX4_playDeed_9 rfl rfl ?_
  refine r_get C flX4_26 dX4_playDeed_10 (by omega) xput_0 rfl ?_
  refine r_iload_n C dX4_playDeed_13 rfl rfl ?_
  refine r_iconst C dX4_playDeed_14 ?_
  refine r_iadd C dX4_playDeed_15 ?_
  refine r_cV C cwX4_259 (liftXd (c_X0_numberFrom (by omega) ht (by omega))) dX4_playDeed_16 rfl (by omega) xput_tx rfl rfl rfl (Nat.le_of_ble_eq_true rfl) ⟨Nat.le_of_ble_eq_true rfl, Nat.le_of_ble_eq_true rfl⟩ ⟨Nat.le_of_ble_eq_true rfl, Nat.le_of_ble_eq_true rfl⟩ ?_
  refine r_istore_n C dX4_playDeed_19 rfl (Nat.le_of_ble_eq_true rfl) rfl ?_
  dsimp only [List.set]
  refine r_aload_n C dX4_playDeed_20 rfl rfl ?_
  refine r_get C flX4_26 dX4_playDeed_21 (by omega) xput_0 rfl ?_
  refine r_iload_n C dX4_playDeed_24 rfl rfl ?_
  refine r_iconst C dX4_playDeed_25 ?_
  refine r_iadd C dX4_playDeed_26 ?_
  refine r_cV C cwX4_211 (liftXd (c_X0_codeAt (by omega) ht (by omega))) dX4_playDeed_27 rfl (by omega) xput_tx rfl rfl rfl (Nat.le_of_ble_eq_true rfl) ⟨Nat.le_of_ble_eq_true rfl, Nat.le_of_ble_eq_true rfl⟩ ⟨Nat.le_of_ble_eq_true rfl, Nat.le_of_ble_eq_true rfl⟩ ?_
  rcases (show cAt len tx (p + 1) = 42 ∨ cAt len tx (p + 1) = 60 ∨ cAt len tx (p + 1) = 62 ∨ cAt len tx (p + 1) = 98 ∨ cAt len tx (p + 1) = 110 ∨ (cAt len tx (p + 1) ≠ 42 ∧ cAt len tx (p + 1) ≠ 60 ∧ cAt len tx (p + 1) ≠ 62 ∧ cAt len tx (p + 1) ≠ 98 ∧ cAt len tx (p + 1) ≠ 110) by omega) with hw | hw | hw | hw | hw | hw
  · refine r_look (tgt := 80) (off := 50) C dX4_playDeed_30 (by omega) (by decide) (by rw [hw]; first | done | rfl) (by decide) ?_
    refine r_aload_n C dX4_playDeed_80 rfl rfl ?_
    refine r_get C flX4_10 dX4_playDeed_81 (by omega) xput_0 rfl ?_
    refine r_iload_n C dX4_playDeed_84 rfl rfl ?_
    refine r_cV C cwX4_262 (liftXs (c_X3_strikeIfPossible (by omega) hs (by omega))) dX4_playDeed_85 rfl (by omega) xput_st rfl rfl rfl (Nat.le_of_ble_eq_true rfl) ⟨Nat.le_of_ble_eq_true rfl, Nat.le_of_ble_eq_true rfl⟩ ⟨Nat.le_of_ble_eq_true rfl, Nat.le_of_ble_eq_true rfl⟩ ?_
    exact r_zretD C dX4_playDeed_88 (by first | omega | (have := gB_rng (mayS s (dgAt len tx p)); omega) | (have := gB_rng (mayL s (dgAt len tx p) ((dgAt len tx p - 1) % 6)); omega) | (have := gB_rng (mayL s (dgAt len tx p) ((dgAt len tx p + 1) % 6)); omega) | (have := gB_rng (0 < s 1); omega) | (have := gB_rng (mayK s (dgAt len tx p) (nuAt len tx (p + 2))); omega)) (by unfold dOk; rw [if_pos hw]) (by unfold dS; rw [if_pos hw])
  · refine r_look (tgt := 89) (off := 59) C dX4_playDeed_30 (by omega) (by decide) (by rw [hw]; first | done | rfl) (by decide) ?_
    refine r_aload_n C dX4_playDeed_89 rfl rfl ?_
    refine r_get C flX4_10 dX4_playDeed_90 (by omega) xput_0 rfl ?_
    refine r_iload_n C dX4_playDeed_93 rfl rfl ?_
    refine r_iload_n C dX4_playDeed_94 rfl rfl ?_
    refine r_iconst C dX4_playDeed_95 ?_
    refine r_isub C dX4_playDeed_96 ?_
    refine r_bipush C dX4_playDeed_97 (by decide) ?_
    refine r_cS C cwX4_265 (c_J9_floorMod_7cf53 (by omega) (by omega)) dX4_playDeed_99 rfl rfl rfl (Nat.le_of_ble_eq_true rfl) ⟨Nat.le_of_ble_eq_true rfl, Nat.le_of_ble_eq_true rfl⟩ ⟨Nat.le_of_ble_eq_true rfl, Nat.le_of_ble_eq_true rfl⟩ ?_
    refine r_cV C cwX4_270 (liftXs (c_X3_lightIfPossible (by omega) hs (by omega) (by omega))) dX4_playDeed_102 rfl (by omega) xput_st rfl rfl rfl (Nat.le_of_ble_eq_true rfl) ⟨Nat.le_of_ble_eq_true rfl, Nat.le_of_ble_eq_true rfl⟩ ⟨Nat.le_of_ble_eq_true rfl, Nat.le_of_ble_eq_true rfl⟩ ?_
    exact r_zretD C dX4_playDeed_105 (by first | omega | (have := gB_rng (mayS s (dgAt len tx p)); omega) | (have := gB_rng (mayL s (dgAt len tx p) ((dgAt len tx p - 1) % 6)); omega) | (have := gB_rng (mayL s (dgAt len tx p) ((dgAt len tx p + 1) % 6)); omega) | (have := gB_rng (0 < s 1); omega) | (have := gB_rng (mayK s (dgAt len tx p) (nuAt len tx (p + 2))); omega)) (by unfold dOk; rw [if_neg (show ¬ cAt len tx (p + 1) = 42 by omega), if_pos hw]) (by unfold dS; rw [if_neg (show ¬ cAt len tx (p + 1) = 42 by omega), if_pos hw])
  · refine r_look (tgt := 106) (off := 76) C dX4_playDeed_30 (by omega) (by decide) (by rw [hw]; first | done | rfl) (by decide) ?_
    refine r_aload_n C dX4_playDeed_106 rfl rfl ?_
    refine r_get C flX4_10 dX4_playDeed_107 (by omega) xput_0 rfl ?_
    refine r_iload_n C dX4_playDeed_110 rfl rfl ?_
    refine r_iload_n C dX4_playDeed_111 rfl rfl ?_
    refine r_iconst C dX4_playDeed_112 ?_
    refine r_iadd C dX4_playDeed_113 ?_
    refine r_bipush C dX4_playDeed_114 (by decide) ?_
    refine r_cS C cwX4_265 (c_J9_floorMod_7cf53 (by omega) (by omega)) dX4_playDeed_116 rfl rfl rfl (Nat.le_of_ble_eq_true rfl) ⟨Nat.le_of_ble_eq_true rfl, Nat.le_of_ble_eq_true rfl⟩ ⟨Nat.le_of_ble_eq_true rfl, Nat.le_of_ble_eq_true rfl⟩ ?_
    refine r_cV C cwX4_270 (liftXs (c_X3_lightIfPossible (by omega) hs (by omega) (by omega))) dX4_playDeed_119 rfl (by omega) xput_st rfl rfl rfl (Nat.le_of_ble_eq_true rfl) ⟨Nat.le_of_ble_eq_true rfl, Nat.le_of_ble_eq_true rfl⟩ ⟨Nat.le_of_ble_eq_true rfl, Nat.le_of_ble_eq_true rfl⟩ ?_
    exact r_zretD C dX4_playDeed_122 (by first | omega | (have := gB_rng (mayS s (dgAt len tx p)); omega) | (have := gB_rng (mayL s (dgAt len tx p) ((dgAt len tx p - 1) % 6)); omega) | (have := gB_rng (mayL s (dgAt len tx p) ((dgAt len tx p + 1) % 6)); omega) | (have := gB_rng (0 < s 1); omega) | (have := gB_rng (mayK s (dgAt len tx p) (nuAt len tx (p + 2))); omega)) (by unfold dOk; rw [if_neg (show ¬ cAt len tx (p + 1) = 42 by omega), if_neg (show ¬ cAt len tx (p + 1) = 60 by omega), if_pos hw]) (by unfold dS; rw [if_neg (show ¬ cAt len tx (p + 1) = 42 by omega), if_neg (show ¬ cAt len tx (p + 1) = 60 by omega), if_pos hw])
  · refine r_look (tgt := 132) (off := 102) C dX4_playDeed_30 (by omega) (by decide) (by rw [hw]; first | done | rfl) (by decide) ?_
    refine r_aload_n C dX4_playDeed_132 rfl rfl ?_
    refine r_get C flX4_10 dX4_playDeed_133 (by omega) xput_0 rfl ?_
    refine r_iload_n C dX4_playDeed_136 rfl rfl ?_
    refine r_iload_n C dX4_playDeed_137 rfl rfl ?_
    refine r_cV C cwX4_98 (liftXs (c_X3_beginDraught (by omega) hs (by omega) (hb98 hw))) dX4_playDeed_138 rfl (by omega) xput_st rfl rfl rfl (Nat.le_of_ble_eq_true rfl) ⟨Nat.le_of_ble_eq_true rfl, Nat.le_of_ble_eq_true rfl⟩ ⟨Nat.le_of_ble_eq_true rfl, Nat.le_of_ble_eq_true rfl⟩ ?_
    refine r_pop C dX4_playDeed_141 rfl ?_
    refine r_iconst C dX4_playDeed_142 ?_
    exact r_zretD C dX4_playDeed_143 (by first | omega | (have := gB_rng (mayS s (dgAt len tx p)); omega) | (have := gB_rng (mayL s (dgAt len tx p) ((dgAt len tx p - 1) % 6)); omega) | (have := gB_rng (mayL s (dgAt len tx p) ((dgAt len tx p + 1) % 6)); omega) | (have := gB_rng (0 < s 1); omega) | (have := gB_rng (mayK s (dgAt len tx p) (nuAt len tx (p + 2))); omega)) (by unfold dOk; rw [if_neg (show ¬ cAt len tx (p + 1) = 42 by omega), if_neg (show ¬ cAt len tx (p + 1) = 60 by omega), if_neg (show ¬ cAt len tx (p + 1) = 62 by omega), if_pos hw]) (by unfold dS; rw [if_neg (show ¬ cAt len tx (p + 1) = 42 by omega), if_neg (show ¬ cAt len tx (p + 1) = 60 by omega), if_neg (show ¬ cAt len tx (p + 1) = 62 by omega), if_pos hw])
  · refine r_look (tgt := 123) (off := 93) C dX4_playDeed_30 (by omega) (by decide) (by rw [hw]; first | done | rfl) (by decide) ?_
    refine r_aload_n C dX4_playDeed_123 rfl rfl ?_
    refine r_get C flX4_10 dX4_playDeed_124 (by omega) xput_0 rfl ?_
    refine r_iload_n C dX4_playDeed_127 rfl rfl ?_
    refine r_cV C cwX4_273 (liftXs (c_X3_renewIfPossible (by omega) hs (by omega))) dX4_playDeed_128 rfl (by omega) xput_st rfl rfl rfl (Nat.le_of_ble_eq_true rfl) ⟨Nat.le_of_ble_eq_true rfl, Nat.le_of_ble_eq_true rfl⟩ ⟨Nat.le_of_ble_eq_true rfl, Nat.le_of_ble_eq_true rfl⟩ ?_
    exact r_zretD C dX4_playDeed_131 (by first | omega | (have := gB_rng (mayS s (dgAt len tx p)); omega) | (have := gB_rng (mayL s (dgAt len tx p) ((dgAt len tx p - 1) % 6)); omega) | (have := gB_rng (mayL s (dgAt len tx p) ((dgAt len tx p + 1) % 6)); omega) | (have := gB_rng (0 < s 1); omega) | (have := gB_rng (mayK s (dgAt len tx p) (nuAt len tx (p + 2))); omega)) (by unfold dOk; rw [if_neg (show ¬ cAt len tx (p + 1) = 42 by omega), if_neg (show ¬ cAt len tx (p + 1) = 60 by omega), if_neg (show ¬ cAt len tx (p + 1) = 62 by omega), if_neg (show ¬ cAt len tx (p + 1) = 98 by omega), if_pos hw]) (by unfold dS; rw [if_neg (show ¬ cAt len tx (p + 1) = 42 by omega), if_neg (show ¬ cAt len tx (p + 1) = 60 by omega), if_neg (show ¬ cAt len tx (p + 1) = 62 by omega), if_neg (show ¬ cAt len tx (p + 1) = 98 by omega), if_pos hw])
  · refine r_look (tgt := 144) (off := 114) C dX4_playDeed_30 (by omega) (by decide) (by simp [Op.lookupswitch.offset]; (repeat' split) <;> omega) (by decide) ?_
    refine r_aload_n C dX4_playDeed_144 rfl rfl ?_
    refine r_get C flX4_10 dX4_playDeed_145 (by omega) xput_0 rfl ?_
    refine r_iload_n C dX4_playDeed_148 rfl rfl ?_
    refine r_iload_n C dX4_playDeed_149 rfl rfl ?_
    refine r_cV C cwX4_276 (liftXs (c_X3_keepIfPossible (by omega) hs (by omega) (by omega))) dX4_playDeed_150 rfl (by omega) xput_st rfl rfl rfl (Nat.le_of_ble_eq_true rfl) ⟨Nat.le_of_ble_eq_true rfl, Nat.le_of_ble_eq_true rfl⟩ ⟨Nat.le_of_ble_eq_true rfl, Nat.le_of_ble_eq_true rfl⟩ ?_
    exact r_zretD C dX4_playDeed_153 (by first | omega | (have := gB_rng (mayS s (dgAt len tx p)); omega) | (have := gB_rng (mayL s (dgAt len tx p) ((dgAt len tx p - 1) % 6)); omega) | (have := gB_rng (mayL s (dgAt len tx p) ((dgAt len tx p + 1) % 6)); omega) | (have := gB_rng (0 < s 1); omega) | (have := gB_rng (mayK s (dgAt len tx p) (nuAt len tx (p + 2))); omega)) (by unfold dOk; rw [if_neg (show ¬ cAt len tx (p + 1) = 42 by omega), if_neg (show ¬ cAt len tx (p + 1) = 60 by omega), if_neg (show ¬ cAt len tx (p + 1) = 62 by omega), if_neg (show ¬ cAt len tx (p + 1) = 98 by omega), if_neg (show ¬ cAt len tx (p + 1) = 110 by omega)]) (by unfold dS; rw [if_neg (show ¬ cAt len tx (p + 1) = 42 by omega), if_neg (show ¬ cAt len tx (p + 1) = 60 by omega), if_neg (show ¬ cAt len tx (p + 1) = 62 by omega), if_neg (show ¬ cAt len tx (p + 1) = 98 by omega), if_neg (show ¬ cAt len tx (p + 1) = 110 by omega)])

set_option maxRecDepth 100000 in
set_option maxHeartbeats 4000000 in
theorem c_X4_playDeeds {l : Launch} {D : va_G} {ty : Nat → ClassId} {ad : Int → Nat} {N : Int} {σ : Int → va_E} {x n k len : Int} {u : Int → Int → Int} {s tx : Int → Int} (hx : 0 ≤ x ∧ x + 145 ≤ N) (ho : okX s n u len tx) (hv : vT len tx) : gM0 l yX4_playDeeds cX4_playDeeds 3 (some .int) 6 133 [.ref (ad x)] D ty ad N (xput ad ty σ x s n k u len tx) (some (.int (gI (plN len tx len.toNat 0 0 s).2))) (xput ad ty σ x (plN len tx len.toNat 0 0 s).1 n k u len tx) := by
  refine gMet_of [some (.ref (ad x)), none, none] (by decide +kernel) rfl (Nat.le_of_ble_eq_true rfl) rfl ?_
  intro X hl hD hty C hini
  subst hl hD hty
  have hs := ho.1
  have hn := ho.2.1
  have ht := ho.2.2.2
  have hlen := ht.1
  refine r_iconst C dX4_playDeeds_0 ?_
  refine r_istore_n C dX4_playDeeds_1 rfl (Nat.le_of_ble_eq_true rfl) rfl ?_
  dsimp only [List.set]
  refine r_iconst C dX4_playDeeds_2 ?_
  refine r_istore_n C dX4_playDeeds_3 rfl (Nat.le_of_ble_eq_true rfl) rfl ?_
  dsimp only [List.set]
  have lp : ∀ (j : Nat) (p d : Int) (t : Int → Int), (0 ≤ p) → (p + j = len) → (okS t) → (plN len tx j p d t = plN len tx len.toNat 0 0 s) → V X 0 0 (gQ X (gD (some (.int (gI (plN len tx len.toNat 0 0 s).2))) ad N (xput ad (gty X) σ x (plN len tx len.toNat 0 0 s).1 n k u len tx)) 0 0) 4 [some (.ref (ad x)), some (.int (gI d)), some (.int (gI p))] [] ad N (xput ad (gty X) σ x t n k u len tx) := by
    intro j
    induction j with
    | zero =>
      intro p d t hp hpn hts e
      refine r_iload_n C dX4_playDeeds_4 rfl rfl ?_
      refine r_aload_n C dX4_playDeeds_5 rfl rfl ?_
      refine r_get C flX4_26 dX4_playDeeds_6 (by omega) xput_0 rfl ?_
      refine r_get C flX4_208 dX4_playDeeds_9 (by omega) xput_tx rfl ?_
      refine r_icmp_ge (tgt := 45) C dX4_playDeeds_12 (by decide) (by omega) (by omega) (fun h12 => ?_) (fun h12 => ?_)
      · refine r_iload_n C dX4_playDeeds_45 rfl rfl ?_
        exact r_iretD C dX4_playDeeds_46 (by rw [← e]; rfl) (by rw [← e]; rfl)
      · exact absurd h12 (by omega)
    | succ j ih =>
      intro p d t hp hpn hts e
      have hdk := dOk_rng t (dgAt len tx p) (cAt len tx (p + 1)) (nuAt len tx (p + 2))
      refine r_iload_n C dX4_playDeeds_4 rfl rfl ?_
      refine r_aload_n C dX4_playDeeds_5 rfl rfl ?_
      refine r_get C flX4_26 dX4_playDeeds_6 (by omega) xput_0 rfl ?_
      refine r_get C flX4_208 dX4_playDeeds_9 (by omega) xput_tx rfl ?_
      refine r_icmp_ge (tgt := 45) C dX4_playDeeds_12 (by decide) (by omega) (by omega) (fun h12 => ?_) (fun h12 => ?_)
      · exact absurd h12 (by omega)
      · refine r_aload_n C dX4_playDeeds_15 rfl rfl ?_
        refine r_get C flX4_26 dX4_playDeeds_16 (by omega) xput_0 rfl ?_
        refine r_iload_n C dX4_playDeeds_19 rfl rfl ?_
        refine r_cV C cwX4_250 (liftXd (c_X0_startsPart (by omega) ht (by omega))) dX4_playDeeds_20 rfl (by omega) xput_tx rfl rfl rfl (Nat.le_of_ble_eq_true rfl) ⟨Nat.le_of_ble_eq_true rfl, Nat.le_of_ble_eq_true rfl⟩ ⟨Nat.le_of_ble_eq_true rfl, Nat.le_of_ble_eq_true rfl⟩ ?_
        refine r_ifb_eq (tgt := 39) C dX4_playDeeds_23 (by decide) (fun h23 => ?_) (fun h23 => ?_)
        · refine r_iinc C dX4_playDeeds_39 rfl rfl ?_
          dsimp only [List.set]
          refine r_goto (tgt := 4) C dX4_playDeeds_42 (by decide) ?_
          first
          | exact ih _ _ _ (by omega) (by omega) (okS_dS hts (hv p (by omega) (by omega) h23)) (by rw [← e]; simp only [plN]; rw [if_pos h23, if_pos (by omega)])
          | exact ih _ _ _ (by omega) (by omega) hts (by rw [← e]; simp only [plN]; rw [if_neg h23])
        · refine r_aload_n C dX4_playDeeds_26 rfl rfl ?_
          refine r_iload_n C dX4_playDeeds_27 rfl rfl ?_
          refine r_cV C cwX4_253 (c_X4_playDeed (by omega) (ho.s hts) (by omega) (hv p (by omega) (by omega) h23)) dX4_playDeeds_28 rfl (by omega) xput_0 rfl rfl rfl (Nat.le_of_ble_eq_true rfl) ⟨Nat.le_of_ble_eq_true rfl, Nat.le_of_ble_eq_true rfl⟩ ⟨Nat.le_of_ble_eq_true rfl, Nat.le_of_ble_eq_true rfl⟩ ?_
          refine r_if_ne (tgt := 36) C dX4_playDeeds_31 (by decide) (by omega) (fun h31 => ?_) (fun h31 => ?_)
          · refine r_iinc C dX4_playDeeds_36 rfl rfl ?_
            dsimp only [List.set]
            refine r_iinc C dX4_playDeeds_39 rfl rfl ?_
            dsimp only [List.set]
            refine r_goto (tgt := 4) C dX4_playDeeds_42 (by decide) ?_
            first
            | exact ih _ _ _ (by omega) (by omega) (okS_dS hts (hv p (by omega) (by omega) h23)) (by rw [← e]; simp only [plN]; rw [if_pos h23, if_pos (by omega)])
            | exact ih _ _ _ (by omega) (by omega) hts (by rw [← e]; simp only [plN]; rw [if_neg h23])
          · refine r_iload_n C dX4_playDeeds_34 rfl rfl ?_
            exact r_iretD C dX4_playDeeds_35 (by rw [← e]; simp only [plN]; rw [if_pos h23, if_neg (by omega)]) (by rw [← e]; simp only [plN]; rw [if_pos h23, if_neg (by omega), dS_0 (by omega)])
  exact lp len.toNat 0 0 s (by omega) (by omega) hs rfl

theorem pshN_rng {n : Int} (hn : 0 ≤ n ∧ n ≤ 6) : 0 ≤ pshN n ∧ pshN n ≤ 6 := by unfold pshN; split <;> omega
theorem okU_push {n k : Int} {u : Int → Int → Int} {s : Int → Int} (hn : 0 ≤ n ∧ n ≤ 6) (hs : okS s) (hu : ∀ i, 0 ≤ i → i < 6 → okS (u i)) : ∀ i, 0 ≤ i → i < 6 → okS (pshU n k u s i) := by
  intro i h1 h2
  unfold pshU
  by_cases e : i = (pshN n - 1 + pshK n k) % 6
  · rw [e, up_s]; exact hs
  · rw [up_n e]; exact hu i h1 h2

set_option maxRecDepth 100000 in
set_option maxHeartbeats 4000000 in
theorem c_X4_play {l : Launch} {D : va_G} {ty : Nat → ClassId} {ad : Int → Nat} {N : Int} {σ : Int → va_E} {x n k len : Int} {u : Int → Int → Int} {s tx : Int → Int} (hx : 0 ≤ x ∧ x + 145 ≤ N) (ho : okX s n u len tx) (hc : cmpl len tx) (hv : vT len tx) : gM0 l yX4_play cX4_play 2 (some .int) 7 200 [.ref (ad x)] D ty ad N (xput ad ty σ x s n k u len tx) (some (.int (gI (plN len tx len.toNat 0 0 s).2))) (xput ad ty σ x ((plN len tx len.toNat 0 0 s).1) (pshN n) (pshK n k) (pshU n k u s) (0) (tx)) := by
  refine gMet_of [some (.ref (ad x)), none] (by decide +kernel) rfl (Nat.le_of_ble_eq_true rfl) rfl ?_
  intro X hl hD hty C hini
  subst hl hD hty
  have hs := ho.1
  have hn := ho.2.1
  have ht := ho.2.2.2
  have hlen := ht.1
  refine r_aload_n C dX4_play_0 rfl rfl ?_
  refine r_get C flX4_26 dX4_play_1 (by omega) xput_0 rfl ?_
  refine r_cV C cwX4_145 (liftXd (c_X0_isComplete (by omega) ht)) dX4_play_4 rfl (by omega) xput_tx rfl rfl rfl (Nat.le_of_ble_eq_true rfl) ⟨Nat.le_of_ble_eq_true rfl, Nat.le_of_ble_eq_true rfl⟩ ⟨Nat.le_of_ble_eq_true rfl, Nat.le_of_ble_eq_true rfl⟩ ?_
  refine r_ifb_ne (tgt := 20) C dX4_play_7 (by decide) (fun h7 => ?_) (fun h7 => ?_)
  · refine r_aload_n C dX4_play_20 rfl rfl ?_
    refine r_get C flX4_19 dX4_play_21 (by omega) xput_0 rfl ?_
    refine r_aload_n C dX4_play_24 rfl rfl ?_
    refine r_get C flX4_10 dX4_play_25 (by omega) xput_0 rfl ?_
    refine r_cVv C cwX4_45 (liftXv (c_X2_push (s := s) (by omega) (by omega) (by omega) (by omega) hs (xput_s s))) dX4_play_28 rfl (by omega) xput_sv rfl rfl rfl (Nat.le_of_ble_eq_true rfl) ⟨Nat.le_of_ble_eq_true rfl, Nat.le_of_ble_eq_true rfl⟩ ⟨Nat.le_of_ble_eq_true rfl, Nat.le_of_ble_eq_true rfl⟩ ?_
    refine r_aload_n C dX4_play_31 rfl rfl ?_
    refine r_cV C cwX4_150 (c_X4_playDeeds (by omega) ⟨hs, pshN_rng hn, okU_push hn hs ho.2.2.1, ht⟩ hv) dX4_play_32 rfl (by omega) xput_0 rfl rfl rfl (Nat.le_of_ble_eq_true rfl) ⟨Nat.le_of_ble_eq_true rfl, Nat.le_of_ble_eq_true rfl⟩ ⟨Nat.le_of_ble_eq_true rfl, Nat.le_of_ble_eq_true rfl⟩ ?_
    refine r_istore_n C dX4_play_35 rfl (Nat.le_of_ble_eq_true rfl) rfl ?_
    dsimp only [List.set]
    refine r_aload_n C dX4_play_36 rfl rfl ?_
    refine r_get C flX4_26 dX4_play_37 (by omega) xput_0 rfl ?_
    refine r_cV C cwX4_138 (liftXd (c_X0_empty (by omega) ht)) dX4_play_40 rfl (by omega) xput_tx rfl rfl rfl (Nat.le_of_ble_eq_true rfl) ⟨Nat.le_of_ble_eq_true rfl, Nat.le_of_ble_eq_true rfl⟩ ⟨Nat.le_of_ble_eq_true rfl, Nat.le_of_ble_eq_true rfl⟩ ?_
    refine r_pop C dX4_play_43 rfl ?_
    refine r_iload_n C dX4_play_44 rfl rfl ?_
    exact r_iretD C dX4_play_45 rfl rfl
  · exact absurd hc h7

