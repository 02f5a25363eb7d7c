/-! the deeds as a text, played; the hash -/

theorem okS_light {s : Int → Int} (hs : okS s) {r : Int} (hr : 0 ≤ r ∧ r < 6) (h : 0 < rm s r 0) : okS (light1 s r) := by
  unfold light1
  rw [← srm_up s r (by omega)]
  refine okS_room hs hr ?_ (can_up (can_rm s r) (by omega) _)
  obtain ⟨h0, h1, h2, h3, h5, h6, h7, h8, h9⟩ := hs.rm hr
  refine ⟨?_, ?_, ?_, ?_, ?_, ?_, fun i a b => ?_, fun i a b => ?_, ?_⟩
  · simp only [up_ap, Int.reduceEq, reduceIte]; omega
  · rw [up_s]; exact Or.inr rfl
  · simp only [up_ap, Int.reduceEq, reduceIte]; omega
  · simp only [up_ap, Int.reduceEq, reduceIte]; omega
  · simp only [up_ap, Int.reduceEq, reduceIte]; omega
  · simp only [up_ap, Int.reduceEq, reduceIte]; omega
  · rw [up_n (by omega)]; exact h7 i a b
  · rw [up_n (by omega)]; exact h8 i a b
  · intro _; rw [up_n (by omega)]; exact h
theorem okS_one {s : Int → Int} (hs : okS s) {z : Int} (hz : 0 ≤ z ∧ z ≤ 12) : okS (up s 1 z) := by
  refine ⟨?_, ?_, ?_, fun r h1 h2 => ?_⟩
  · rw [up_n (by omega)]; exact hs.set
  · rw [up_s]; exact hz
  · rw [up_n (by omega), up_n (by omega)]; exact hs.dra
  · rw [rm_up_lo (by omega)]; exact hs.rm ⟨h1, h2⟩
theorem okS_set {s : Int → Int} (hs : okS s) {z : Int} (hz : 1 ≤ z ∧ z ≤ 50) : okS (up s 0 z) := by
  refine ⟨?_, ?_, ?_, fun r h1 h2 => ?_⟩
  · rw [up_s]; exact hz
  · rw [up_n (by omega)]; exact hs.box
  · rw [up_n (by omega), up_n (by omega)]; exact hs.dra
  · rw [rm_up_lo (by omega)]; exact hs.rm ⟨h1, h2⟩
theorem okS_renew {s : Int → Int} (hs : okS s) {r : Int} (hr : 0 ≤ r ∧ r < 6) (h : 0 < s 1) : okS (renew s r) := by
  unfold renew
  refine okS_one (okS_room hs hr ?_ (can_up (can_up (can_up (can_rm s r) (by omega) _) (by omega) _) (by omega) _)) (by have := hs.box; omega)
  obtain ⟨h0, h1, h2, h3, h5, h6, h7, h8, h9⟩ := hs.rm hr
  refine ⟨?_, ?_, ?_, ?_, ?_, ?_, fun i a b => ?_, fun i a b => ?_, ?_⟩
  · first | (simp only [up_ap, Int.reduceEq, reduceIte]; omega) | (simp [up_ap]; done)
  · exact Or.inl (by rw [up_s])
  · first | (simp only [up_ap, Int.reduceEq, reduceIte]; omega) | (simp [up_ap]; done)
  · simp only [up_ap, Int.reduceEq, reduceIte]; omega
  · simp only [up_ap, Int.reduceEq, reduceIte]; omega
  · simp only [up_ap, Int.reduceEq, reduceIte]; omega
  · rw [up_n (by omega), up_n (by omega), up_n (by omega)]; exact h7 i a b
  · rw [up_n (by omega), up_n (by omega), up_n (by omega)]; exact h8 i a b
  · intro h; rw [up_s] at h; omega
theorem okS_keep {s : Int → Int} (hs : okS s) {r key : Int} (hr : 0 ≤ r ∧ r < 6) (hk : 0 ≤ key ∧ key < 100) (h : rm s r 6 < 4) : okS (keepS s r key) := by
  have hq := hs.rm hr
  have hm := hq.many
  unfold keepS addR
  have h1 : okR (up (up (rm s r) (7 + rm s r 6) key) (11 + rm s r 6) 0) := okR_row hq (fun j a b => by rw [up_n (by omega), up_n (by omega)])
    (fun i a b => by
      rw [up_n (by omega)]
      by_cases e : i = rm s r 6
      · rw [e, up_s]; exact hk
      · rw [up_n (by omega)]; exact hq.keys i a b)
    (fun i a b => by
      by_cases e : i = rm s r 6
      · rw [e, up_s]; omega
      · rw [up_n (by omega), up_n (by omega)]; exact hq.dark i a b)
  exact okS_room hs hr (okR_many h1 (by omega)) (can_up (can_up (can_up (can_rm s r) (by omega) _) (by omega) _) (by omega) _)
theorem okS_door {s : Int → Int} (hs : okS s) {r z : Int} (hr : 0 ≤ r ∧ r < 6) (hz : z = 0 ∨ z = 1) : okS (up s (9 + 15 * r + 5) z) := by
  rw [← srm_up s r (by omega)]
  refine okS_room hs hr ?_ (can_up (can_rm s r) (by omega) _)
  obtain ⟨h0, h1, h2, h3, h5, h6, h7, h8, h9⟩ := hs.rm hr
  refine ⟨?_, ?_, ?_, ?_, ?_, ?_, fun i a b => ?_, fun i a b => ?_, ?_⟩
  · simp only [up_ap, Int.reduceEq, reduceIte]; omega
  · simp only [up_ap, Int.reduceEq, reduceIte]; omega
  · simp only [up_ap, Int.reduceEq, reduceIte]; omega
  · simp only [up_ap, Int.reduceEq, reduceIte]; omega
  · rw [up_s]; exact hz
  · simp only [up_ap, Int.reduceEq, reduceIte]; omega
  · rw [up_n (by omega)]; exact h7 i a b
  · rw [up_n (by omega)]; exact h8 i a b
  · simp only [up_ap, Int.reduceEq, reduceIte]; omega
theorem okS_shield {s : Int → Int} (hs : okS s) {r z : Int} (hr : 0 ≤ r ∧ r < 6) (hz : z = 0 ∨ z = 1) : okS (up s (9 + 15 * r + 3) z) := by
  rw [← srm_up s r (by omega)]
  refine okS_room hs hr ?_ (can_up (can_rm s r) (by omega) _)
  obtain ⟨h0, h1, h2, h3, h5, h6, h7, h8, h9⟩ := hs.rm hr
  refine ⟨?_, ?_, ?_, ?_, ?_, ?_, fun i a b => ?_, fun i a b => ?_, ?_⟩
  · simp only [up_ap, Int.reduceEq, reduceIte]; omega
  · simp only [up_ap, Int.reduceEq, reduceIte]; omega
  · simp only [up_ap, Int.reduceEq, reduceIte]; omega
  · rw [up_s]; exact hz
  · simp only [up_ap, Int.reduceEq, reduceIte]; omega
  · simp only [up_ap, Int.reduceEq, reduceIte]; omega
  · rw [up_n (by omega)]; exact h7 i a b
  · rw [up_n (by omega)]; exact h8 i a b
  · simp only [up_ap, Int.reduceEq, reduceIte]; omega
theorem okS_rd {s : Int → Int} (hs : okS s) (key : Int) : okS (rdS s key) := by
  have hrr := rof_rng s key
  unfold rdS
  split
  · exact hs
  · split
    · exact okS_bts _ _ _ (okS_wick (okS_lo hs (by omega)) (by omega))
    · exact okS_bts _ _ _ (okS_lo (okS_lo hs (by omega)) (by omega))
/-- a deed of the text: whether it is possible, and what it does -/
def dOk (s : Int → Int) (r c v : Int) : Int := if c = 42 then gB (mayS s r) else if c = 60 then gB (mayL s r ((r - 1) % 6)) else if c = 62 then gB (mayL s r ((r + 1) % 6)) else if c = 98 then 1 else if c = 110 then gB (0 < s 1) else gB (mayK s r v)
def dS (s : Int → Int) (r c v : Int) : Int → Int := if c = 42 then (if mayS s r then light1 s r else s) else if c = 60 then (if mayL s r ((r - 1) % 6) then light1 s r else s) else if c = 62 then (if mayL s r ((r + 1) % 6) then light1 s r else s) else if c = 98 then draS s r v else if c = 110 then (if 0 < s 1 then renew s r else s) else (if mayK s r v then keepS s r v else s)
theorem dOk_rng (s : Int → Int) (r c v : Int) : dOk s r c v = 0 ∨ dOk s r c v = 1 := by
  have h1 := gB_rng (mayS s r)
  have h2 := gB_rng (mayL s r ((r - 1) % 6))
  have h3 := gB_rng (mayL s r ((r + 1) % 6))
  have h4 := gB_rng (0 < s 1)
  have h5 := gB_rng (mayK s r v)
  unfold dOk
  (repeat' split) <;> omega
theorem dS_0 {s : Int → Int} {r c v : Int} (h : dOk s r c v = 0) : dS s r c v = s := by
  unfold dOk at h
  unfold dS
  by_cases e1 : c = 42
  · rw [if_pos e1] at h ⊢; rw [if_neg ((gB_0 _).mp h)]
  · rw [if_neg e1] at h ⊢
    by_cases e2 : c = 60
    · rw [if_pos e2] at h ⊢; rw [if_neg ((gB_0 _).mp h)]
    · rw [if_neg e2] at h ⊢
      by_cases e3 : c = 62
      · rw [if_pos e3] at h ⊢; rw [if_neg ((gB_0 _).mp h)]
      · rw [if_neg e3] at h ⊢
        by_cases e4 : c = 98
        · rw [if_pos e4] at h; omega
        · rw [if_neg e4] at h ⊢
          by_cases e5 : c = 110
          · rw [if_pos e5] at h ⊢; rw [if_neg ((gB_0 _).mp h)]
          · rw [if_neg e5] at h ⊢; rw [if_neg ((gB_0 _).mp h)]
/-- what a part says is a deed -/
def vD (r c v : Int) : Prop := (0 ≤ r ∧ r < 6) ∧ (c = 98 → 1 ≤ v ∧ v ≤ 6) ∧ (0 ≤ v ∧ v < 100)
theorem okS_dS {s : Int → Int} (hs : okS s) {r c v : Int} (h : vD r c v) : okS (dS s r c v) := by
  obtain ⟨hr, hb, hv⟩ := h
  unfold dS
  split
  · split
    · rename_i h2; exact okS_light hs hr h2.2
    · exact hs
  · split
    · split
      · rename_i h2; exact okS_light hs hr h2.2.1
      · exact hs
    · split
      · split
        · rename_i h2; exact okS_light hs hr h2.2.1
        · exact hs
      · split
        · rename_i h2; exact okS_dra hs hr (hb h2)
        · split
          · split
            · rename_i h2; exact okS_renew hs hr h2
            · exact hs
          · split
            · rename_i h2; exact okS_keep hs hr hv h2.2
            · exact hs
def plN (len : Int) (tx : Int → Int) : Nat → Int → Int → (Int → Int) → (Int → Int) × Int
  | 0, _, d, s => (s, d)
  | n + 1, p, d, s => if stP len tx p then (if dOk s (dgAt len tx p) (cAt len tx (p + 1)) (nuAt len tx (p + 2)) = 1 then plN len tx n (p + 1) (d + 1) (dS s (dgAt len tx p) (cAt len tx (p + 1)) (nuAt len tx (p + 2))) else (s, d)) else plN len tx n (p + 1) d s
def vT (len : Int) (tx : Int → Int) : Prop := ∀ p, 0 ≤ p → p < len → stP len tx p → vD (dgAt len tx p) (cAt len tx (p + 1)) (nuAt len tx (p + 2))
theorem okS_plN {len : Int} {tx : Int → Int} (hv : vT len tx) : ∀ (n : Nat) (p d : Int) (s : Int → Int), 0 ≤ p → p + n ≤ len → okS s → okS (plN len tx n p d s).1
  | 0, _, _, s, _, _, hs => hs
  | n + 1, p, d, s, hp, hn, hs => by
    unfold plN
    split
    · rename_i h
      split
      · exact okS_plN hv n (p + 1) _ _ (by omega) (by omega) (okS_dS hs (hv p hp (by omega) h))
      · exact hs
    · exact okS_plN hv n (p + 1) d s (by omega) (by omega) hs
theorem okX.s {s : Int → Int} {n : Int} {u : Int → Int → Int} {len : Int} {tx : Int → Int} (h : okX s n u len tx) {s' : Int → Int} (h' : okS s') : okX s' n u len tx := ⟨h', h.2⟩

theorem pshN_rng {n : Int} (hn : 0 ≤ n ∧ n ≤ 6) : 0 ≤ pshN n ∧ pshN n ≤ 6 := by unfold pshN; split <;> omega
theorem okU_push {n k : Int} {u : Int → Int → Int} {s : Int → Int} (hn : 0 ≤ n ∧ n ≤ 6) (hs : okS s) (hu : ∀ i, 0 ≤ i → i < 6 → okS (u i)) : ∀ i, 0 ≤ i → i < 6 → okS (pshU n k u s i) := by
  intro i h1 h2
  unfold pshU
  by_cases e : i = (pshN n - 1 + pshK n k) % 6
  · rw [e, up_s]; exact hs
  · rw [up_n e]; exact hu i h1 h2
