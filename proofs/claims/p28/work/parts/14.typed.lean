/-! the worlds of the two systems: a room, a store, an array of the reference -/
def rF (ad : Int → Nat) (k : Int) (ρ : Int → Int) : List Value := [.ref (ad (k + 1)), .ref (ad (k + 2)), .int (gI (ρ 6)), .int (gI (ρ 0)), .int (gI (ρ 1)), .int (gI (ρ 2)), .int (gI (ρ 3)), .int (gI (ρ 5)), .int (gI (ρ 4))]
/-- a room at k, its keys at k + 1, its things' beats at k + 2 -/
def rput (ad : Int → Nat) (ty : Nat → ClassId) (σ : Int → va_E) (k : Int) (ρ : Int → Int) : Int → va_E := fun q =>
  if q = k then .inr (1, rF ad k ρ) else if q = k + 1 then gAr (ty 0) 4 (fun i => ρ (7 + i)) else if q = k + 2 then gAr (ty 0) 4 (fun i => ρ (11 + i)) else σ q
/-- which of a room's numbers a field is -/
def rj : Nat → Int
  | 2 => 6
  | 3 => 0
  | 4 => 1
  | 5 => 2
  | 6 => 3
  | 7 => 5
  | _ => 4
section TYPED
variable {ad : Int → Nat} {ty : Nat → ClassId} {σ : Int → va_E} {k b : Int} {ρ s : Int → Int}
theorem rput_0 : rput ad ty σ k ρ k = .inr (1, rF ad k ρ) := if_pos rfl
theorem rput_1 : rput ad ty σ k ρ (k + 1) = gAr (ty 0) 4 (fun i => ρ (7 + i)) := by
  unfold rput; rw [if_neg (by omega), if_pos rfl]
theorem rput_2 : rput ad ty σ k ρ (k + 2) = gAr (ty 0) 4 (fun i => ρ (11 + i)) := by
  unfold rput; rw [if_neg (by omega), if_neg (by omega), if_pos rfl]
theorem rput_x {q : Int} (h : q < k ∨ k + 2 < q) : rput ad ty σ k ρ q = σ q := by
  unfold rput; rw [if_neg (by omega), if_neg (by omega), if_neg (by omega)]
/-- two rooms that hold the same -/
theorem rput_ext {ρ' : Int → Int} (h : ∀ j : Int, 0 ≤ j → j < 15 → ρ j = ρ' j) : rput ad ty σ k ρ = rput ad ty σ k ρ' := by
  funext q
  unfold rput
  split
  · unfold rF; rw [h 6 (by omega) (by omega), h 0 (by omega) (by omega), h 1 (by omega) (by omega), h 2 (by omega) (by omega), h 3 (by omega) (by omega), h 5 (by omega) (by omega), h 4 (by omega) (by omega)]
  · split
    · exact gAr_ext fun j h1 h2 => h _ (by omega) (by omega)
    · split
      · exact gAr_ext fun j h1 h2 => h _ (by omega) (by omega)
      · rfl
theorem rput_up (f : Nat) (hf : 2 ≤ f ∧ f < 9) (z : Int) : up (rput ad ty σ k ρ) k (.inr (1, (rF ad k ρ).set f (.int (gI z)))) = rput ad ty σ k (up ρ (rj f) z) := by
  have hj : rj f < 7 := by
    obtain ⟨h1, h2⟩ := hf
    rcases (show f = 2 ∨ f = 3 ∨ f = 4 ∨ f = 5 ∨ f = 6 ∨ f = 7 ∨ f = 8 by omega) with rfl | rfl | rfl | rfl | rfl | rfl | rfl <;> decide
  funext q
  by_cases h0 : q = k
  · subst h0
    rw [up_s, rput_0]
    obtain ⟨h1, h2⟩ := hf
    rcases (show f = 2 ∨ f = 3 ∨ f = 4 ∨ f = 5 ∨ f = 6 ∨ f = 7 ∨ f = 8 by omega) with rfl | rfl | rfl | rfl | rfl | rfl | rfl <;> simp [rF, rj, up]
  · rw [up_n h0]
    unfold rput
    rw [if_neg h0, if_neg h0]
    split
    · exact gAr_ext fun j h1 h2 => (up_n (by omega)).symm
    · split
      · exact gAr_ext fun j h1 h2 => (up_n (by omega)).symm
      · rfl
theorem rput_u1 {i : Int} (hi : 0 ≤ i ∧ i < 4) (z : Int) : up (rput ad ty σ k ρ) (k + 1) (gAr (ty 0) 4 (up (fun i => ρ (7 + i)) i z)) = rput ad ty σ k (up ρ (7 + i) z) := by
  funext q
  by_cases h1 : q = k + 1
  · subst h1
    rw [up_s, rput_1]
    refine gAr_ext fun j h1 h2 => ?_
    unfold up
    by_cases h : j = i
    · rw [if_pos h, if_pos (by omega)]
    · rw [if_neg h, if_neg (by omega)]
  · rw [up_n h1]
    unfold rput
    rw [if_neg h1, if_neg h1]
    split
    · unfold rF
      repeat rw [up_n (by omega)]
    · split
      · exact gAr_ext fun j h1 h2 => (up_n (by omega)).symm
      · rfl
theorem rput_u2 {i : Int} (hi : 0 ≤ i ∧ i < 4) (z : Int) : up (rput ad ty σ k ρ) (k + 2) (gAr (ty 0) 4 (up (fun i => ρ (11 + i)) i z)) = rput ad ty σ k (up ρ (11 + i) z) := by
  funext q
  by_cases h1 : q = k + 2
  · subst h1
    rw [up_s, rput_2]
    refine gAr_ext fun j h1 h2 => ?_
    unfold up
    by_cases h : j = i
    · rw [if_pos h, if_pos (by omega)]
    · rw [if_neg h, if_neg (by omega)]
  · rw [up_n h1]
    unfold rput
    rw [if_neg h1, if_neg h1]
    split
    · unfold rF
      repeat rw [up_n (by omega)]
    · split
      · exact gAr_ext fun j h1 h2 => (up_n (by omega)).symm
      · rfl
theorem rput_rput {ρ' : Int → Int} : rput ad ty (rput ad ty σ k ρ) k ρ' = rput ad ty σ k ρ' := by
  funext q
  unfold rput
  split
  · rfl
  · split
    · rfl
    · split <;> rfl
end TYPED
section TYPEDROWS
variable {X : gT} {cc : ByteArray} {nL : Nat} {own : String} {R : Room} {ret : Option FieldType} {kc kn : Nat} {Q : State → Prop} {pc : Nat} {L : List (Option Value)} {st : List Value} {ad : Int → Nat} {N : Int} {σ : Int → va_E} {k i z : Int} {ρ s : Int → Int} {idx f : Nat}
theorem rr_get (C : gOk X cc nL own R ret) (fl : gFL own idx 1 f RX1 TX1 9 tyX1) (hd : decode cc pc = .ok (.getfield idx, 3)) (hk : 0 ≤ k ∧ k + 3 ≤ N) {v : Value} (hv : (rF ad k ρ)[f]? = some v)
    (kk : V X kc kn Q (pc + 3) L (v :: st) ad N (rput ad (gty X) σ k ρ)) : V X kc kn Q pc L (.ref (ad k) :: st) ad N (rput ad (gty X) σ k ρ) := r_get C fl hd (by omega) rput_0 hv kk
theorem rr_put (C : gOk X cc nL own R ret) (fl : gFL own idx 1 f RX1 TX1 9 tyX1) (hd : decode cc pc = .ok (.putfield idx, 3)) {j : Int} (hk : 0 ≤ k ∧ k + 3 ≤ N) (hf : 2 ≤ f ∧ f < 9) (hj : rj f = j) (hfin : (TX1 f).2.2.2 = false) (hn : narrow (tyX1 f) (.int (gI z)) = .int (gI z)) (hfit : fits (tyX1 f) (.int (gI z)) = true)
    (kk : V X kc kn Q (pc + 3) L st ad N (rput ad (gty X) σ k (up ρ j z))) : V X kc kn Q pc L (.int (gI z) :: .ref (ad k) :: st) ad N (rput ad (gty X) σ k ρ) := r_put C fl hd (by omega) rput_0 hfin hn hfit hf.2 (by rw [rput_up f hf, hj]; exact kk)
theorem rr_kld (C : gOk X cc nL own R ret) (hd : decode cc pc = .ok (.iaload, 1)) (hk : 0 ≤ k ∧ k + 3 ≤ N) (hi : 0 ≤ i ∧ i < 4)
    (kk : V X kc kn Q (pc + 1) L (.int (gI (ρ (7 + i))) :: st) ad N (rput ad (gty X) σ k ρ)) : V X kc kn Q pc L (.int (gI i) :: .ref (ad (k + 1)) :: st) ad N (rput ad (gty X) σ k ρ) := r_iald C hd (by omega) rput_1 hi (by omega) kk
theorem rr_dld (C : gOk X cc nL own R ret) (hd : decode cc pc = .ok (.iaload, 1)) (hk : 0 ≤ k ∧ k + 3 ≤ N) (hi : 0 ≤ i ∧ i < 4)
    (kk : V X kc kn Q (pc + 1) L (.int (gI (ρ (11 + i))) :: st) ad N (rput ad (gty X) σ k ρ)) : V X kc kn Q pc L (.int (gI i) :: .ref (ad (k + 2)) :: st) ad N (rput ad (gty X) σ k ρ) := r_iald C hd (by omega) rput_2 hi (by omega) kk
theorem rr_kst (C : gOk X cc nL own R ret) (hd : decode cc pc = .ok (.iastore, 1)) (hk : 0 ≤ k ∧ k + 3 ≤ N) (hi : 0 ≤ i ∧ i < 4)
    (kk : V X kc kn Q (pc + 1) L st ad N (rput ad (gty X) σ k (up ρ (7 + i) z))) : V X kc kn Q pc L (.int (gI z) :: .int (gI i) :: .ref (ad (k + 1)) :: st) ad N (rput ad (gty X) σ k ρ) := r_iast C hd (by omega) rput_1 hi (by omega) (by rw [rput_u1 hi]; exact kk)
theorem rr_dst (C : gOk X cc nL own R ret) (hd : decode cc pc = .ok (.iastore, 1)) (hk : 0 ≤ k ∧ k + 3 ≤ N) (hi : 0 ≤ i ∧ i < 4)
    (kk : V X kc kn Q (pc + 1) L st ad N (rput ad (gty X) σ k (up ρ (11 + i) z))) : V X kc kn Q pc L (.int (gI z) :: .int (gI i) :: .ref (ad (k + 2)) :: st) ad N (rput ad (gty X) σ k ρ) := r_iast C hd (by omega) rput_2 hi (by omega) (by rw [rput_u2 hi]; exact kk)
theorem up_ap {α : Type} (f : Int → α) (k : Int) (v : α) (j : Int) : up f k v j = if j = k then v else f j := rfl
theorem gI_z {z : Int} (h : z = 0 ∨ z = 1) : narrow .boolean (.int (gI z)) = .int (gI z) := by rcases h with h | h <;> subst h <;> rfl
theorem gI_f {z : Int} (h : z = 0 ∨ z = 1) : fits .boolean (.int (gI z)) = true := by rcases h with h | h <;> subst h <;> rfl
/-- the ends of contracts with one answer -/
theorem r_iretD {z0 : Int} {σ' : Int → va_E} (C : gOk X cc nL own R (some .int)) (hd : decode cc pc = .ok (.ireturn, 1)) (e : z = z0) (es : σ = σ') : V X 0 0 (gQ X (gD (some (.int (gI z0))) ad N σ') 0 0) pc L [.int (gI z)] ad N σ := r_iret C hd ⟨by rw [e], rfl, rfl, es⟩ (Nat.le_refl _) (Nat.le_refl _)
theorem r_zretD {z0 : Int} {σ' : Int → va_E} (C : gOk X cc nL own R (some .boolean)) (hd : decode cc pc = .ok (.ireturn, 1)) (hz : z = 0 ∨ z = 1) (e : z = z0) (es : σ = σ') : V X 0 0 (gQ X (gD (some (.int (gI z0))) ad N σ') 0 0) pc L [.int (gI z)] ad N σ := r_zret C hd hz ⟨by rw [e], rfl, rfl, es⟩ (Nat.le_refl _) (Nat.le_refl _)
theorem r_vretD {σ' : Int → va_E} (C : gOk X cc nL own R none) (hd : decode cc pc = .ok (.return_, 1)) (es : σ = σ') : V X 0 0 (gQ X (gD none ad N σ') 0 0) pc L [] ad N σ := r_vret C hd ⟨rfl, rfl, rfl, es⟩ (Nat.le_refl _) (Nat.le_refl _)
theorem r_lretD {x x0 : Int64} {σ' : Int → va_E} (C : gOk X cc nL own R (some .long)) (hd : decode cc pc = .ok (.lreturn, 1)) (e : x = x0) (es : σ = σ') : V X 0 0 (gQ X (gD (some (.long x0)) ad N σ') 0 0) pc L [.long x] ad N σ := r_lret C hd ⟨by rw [e], rfl, rfl, es⟩ (Nat.le_refl _) (Nat.le_refl _)
theorem r_dretD {x x0 : UInt64} {σ' : Int → va_E} (C : gOk X cc nL own R (some .double)) (hd : decode cc pc = .ok (.dreturn, 1)) (e : x = x0) (es : σ = σ') : V X 0 0 (gQ X (gD (some (.double x0)) ad N σ') 0 0) pc L [.double x] ad N σ := r_dret C hd ⟨by rw [e], rfl, rfl, es⟩ (Nat.le_refl _) (Nat.le_refl _)
theorem r_aretD {x x0 : Nat} {rc : String} {σ' : Int → va_E} (C : gOk X cc nL own R (some (.object rc))) (hd : decode cc pc = .ok (.areturn, 1)) (e : x = x0) (es : σ = σ') : V X 0 0 (gQ X (gD (some (.ref x0)) ad N σ') 0 0) pc L [.ref x] ad N σ := r_aret C hd ⟨by rw [e], rfl, rfl, es⟩ (Nat.le_refl _) (Nat.le_refl _)
end TYPEDROWS
