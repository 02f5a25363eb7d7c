/-! what is known behind an act, as the law's conditions ask for it (pure) -/
theorem rof_bur {s : Int → Int} (hs : okS s) (key : Int) : rof s key = -1 ∨ ((0 ≤ rof s key ∧ rof s key < 6) ∧ (rm s (rof s key) 1 = 0 ∨ rm s (rof s key) 1 = 1)) := by
  rcases rof_rng s key with h | ⟨h1, h2, -⟩
  · exact Or.inl h
  · exact Or.inr ⟨⟨h1, h2⟩, (hs.rm ⟨h1, h2⟩).bur⟩
theorem act_same {c key z : Int} {s s' : Int → Int} {n n' : Int} (h : actP c key s n z s' n') : z = -3 → n' = n ∧ s' 2 = s 2 ∧ thg s' = thg s ∧ cb s' = cb s := fun hz => by
  rw [(h.2.1 hz).1, (h.2.1 hz).2]; exact ⟨rfl, rfl, rfl, rfl⟩
theorem act_told {c key z : Int} {s s' : Int → Int} {n n' : Int} (hs : okS s) (h : actP c key s n z s' n') (hc : c = 17 ∨ c = 18) : z = rof s key ∧ ((rof s key = -1 ∧ s' 4 = s 4 ∧ s' 5 = s 5 ∧ s' 2 = s 2) ∨ (0 ≤ rof s key ∧ rm s (rof s key) 1 = 1 ∧ s' 4 = s 4 + 1 ∧ s' 5 = s 5 ∧ s' 2 = s 2 + 1) ∨ (0 ≤ rof s key ∧ rm s (rof s key) 1 = 0 ∧ s' 4 = s 4 + 1 ∧ s' 5 = s 5 + 1 ∧ s' 2 = s 2 + 3)) := by
  obtain ⟨h1, h2, h3, h4⟩ := h.2.2.1 hc
  refine ⟨h1, ?_⟩
  by_cases e : rof s key = -1
  · simp only [if_pos e] at h2 h3 h4
    exact Or.inl ⟨e, by omega, by omega, by omega⟩
  · rcases rof_bur hs key with hr | ⟨hr, hb⟩
    · exact absurd hr e
    · by_cases e2 : rm s (rof s key) 1 = 1
      · simp only [if_neg e, if_pos e2] at h2 h3 h4
        exact Or.inr (Or.inl ⟨hr.1, e2, by omega, by omega, by omega⟩)
      · simp only [if_neg e, if_neg e2] at h2 h3 h4
        exact Or.inr (Or.inr ⟨hr.1, by omega, by omega, by omega, by omega⟩)
theorem aft_thing {s : Int → Int} (hs : okS s) (ha : aft s) (x : Int) : (rof s x = -1 ∧ thn s x 1 = -1 ∧ thn s x 2 = -1) ∨ ((0 ≤ rof s x ∧ rof s x < 6) ∧ (0 ≤ thn s x 1 ∧ thn s x 1 < s 0) ∧ ((thn s x 1 = 0 ∧ rm s (rof s x) 1 = 1) ∨ (thn s x 1 ≠ 0 ∧ rm s (rof s x) 1 = 0))) := by
  by_cases e : rof s x = -1
  · exact Or.inl ⟨e, thn_none e, thn_none e⟩
  · rcases rof_bur hs x with hr | ⟨hr, hb⟩
    · exact absurd hr e
    · obtain ⟨i, hi, e1⟩ := thn_1 hs e
      obtain ⟨a1, a2⟩ := ha.2 _ i hr.1 hr.2 hi.1 hi.2
      have h3 := (hs.rm hr).many
      have h4 := (hs.rm hr).dark i hi.1 (by omega)
      rw [e1]
      refine Or.inr ⟨hr, ⟨h4.1, a1⟩, ?_⟩
      rcases hb with hb | hb
      · exact Or.inr ⟨fun h => by have := a2.mp h; omega, hb⟩
      · exact Or.inl ⟨a2.mpr (by omega), hb⟩
section CALLA
variable {X : gT} {cc : ByteArray} {nL : Nat} {own : String} {R : Room} {ret : Option FieldType} {kc kn : Nat} {Q : State → Prop} {pc : Nat} {L : List (Option Value)} {st : List Value} {ad : Int → Nat} {N : Int} {σ : Int → va_E} {b Ls : Nat} {xz : Int → Int}
theorem r_act (C : gOk X cc nL RL R ret) (hX : gXk X) (hS : gSc X b Ls xz) {x n k len t : Int} {u : Int → Int → Int} {s tx : Int → Int} {kp c0 c key bb : Int} (hLs : Ls ≤ 260) (hx : 0 ≤ x ∧ x + 145 ≤ N) (hT : okT len tx) (hi : okI t s n u) (hkp : 0 ≤ kp ∧ kp ≤ 900) (hb : cellF Ls xz (kp + 2) = bb) (hc0 : cellF Ls xz kp = c0) (hce : low31 c0 % 24 = c) (hke : low31 bb % 24 = key) (hd : decode cc pc = .ok (.invokestatic 101, 3)) (hL : L.length = nL) (hR : 10 ≤ R.frames ∧ 326 ≤ R.locals) (hc : kc + 1 ≤ R.cells ∧ kn + 6 ≤ R.slots)
    (kk : ∀ (z : Int) (s' : Int → Int) (n' k' : Int) (u' : Int → Int → Int), okI (t + 1) s' n' u' → actP c key s n z s' n' → V X (kc + 1) (kn + 6) Q (pc + 3) L [.int (gI z)] ad N (xput ad (gty X) σ x s' n' k' u' len tx)) : V X kc kn Q pc L [.int (gI kp), .ref b, .ref (ad x)] ad N (xput ad (gty X) σ x s n k u len tx) :=
  r_callP (RY := { frames := 9, cells := 1, slots := 6, locals := 300 }) (rest := []) C hX hS cwL_101 (c_L_act (kp := kp) hX.1 hLs hx hT hi hkp rfl hb hc0 hce rfl hke) hd rfl rfl hL (Nat.le_of_ble_eq_true rfl) hR hc (fun rv ad1 N1 σ1 hp => by
    obtain ⟨z, s', n', k', u', rfl, rfl, rfl, rfl, hi', hA⟩ := hp
    exact kk z s' n' k' u' hi' hA)
end CALLA
