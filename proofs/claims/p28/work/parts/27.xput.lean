/-! the whole object at x: 145 cells -/
def xput (ad : Int → Nat) (ty : Nat → ClassId) (σ : Int → va_E) (x : Int) (s : Int → Int) (n k : Int) (u : Int → Int → Int) (len : Int) (tx : Int → Int) : Int → va_E := fun q =>
  if q = x then .inr (4, [.ref (ad (x + 1)), .ref (ad (x + 21)), .ref (ad (x + 143))]) else
  if x + 1 ≤ q ∧ q < x + 21 then sput ad ty σ (x + 1) s q else
  if x + 21 ≤ q ∧ q < x + 143 then vputF ad ty σ (x + 21) n (vrow ad (x + 21) k) u q else
  if x + 143 ≤ q ∧ q < x + 145 then dput ad ty σ (x + 143) len tx q else σ q
section XPUT
variable {ad : Int → Nat} {ty : Nat → ClassId} {σ : Int → va_E} {x n k len : Int} {u : Int → Int → Int} {s tx : Int → Int}
theorem vputF_in {σ' : Int → va_E} {v q : Int} {f : Nat → Option Nat} (h : v ≤ q ∧ q < v + 122) : vputF ad ty σ v n f u q = vputF ad ty σ' v n f u q := by
  unfold vputF
  split
  · rfl
  · split
    · rfl
    · rw [if_pos (by omega), if_pos (by omega)]; exact sput_in (by omega)
theorem dput_in {σ' : Int → va_E} {c q : Int} (h : c ≤ q ∧ q < c + 2) : dput ad ty σ c len tx q = dput ad ty σ' c len tx q := by
  unfold dput
  split
  · rfl
  · rw [if_pos (by omega), if_pos (by omega)]
theorem xput_0 : xput ad ty σ x s n k u len tx x = .inr (4, [.ref (ad (x + 1)), .ref (ad (x + 21)), .ref (ad (x + 143))]) := if_pos rfl
theorem xput_x {q : Int} (h : q < x ∨ x + 145 ≤ q) : xput ad ty σ x s n k u len tx q = σ q := by
  unfold xput; rw [if_neg (by omega), if_neg (by omega), if_neg (by omega), if_neg (by omega)]
theorem xput_s (s' : Int → Int) : sput ad ty (xput ad ty σ x s n k u len tx) (x + 1) s' = xput ad ty σ x s' n k u len tx := by
  funext q
  by_cases h : x + 1 ≤ q ∧ q < x + 21
  · rw [sput_in (σ' := σ) (by omega)]; unfold xput; rw [if_neg (by omega), if_pos h]
  · rw [sput_x (by omega)]; unfold xput; rw [if_neg h, if_neg h]
theorem xput_v (n' k' : Int) (u' : Int → Int → Int) : vputF ad ty (xput ad ty σ x s n k u len tx) (x + 21) n' (vrow ad (x + 21) k') u' = xput ad ty σ x s n' k' u' len tx := by
  funext q
  by_cases h : x + 21 ≤ q ∧ q < x + 143
  · rw [vputF_in (σ' := σ) (by omega)]; unfold xput; rw [if_neg (by omega), if_neg (by omega), if_pos h]
  · rw [vputF_x (by omega)]; unfold xput; rw [if_neg h, if_neg h]
theorem xput_d (len' : Int) (tx' : Int → Int) : dput ad ty (xput ad ty σ x s n k u len tx) (x + 143) len' tx' = xput ad ty σ x s n k u len' tx' := by
  funext q
  by_cases h : x + 143 ≤ q ∧ q < x + 145
  · rw [dput_in (σ' := σ) (by omega)]; unfold xput; rw [if_neg (by omega), if_neg (by omega), if_neg (by omega), if_pos h]
  · rw [dput_x (by omega)]; unfold xput; rw [if_neg h, if_neg h]
theorem xput_st : xput ad ty σ x s n k u len tx (x + 1) = .inr (3, sF ad (x + 1) s) := by
  rw [← xput_s (s := s) s]; exact sput_0
theorem xput_sv : xput ad ty σ x s n k u len tx (x + 21) = .inr (2, [.ref (ad (x + 21 + 1)), .int (gI n)]) := by
  rw [← xput_v (n := n) (k := k) (u := u) n k u]; exact vputF_0
theorem xput_tx : xput ad ty σ x s n k u len tx (x + 143) = .inr (0, [.ref (ad (x + 143 + 1)), .int (gI len)]) := by
  rw [← xput_d (len := len) (tx := tx) len tx]; exact dput_0
theorem xput_rm {r : Int} (hr : 0 ≤ r ∧ r < 6) : xput ad ty σ x s n k u len tx (x + 1 + 2 + 3 * r) = .inr (1, rF ad (x + 1 + 2 + 3 * r) (rm s r)) := by
  rw [← xput_s (s := s) s]; exact sput_r hr
theorem up_xput {q : Int} {e : va_E} (h : q < x ∨ x + 145 ≤ q) : up (xput ad ty σ x s n k u len tx) q e = xput ad ty (up σ q e) x s n k u len tx := by
  funext j
  by_cases hj : j = q
  · subst hj; rw [up_s, xput_x (by omega), up_s]
  · rw [up_n hj]
    unfold xput
    split
    · rfl
    · split
      · exact sput_in (by omega)
      · split
        · exact vputF_in (by omega)
        · split
          · exact dput_in (by omega)
          · rw [up_n hj]
variable {l : Launch} {y : MethodName} {cc : ByteArray} {nL : Nat} {ret : Option FieldType} {f0 lo : Nat} {av : List Value} {D : va_G} {N : Int} {rv : Option Value}
theorem liftXs {s' : Int → Int} (h : gM0 l y cc nL ret f0 lo av D ty ad N (sput ad ty (xput ad ty σ x s n k u len tx) (x + 1) s) rv (sput ad ty (xput ad ty σ x s n k u len tx) (x + 1) s')) : gM0 l y cc nL ret f0 lo av D ty ad N (xput ad ty σ x s n k u len tx) rv (xput ad ty σ x s' n k u len tx) := by
  rw [xput_s, xput_s] at h; exact h
theorem liftXv {n' k' : Int} {u' : Int → Int → Int} (h : gM0 l y cc nL ret f0 lo av D ty ad N (vputF ad ty (xput ad ty σ x s n k u len tx) (x + 21) n (vrow ad (x + 21) k) u) rv (vputF ad ty (xput ad ty σ x s n k u len tx) (x + 21) n' (vrow ad (x + 21) k') u')) : gM0 l y cc nL ret f0 lo av D ty ad N (xput ad ty σ x s n k u len tx) rv (xput ad ty σ x s n' k' u' len tx) := by
  rw [xput_v, xput_v] at h; exact h
theorem liftXp {n' : Int} {s' : Int → Int} (h : gM0 l y cc nL ret f0 lo av D ty ad N (sput ad ty (vputF ad ty (xput ad ty σ x s n k u len tx) (x + 21) n (vrow ad (x + 21) k) u) (x + 1) s) rv (sput ad ty (vputF ad ty (xput ad ty σ x s n k u len tx) (x + 21) n' (vrow ad (x + 21) k) u) (x + 1) s')) : gM0 l y cc nL ret f0 lo av D ty ad N (xput ad ty σ x s n k u len tx) rv (xput ad ty σ x s' n' k u len tx) := by
  rw [xput_v, xput_s, xput_v, xput_s] at h; exact h
theorem liftXd {len' : Int} {tx' : Int → Int} (h : gM0 l y cc nL ret f0 lo av D ty ad N (dput ad ty (xput ad ty σ x s n k u len tx) (x + 143) len tx) rv (dput ad ty (xput ad ty σ x s n k u len tx) (x + 143) len' tx')) : gM0 l y cc nL ret f0 lo av D ty ad N (xput ad ty σ x s n k u len tx) rv (xput ad ty σ x s n k u len' tx') := by
  rw [xput_d, xput_d] at h; exact h
theorem V_xs {X : gT} {kc kn : Nat} {Q : State → Prop} {pc : Nat} {L : List (Option Value)} {st : List Value} (kk : V X kc kn Q pc L st ad N (sput ad ty (xput ad ty σ x s n k u len tx) (x + 1) s)) : V X kc kn Q pc L st ad N (xput ad ty σ x s n k u len tx) := by
  rw [xput_s] at kk; exact kk
theorem V_xr {X : gT} {kc kn : Nat} {Q : State → Prop} {pc : Nat} {L : List (Option Value)} {st : List Value} {s' : Int → Int} (kk : V X kc kn Q pc L st ad N (xput ad ty σ x s' n k u len tx)) : V X kc kn Q pc L st ad N (sput ad ty (xput ad ty σ x s n k u len tx) (x + 1) s') := by
  rw [xput_s]; exact kk
end XPUT
/-- what holds of the whole object -/
def okX (s : Int → Int) (n : Int) (u : Int → Int → Int) (len : Int) (tx : Int → Int) : Prop := okS s ∧ (0 ≤ n ∧ n ≤ 6) ∧ (∀ i, 0 ≤ i → i < 6 → okS (u i)) ∧ okT len tx
