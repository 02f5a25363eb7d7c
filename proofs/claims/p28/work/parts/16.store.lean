/-! a store: 20 cells from b on: the object, its row of rooms, six rooms; its numbers as the reference has them, s : 0 .. 98 -/
/-- the 15 numbers of a room -/
def rm (s : Int → Int) (r : Int) : Int → Int := fun j => if 0 ≤ j ∧ j < 15 then s (9 + 15 * r + j) else 0
theorem rm_ap (s : Int → Int) (r j : Int) : rm s r j = if 0 ≤ j ∧ j < 15 then s (9 + 15 * r + j) else 0 := rfl
theorem rm_at (s : Int → Int) (r : Int) {j : Int} (h : 0 ≤ j ∧ j < 15) : rm s r j = s (9 + 15 * r + j) := if_pos h
/-- a room's numbers put back -/
def srm (s : Int → Int) (r : Int) (ρ : Int → Int) : Int → Int := fun j => if 9 + 15 * r ≤ j ∧ j < 24 + 15 * r then ρ (j - (9 + 15 * r)) else s j
def can (ρ : Int → Int) : Prop := ∀ j : Int, j < 0 ∨ 15 ≤ j → ρ j = 0
theorem can_rm (s : Int → Int) (r : Int) : can (rm s r) := fun j h => if_neg (by omega)
theorem can_up {ρ : Int → Int} (h : can ρ) {i : Int} (hi : 0 ≤ i ∧ i < 15) (z : Int) : can (up ρ i z) := fun j hj => by rw [up_n (by omega)]; exact h j hj
theorem srm_rm (s : Int → Int) (r : Int) : srm s r (rm s r) = s := by
  funext j
  unfold srm
  split
  · rw [rm_at _ _ (by omega)]; congr 1; omega
  · rfl
theorem rm_srm {s ρ : Int → Int} {r : Int} (h : can ρ) : rm (srm s r ρ) r = ρ := by
  funext j
  by_cases hj : 0 ≤ j ∧ j < 15
  · rw [rm_at _ _ hj]; unfold srm; rw [if_pos (by omega)]; congr 1; omega
  · rw [h j (by omega)]; exact if_neg hj
theorem rm_srm_ne {s ρ : Int → Int} {r q : Int} (h : q ≠ r) : rm (srm s r ρ) q = rm s q := by
  funext j
  unfold rm
  split
  · unfold srm; rw [if_neg (by omega)]
  · rfl
theorem srm_srm {s ρ ρ' : Int → Int} {r : Int} : srm (srm s r ρ) r ρ' = srm s r ρ' := by
  funext j; unfold srm; split <;> rfl
theorem srm_up (s : Int → Int) (r : Int) {j : Int} (h : 0 ≤ j ∧ j < 15) (z : Int) : srm s r (up (rm s r) j z) = up s (9 + 15 * r + j) z := by
  funext i
  unfold srm
  split
  · by_cases e : i = 9 + 15 * r + j
    · rw [e, up_s, show 9 + 15 * r + j - (9 + 15 * r) = j by omega, up_s]
    · rw [up_n (by omega), up_n e, rm_at _ _ (by omega)]; congr 1; omega
  · rw [up_n (by omega)]
theorem srm_lo {s ρ : Int → Int} {r j : Int} (h : j < 9 + 15 * r) : srm s r ρ j = s j := if_neg (by omega)
theorem rm_up_lo {s : Int → Int} {r j z : Int} (h : j < 9 + 15 * r) : rm (up s j z) r = rm s r := by
  funext i; unfold rm; split
  · rw [up_n (by omega)]
  · rfl
theorem rm_up {s : Int → Int} {r j z : Int} (h : 0 ≤ j ∧ j < 15) : rm (up s (9 + 15 * r + j) z) r = up (rm s r) j z := by
  rw [← srm_up s r h, rm_srm (can_up (can_rm s r) h z)]
theorem rm_up_ne {s : Int → Int} {r q j z : Int} (h : 0 ≤ j ∧ j < 15) (hq : q ≠ r) : rm (up s (9 + 15 * r + j) z) q = rm s q := by
  rw [← srm_up s r h, rm_srm_ne hq]
def sF (ad : Int → Nat) (b : Int) (s : Int → Int) : List Value := [.ref (ad (b + 1)), .int (gI (s 2)), .int (gI (s 1)), .int (gI (s 3)), .int (gI (s 4)), .int (gI (s 5)), .int (gI (s 6)), .int (gI (s 7)), .int (gI (s 8)), .int (gI (s 0))]
def sj : Nat → Int
  | 1 => 2
  | 2 => 1
  | 3 => 3
  | 4 => 4
  | 5 => 5
  | 6 => 6
  | 7 => 7
  | 8 => 8
  | _ => 0
/-- the row of rooms -/
def rmA (ad : Int → Nat) (b : Int) : Nat → Option Nat := fun j => if j < 6 then some (ad (b + 2 + 3 * (j : Int))) else none
def rcell (ad : Int → Nat) (ty : Nat → ClassId) (k : Int) (ρ : Int → Int) (m : Int) : va_E :=
  if m = 0 then .inr (1, rF ad k ρ) else if m = 1 then gAr (ty 0) 4 (fun i => ρ (7 + i)) else gAr (ty 0) 4 (fun i => ρ (11 + i))
def sput (ad : Int → Nat) (ty : Nat → ClassId) (σ : Int → va_E) (b : Int) (s : Int → Int) : Int → va_E := fun q =>
  if q = b then .inr (3, sF ad b s) else if q = b + 1 then gRA (ty 3) 6 (rmA ad b) else
  if b + 2 ≤ q ∧ q < b + 20 then rcell ad ty (b + 2 + 3 * ((q - b - 2) / 3)) (rm s ((q - b - 2) / 3)) ((q - b - 2) % 3) else σ q
section STORE
variable {ad : Int → Nat} {ty : Nat → ClassId} {σ : Int → va_E} {b r : Int} {s ρ : Int → Int}
theorem sput_0 : sput ad ty σ b s b = .inr (3, sF ad b s) := if_pos rfl
theorem sput_1 : sput ad ty σ b s (b + 1) = gRA (ty 3) 6 (rmA ad b) := by
  unfold sput; rw [if_neg (by omega), if_pos rfl]
theorem sput_x {q : Int} (h : q < b ∨ b + 20 ≤ q) : sput ad ty σ b s q = σ q := by
  unfold sput; rw [if_neg (by omega), if_neg (by omega), if_neg (by omega)]
theorem sput_c {q r m : Int} (hr : 0 ≤ r ∧ r < 6) (hm : 0 ≤ m ∧ m < 3) (hq : q = b + 2 + 3 * r + m) : sput ad ty σ b s q = rcell ad ty (b + 2 + 3 * r) (rm s r) m := by
  unfold sput
  rw [if_neg (by omega), if_neg (by omega), if_pos (by omega), show (q - b - 2) / 3 = r by omega, show (q - b - 2) % 3 = m by omega]
theorem sput_r (hr : 0 ≤ r ∧ r < 6) : sput ad ty σ b s (b + 2 + 3 * r) = .inr (1, rF ad (b + 2 + 3 * r) (rm s r)) := by
  rw [sput_c hr (m := 0) (by omega) (by omega)]; exact if_pos rfl
theorem rcell_ext {k m : Int} {ρ ρ' : Int → Int} (h : ∀ j : Int, 0 ≤ j → j < 15 → ρ j = ρ' j) : rcell ad ty k ρ m = rcell ad ty k ρ' m := by
  unfold rcell
  split
  · unfold rF; rw [h 6 (by omega) (by omega), h 0 (by omega) (by omega), h 1 (by omega) (by omega), h 2 (by omega) (by omega), h 3 (by omega) (by omega), h 5 (by omega) (by omega), h 4 (by omega) (by omega)]
  · split
    · exact gAr_ext fun j h1 h2 => h _ (by omega) (by omega)
    · exact gAr_ext fun j h1 h2 => h _ (by omega) (by omega)
/-- two stores that hold the same -/
theorem sput_ext {s' : Int → Int} (h : ∀ j : Int, 0 ≤ j → j < 99 → s j = s' j) : sput ad ty σ b s = sput ad ty σ b s' := by
  funext q
  unfold sput
  split
  · unfold sF; rw [h 2 (by omega) (by omega), h 1 (by omega) (by omega), h 3 (by omega) (by omega), h 4 (by omega) (by omega), h 5 (by omega) (by omega), h 6 (by omega) (by omega), h 7 (by omega) (by omega), h 8 (by omega) (by omega), h 0 (by omega) (by omega)]
  · split
    · rfl
    · split
      · refine rcell_ext fun j h1 h2 => ?_
        rw [rm_at _ _ ⟨h1, h2⟩, rm_at _ _ ⟨h1, h2⟩]
        exact h _ (by omega) (by omega)
      · rfl
theorem sput_re (hr : 0 ≤ r ∧ r < 6) : rput ad ty (sput ad ty σ b s) (b + 2 + 3 * r) ρ = sput ad ty σ b (srm s r ρ) := by
  have hx : ∀ j : Int, 0 ≤ j → j < 15 → ρ j = rm (srm s r ρ) r j := fun j h1 h2 => by
    rw [rm_at _ _ ⟨h1, h2⟩]; unfold srm; rw [if_pos (by omega)]; congr 1; omega
  funext q
  by_cases h : b + 2 + 3 * r ≤ q ∧ q < b + 2 + 3 * r + 3
  · rw [sput_c hr (q := q) (m := q - (b + 2 + 3 * r)) (by omega) (by omega), ← rcell_ext (ρ := ρ) hx]
    unfold rput rcell
    by_cases h0 : q = b + 2 + 3 * r
    · rw [if_pos h0, if_pos (show q - (b + 2 + 3 * r) = 0 by omega)]
    · by_cases h1 : q = b + 2 + 3 * r + 1
      · rw [if_neg h0, if_pos h1, if_neg (show ¬ q - (b + 2 + 3 * r) = 0 by omega), if_pos (show q - (b + 2 + 3 * r) = 1 by omega)]
      · rw [if_neg h0, if_neg h1, if_pos (show q = b + 2 + 3 * r + 2 by omega), if_neg (show ¬ q - (b + 2 + 3 * r) = 0 by omega), if_neg (show ¬ q - (b + 2 + 3 * r) = 1 by omega)]
  · rw [rput_x (by omega)]
    unfold sput
    split
    · unfold sF; repeat rw [srm_lo (by omega)]
    · split
      · rfl
      · split
        · refine rcell_ext fun j h1 h2 => ?_
          rw [rm_srm_ne (by omega)]
        · rfl
theorem sput_eq (hr : 0 ≤ r ∧ r < 6) : rput ad ty (sput ad ty σ b s) (b + 2 + 3 * r) (rm s r) = sput ad ty σ b s := by
  rw [sput_re hr, srm_rm]
theorem sput_up (f : Nat) (hf : 1 ≤ f ∧ f < 10) (z : Int) : up (sput ad ty σ b s) b (.inr (3, (sF ad b s).set f (.int (gI z)))) = sput ad ty σ b (up s (sj f) z) := by
  have hj : sj f < 9 := by
    rcases (show f = 1 ∨ f = 2 ∨ f = 3 ∨ f = 4 ∨ f = 5 ∨ f = 6 ∨ f = 7 ∨ f = 8 ∨ f = 9 by omega) with rfl | rfl | rfl | rfl | rfl | rfl | rfl | rfl | rfl <;> decide
  funext q
  by_cases h0 : q = b
  · subst h0
    rw [up_s, sput_0]
    rcases (show f = 1 ∨ f = 2 ∨ f = 3 ∨ f = 4 ∨ f = 5 ∨ f = 6 ∨ f = 7 ∨ f = 8 ∨ f = 9 by omega) with rfl | rfl | rfl | rfl | rfl | rfl | rfl | rfl | rfl <;> simp [sF, sj, up]
  · rw [up_n h0]
    unfold sput
    rw [if_neg h0, if_neg h0]
    split
    · rfl
    · split
      · rw [rm_up_lo (by omega)]
      · rfl
theorem sput_sput {s' : Int → Int} : sput ad ty (sput ad ty σ b s) b s' = sput ad ty σ b s' := by
  funext q
  unfold sput
  split
  · rfl
  · split
    · rfl
    · split <;> rfl
theorem lift {l : Launch} {y : MethodName} {cc : ByteArray} {nL : Nat} {ret : Option FieldType} {f lo : Nat} {av : List Value} {D : va_G} {N : Int} {rv : Option Value} (hr : 0 ≤ r ∧ r < 6) (h : gM0 l y cc nL ret f lo av D ty ad N (rput ad ty (sput ad ty σ b s) (b + 2 + 3 * r) (rm s r)) rv (rput ad ty (sput ad ty σ b s) (b + 2 + 3 * r) ρ)) : gM0 l y cc nL ret f lo av D ty ad N (sput ad ty σ b s) rv (sput ad ty σ b (srm s r ρ)) := by
  rw [sput_eq hr, sput_re hr] at h
  exact h
theorem lift0 {l : Launch} {y : MethodName} {cc : ByteArray} {nL : Nat} {ret : Option FieldType} {f lo : Nat} {av : List Value} {D : va_G} {N : Int} {rv : Option Value} (hr : 0 ≤ r ∧ r < 6) (h : gM0 l y cc nL ret f lo av D ty ad N (rput ad ty (sput ad ty σ b s) (b + 2 + 3 * r) (rm s r)) rv (rput ad ty (sput ad ty σ b s) (b + 2 + 3 * r) (rm s r))) : gM0 l y cc nL ret f lo av D ty ad N (sput ad ty σ b s) rv (sput ad ty σ b s) := by
  rw [sput_eq hr] at h
  exact h
end STORE
section STOREROWS
variable {X : gT} {cc : ByteArray} {nL : Nat} {own : String} {R : Room} {ret : Option FieldType} {kc kn : Nat} {Q : State → Prop} {pc : Nat} {L : List (Option Value)} {st : List Value} {ad : Int → Nat} {N : Int} {σ : Int → va_E} {b r i z j : Int} {ρ s : Int → Int} {idx f : Nat}
theorem ss_get (C : gOk X cc nL own R ret) (fl : gFL own idx 3 f RX3 TX3 10 tyX3) (hd : decode cc pc = .ok (.getfield idx, 3)) (hb : 0 ≤ b ∧ b + 20 ≤ N) {v : Value} (hv : (sF ad b s)[f]? = some v)
    (kk : V X kc kn Q (pc + 3) L (v :: st) ad N (sput ad (gty X) σ b s)) : V X kc kn Q pc L (.ref (ad b) :: st) ad N (sput ad (gty X) σ b s) := r_get C fl hd (by omega) sput_0 hv kk
theorem ss_put (C : gOk X cc nL own R ret) (fl : gFL own idx 3 f RX3 TX3 10 tyX3) (hd : decode cc pc = .ok (.putfield idx, 3)) (hb : 0 ≤ b ∧ b + 20 ≤ N) (hf : 1 ≤ f ∧ f < 10) (hj : sj f = j) (hfin : (TX3 f).2.2.2 = false) (hn : narrow (tyX3 f) (.int (gI z)) = .int (gI z)) (hfit : fits (tyX3 f) (.int (gI z)) = true)
    (kk : V X kc kn Q (pc + 3) L st ad N (sput ad (gty X) σ b (up s j z))) : V X kc kn Q pc L (.int (gI z) :: .ref (ad b) :: st) ad N (sput ad (gty X) σ b s) := r_put C fl hd (by omega) sput_0 hfin hn hfit hf.2 (by rw [sput_up f hf, hj]; exact kk)
theorem ss_room (C : gOk X cc nL own R ret) (hd : decode cc pc = .ok (.aaload, 1)) (hb : 0 ≤ b ∧ b + 20 ≤ N) (hi : 0 ≤ r ∧ r < 6)
    (kk : V X kc kn Q (pc + 1) L (.ref (ad (b + 2 + 3 * r)) :: st) ad N (sput ad (gty X) σ b s)) : V X kc kn Q pc L (.int (gI r) :: .ref (ad (b + 1)) :: st) ad N (sput ad (gty X) σ b s) :=
  r_aald (t := 3) C hd (by omega) sput_1 rfl hi (by omega) (by unfold rmA; rw [if_pos (by omega), Int.toNat_of_nonneg hi.1]) kk
theorem sr_get (C : gOk X cc nL own R ret) (fl : gFL own idx 1 f RX1 TX1 9 tyX1) (hd : decode cc pc = .ok (.getfield idx, 3)) (hb : 0 ≤ b ∧ b + 20 ≤ N) (hr : 0 ≤ r ∧ r < 6) {v : Value} (hv : (rF ad (b + 2 + 3 * r) (rm s r))[f]? = some v)
    (kk : V X kc kn Q (pc + 3) L (v :: st) ad N (sput ad (gty X) σ b s)) : V X kc kn Q pc L (.ref (ad (b + 2 + 3 * r)) :: st) ad N (sput ad (gty X) σ b s) := r_get C fl hd (by omega) (sput_r hr) hv kk
theorem sr_put (C : gOk X cc nL own R ret) (fl : gFL own idx 1 f RX1 TX1 9 tyX1) (hd : decode cc pc = .ok (.putfield idx, 3)) (hb : 0 ≤ b ∧ b + 20 ≤ N) (hr : 0 ≤ r ∧ r < 6) (hf : 2 ≤ f ∧ f < 9) (hj : rj f = j) (hj2 : 0 ≤ j ∧ j < 15) (hfin : (TX1 f).2.2.2 = false) (hn : narrow (tyX1 f) (.int (gI z)) = .int (gI z)) (hfit : fits (tyX1 f) (.int (gI z)) = true)
    (kk : V X kc kn Q (pc + 3) L st ad N (sput ad (gty X) σ b (up s (9 + 15 * r + j) z))) : V X kc kn Q pc L (.int (gI z) :: .ref (ad (b + 2 + 3 * r)) :: st) ad N (sput ad (gty X) σ b s) := by
  rw [← sput_eq hr]
  refine rr_put C fl hd (by omega) hf hj hfin hn hfit ?_
  rw [sput_re hr, srm_up s r hj2]
  exact kk
end STOREROWS
/-! what holds of every store that comes up -/
def okR (ρ : Int → Int) : Prop := (0 ≤ ρ 0 ∧ ρ 0 ≤ 60) ∧ (ρ 1 = 0 ∨ ρ 1 = 1) ∧ (0 ≤ ρ 2 ∧ ρ 2 ≤ 9) ∧ (ρ 3 = 0 ∨ ρ 3 = 1) ∧ (ρ 5 = 0 ∨ ρ 5 = 1) ∧ (0 ≤ ρ 6 ∧ ρ 6 ≤ 4) ∧ (∀ i, 0 ≤ i → i < 4 → 0 ≤ ρ (7 + i) ∧ ρ (7 + i) < 100) ∧ (∀ i, 0 ≤ i → i < 4 → 0 ≤ ρ (11 + i) ∧ ρ (11 + i) < 50) ∧ (ρ 1 = 1 → 0 < ρ 0)
def okS (s : Int → Int) : Prop := (1 ≤ s 0 ∧ s 0 ≤ 50) ∧ (0 ≤ s 1 ∧ s 1 ≤ 12) ∧ ((s 7 = -1 ∧ s 8 = 0) ∨ (0 ≤ s 7 ∧ s 7 < 6 ∧ 1 ≤ s 8 ∧ s 8 ≤ 6)) ∧ ∀ r : Int, 0 ≤ r → r < 6 → okR (rm s r)
theorem okR.len {ρ : Int → Int} (h : okR ρ) : 0 ≤ ρ 0 ∧ ρ 0 ≤ 60 := h.1
theorem okR.bur {ρ : Int → Int} (h : okR ρ) : ρ 1 = 0 ∨ ρ 1 = 1 := h.2.1
theorem okR.wick {ρ : Int → Int} (h : okR ρ) : 0 ≤ ρ 2 ∧ ρ 2 ≤ 9 := h.2.2.1
theorem okR.shi {ρ : Int → Int} (h : okR ρ) : ρ 3 = 0 ∨ ρ 3 = 1 := h.2.2.2.1
theorem okR.door {ρ : Int → Int} (h : okR ρ) : ρ 5 = 0 ∨ ρ 5 = 1 := h.2.2.2.2.1
theorem okR.many {ρ : Int → Int} (h : okR ρ) : 0 ≤ ρ 6 ∧ ρ 6 ≤ 4 := h.2.2.2.2.2.1
theorem okR.keys {ρ : Int → Int} (h : okR ρ) : ∀ i, 0 ≤ i → i < 4 → 0 ≤ ρ (7 + i) ∧ ρ (7 + i) < 100 := h.2.2.2.2.2.2.1
theorem okR.dark {ρ : Int → Int} (h : okR ρ) : ∀ i, 0 ≤ i → i < 4 → 0 ≤ ρ (11 + i) ∧ ρ (11 + i) < 50 := h.2.2.2.2.2.2.2.1
theorem okR.lit {ρ : Int → Int} (h : okR ρ) : ρ 1 = 1 → 0 < ρ 0 := h.2.2.2.2.2.2.2.2
theorem okR.keyI {ρ : Int → Int} (h : okR ρ) : ∀ i, 0 ≤ i → i < 4 → -2147483648 ≤ ρ (7 + i) ∧ ρ (7 + i) < 2147483648 := fun i h1 h2 => by have := h.keys i h1 h2; omega
theorem okR.darkI {ρ : Int → Int} (h : okR ρ) : ∀ i, 0 ≤ i → i < 4 → 0 ≤ ρ (11 + i) ∧ ρ (11 + i) ≤ 100 := fun i h1 h2 => by have := h.dark i h1 h2; omega
theorem okS.rm {s : Int → Int} (h : okS s) {r : Int} (hr : 0 ≤ r ∧ r < 6) : okR (rm s r) := h.2.2.2 r hr.1 hr.2
theorem okS.set {s : Int → Int} (h : okS s) : 1 ≤ s 0 ∧ s 0 ≤ 50 := h.1
theorem okS.box {s : Int → Int} (h : okS s) : 0 ≤ s 1 ∧ s 1 ≤ 12 := h.2.1
theorem okS.dra {s : Int → Int} (h : okS s) : (s 7 = -1 ∧ s 8 = 0) ∨ (0 ≤ s 7 ∧ s 7 < 6 ∧ 1 ≤ s 8 ∧ s 8 ≤ 6) := h.2.2.1
