/-! the law's world, its rows, what holds at the head of its loop -/
section WORLD2
variable {ad : Int → Nat} {ty : Nat → ClassId} {σ : Int → va_E} {x n k len m : Int} {u : Int → Int → Int} {s tx v t p x2 s2 q : Int → Int}
theorem xput_in {σ' : Int → va_E} {j : Int} (h : x ≤ j ∧ j < x + 145) : xput ad ty σ x s n k u len tx j = xput ad ty σ' x s n k u len tx j := by
  unfold xput
  split
  · rfl
  · split
    · exact sput_in (by omega)
    · split
      · exact vputF_in (by omega)
      · rw [if_pos (by omega), if_pos (by omega)]; exact dput_in (by omega)
theorem mput_in {σ' : Int → va_E} {j : Int} (h : m ≤ j ∧ j < m + 6) : mput ad ty σ m v s t p x2 q j = mput ad ty σ' m v s t p x2 q j := by
  unfold mput
  split
  · rfl
  · split
    · rfl
    · split
      · rfl
      · split
        · rfl
        · split
          · rfl
          · rw [if_pos (by omega), if_pos (by omega)]
theorem xm (h : x + 145 ≤ m) : xput ad ty (mput ad ty σ m v s2 t p x2 q) x s n k u len tx = mput ad ty (xput ad ty σ x s n k u len tx) m v s2 t p x2 q := by
  funext j
  by_cases h1 : x ≤ j ∧ j < x + 145
  · rw [mput_x (by omega)]; exact xput_in h1
  · rw [xput_x (by omega)]
    by_cases h2 : m ≤ j ∧ j < m + 6
    · exact mput_in h2
    · rw [mput_x (by omega), mput_x (by omega), xput_x (by omega)]
theorem up_mput {j : Int} {e : va_E} (h : j < m ∨ m + 5 < j) : up (mput ad ty σ m v s t p x2 q) j e = mput ad ty (up σ j e) m v s t p x2 q := by
  funext i
  by_cases hi : i = j
  · rw [hi, up_s, mput_x h, up_s]
  · rw [up_n hi]
    by_cases h2 : m ≤ i ∧ i < m + 6
    · exact mput_in h2
    · rw [mput_x (by omega), mput_x (by omega), up_n hi]
theorem lw_r5 (h : x + 145 ≤ m) : xput ad ty (mput ad ty σ m v s2 t p x2 q) x s n k u len tx m = .inr (5, mF ad m v) := by
  rw [xput_x (by omega)]; exact mput_0
variable {l : Launch} {y : MethodName} {cc : ByteArray} {nL : Nat} {ret : Option FieldType} {f0 lo : Nat} {av : List Value} {D : va_G} {N : Int} {rv : Option Value} {v' s2' t' p' x2' q' : Int → Int}
theorem lw_m (hm : x + 145 ≤ m) (h : gM0 l y cc nL ret f0 lo av D ty ad N (mput ad ty (xput ad ty σ x s n k u len tx) m v s2 t p x2 q) rv (mput ad ty (xput ad ty σ x s n k u len tx) m v' s2' t' p' x2' q')) : gM0 l y cc nL ret f0 lo av D ty ad N (xput ad ty (mput ad ty σ m v s2 t p x2 q) x s n k u len tx) rv (xput ad ty (mput ad ty σ m v' s2' t' p' x2' q') x s n k u len tx) := by
  rw [xm hm, xm hm]; exact h
/-- the law's world: the object, the reference, the array of one long -/
abbrev LW (ad : Int → Nat) (ty : Nat → ClassId) (σ : Int → va_E) (s : Int → Int) (n k : Int) (u : Int → Int → Int) (len : Int) (tx v s2 t p x2 q : Int → Int) (g : Nat → Int64) : Int → va_E := xput ad ty (mput ad ty (up σ 151 (gLA (ty 2) 1 g)) 145 v s2 t p x2 q) 0 s n k u len tx
theorem lw_g {g : Nat → Int64} : mput ad ty (up σ 151 (gLA (ty 2) 1 g)) 145 v s2 t p x2 q 151 = gLA (ty 2) 1 g := by
  rw [mput_x (by omega), up_s]
theorem lw_g2 {g : Nat → Int64} : LW ad ty σ s n k u len tx v s2 t p x2 q g 151 = gLA (ty 2) 1 g := by
  exact (xput_x (by omega)).trans lw_g
theorem lw_w {hh : List (Nat × Nat × Nat × Nat)} {R : Room} {s' tx' : Int → Int} {n' k' len' : Int} {u' : Int → Int → Int} {g g' : Nat → Int64} (h : gMetW l y cc nL ret hh R av D ty ad N (LW ad ty σ s n k u len tx v s2 t p x2 q g) (gD rv ad N (xput ad ty (up (mput ad ty (up σ 151 (gLA (ty 2) 1 g)) 145 v s2 t p x2 q) 151 (gLA (ty 2) 1 g')) 0 s' n' k' u' len' tx'))) : gMetW l y cc nL ret hh R av D ty ad N (LW ad ty σ s n k u len tx v s2 t p x2 q g) (gD rv ad N (LW ad ty σ s' n' k' u' len' tx' v s2 t p x2 q g')) := by
  rw [up_mput (by omega), up_up] at h; exact h
end WORLD2
/-- the script: Ls ints at b -/
def gSc (X : gT) (b Ls : Nat) (xz : Int → Int) : Prop := (∃ xs : Nat → Int32, va_X b Ls xs (gst X) (gst X).heap ∧ b < (gst X).heap.size ∧ ¬ gAA X b ∧ ∀ j : Nat, xs j = gI (xz j)) ∧ Ls ≤ 1536 ∧ ∀ j : Int, -2147483648 ≤ xz j ∧ xz j < 2147483648
section LAWROWS
variable {X : gT} {cc : ByteArray} {nL : Nat} {own : String} {R : Room} {ret : Option FieldType} {kc kn : Nat} {Q : State → Prop} {pc : Nat} {L : List (Option Value)} {st : List Value} {ad : Int → Nat} {N : Int} {σ : Int → va_E} {b Ls : Nat} {xz : Int → Int}
theorem r_sld (C : gOk X cc nL own R ret) (hsc : gSc X b Ls xz) (hd : decode cc pc = .ok (.iaload, 1)) {i : Int} (hi : 0 ≤ i ∧ i < Ls)
    (k : V X kc kn Q (pc + 1) L (.int (gI (xz i)) :: st) ad N σ) : V X kc kn Q pc L (.int (gI i) :: .ref b :: st) ad N σ := fun ls H locs hl hw => by
  obtain ⟨⟨xs, h1, h2, h3, h4⟩, hL, -⟩ := hsc
  refine va_sld C.1 C.2.1 h1 h2 h3 hw.2.2 (gI_in hi (by omega)) hd ?_
  rw [gI_clamp (by omega), h4, Int.toNat_of_nonneg hi.1]
  exact k ls H locs hl hw
theorem r_slen (C : gOk X cc nL own R ret) (hsc : gSc X b Ls xz) (hd : decode cc pc = .ok (.arraylength, 1))
    (k : V X kc kn Q (pc + 1) L (.int (gI (Ls : Int)) :: st) ad N σ) : V X kc kn Q pc L (.ref b :: st) ad N σ := fun ls H locs hl hw => by
  obtain ⟨⟨xs, h1, h2, h3, h4⟩, hL, -⟩ := hsc
  refine va_slen C.1 C.2.1 h1 h2 h3 hw.2.2 hd ?_
  rw [show Int32.ofNat Ls = gI (Ls : Int) from (Int32.ofInt_eq_ofNat).symm]
  exact k ls H locs hl hw
theorem r_lcmpE (C : gOk X cc nL own R ret) {a : Int64} (hd : decode cc pc = .ok (.lcmp, 1)) (k : V X kc kn Q (pc + 1) L (.int (gI 0) :: st) ad N σ) : V X kc kn Q pc L (.long a :: .long a :: st) ad N σ := fun ls H locs hl hw => by
  refine W.lcmp C.1 C.2.1 hd ?_
  rw [(lg_cmp_eq a a).mpr rfl, ← gI_0]
  exact k ls H locs hl hw
theorem r_icmpE (C : gOk X cc nL own R ret) {a : Int32} {off : Int} {tgt : Nat} (hd : decode cc pc = .ok (.if_icmp .eq off, 3)) (ht : (pc : Int) + off = (tgt : Int)) (k : V X kc kn Q tgt L st ad N σ) : V X kc kn Q pc L (.int a :: .int a :: st) ad N σ := fun ls H locs hl hw => lv_icmp_eq C.1 C.2.1 hd ht (fun _ => k ls H locs hl hw) (fun h => absurd rfl h)
theorem r_ifeq0 (C : gOk X cc nL own R ret) {off : Int} {tgt : Nat} (hd : decode cc pc = .ok (.ifCond .eq off, 3)) (ht : (pc : Int) + off = (tgt : Int)) (k : V X kc kn Q tgt L st ad N σ) : V X kc kn Q pc L (.int (gI 0) :: st) ad N σ := r_if_eq C hd ht (by omega) (fun _ => k) (fun h => absurd rfl h)
theorem r_ifne0 (C : gOk X cc nL own R ret) {off : Int} (hd : decode cc pc = .ok (.ifCond .ne off, 3)) {tgt : Nat} (ht : (pc : Int) + off = (tgt : Int)) (k : V X kc kn Q (pc + 3) L st ad N σ) : V X kc kn Q pc L (.int (gI 0) :: st) ad N σ := r_if_ne C hd ht (by omega) (fun h => absurd rfl h) (fun _ => k)
theorem r_ifneK (C : gOk X cc nL own R ret) {z off : Int} {tgt : Nat} (hd : decode cc pc = .ok (.ifCond .ne off, 3)) (ht : (pc : Int) + off = (tgt : Int)) (hz : z = 1 ∨ z = 2 ∨ z = 3) (k : V X kc kn Q tgt L st ad N σ) : V X kc kn Q pc L (.int (gI z) :: st) ad N σ := r_if_ne C hd ht (by omega) (fun _ => k) (fun h => absurd h (by omega))
theorem r_wid {k2 n2 : Nat} (h1 : kc ≤ k2) (h2 : kn ≤ n2) (k : V X k2 n2 Q pc L st ad N σ) : V X kc kn Q pc L st ad N σ := fun ls H locs hl hw => W.widen h1 h2 (k ls H locs hl hw)
end LAWROWS
/-- what holds between the two systems -/
def LI (s : Int → Int) (n k : Int) (u : Int → Int → Int) (len : Int) (tx v p : Int → Int) : Prop := okX s n u len tx ∧ hist p n k u ∧ v 3 = n ∧ v 5 = len
abbrev LL (b : Nat) (ad : Int → Nat) (i : Int) : List (Option Value) := [some (.ref b), some (.ref (ad 0)), some (.ref (ad 145)), some (.ref (ad 151)), some (.int (gI i)), none, none, none, none]
/-- what goes on behind a call -/
def LK (X : gT) (ad : Int → Nat) (σ : Int → va_E) (Q : State → Prop) (kc kn b : Nat) (i : Int) : Prop := ∀ (s : Int → Int) (n k : Int) (u : Int → Int → Int) (len : Int) (tx v t p q : Int → Int) (g : Nat → Int64), LI s n k u len tx v p → V X (kc + 1) (kn + 6) Q 1415 (LL b ad i) [] ad 152 (LW ad (gty X) σ s n k u len tx v s t p tx q g)
theorem LK_eq {X : gT} {ad : Int → Nat} {σ : Int → va_E} {Q : State → Prop} {kc kn b : Nat} {i : Int} (K : LK X ad σ Q kc kn b i) {s s2 : Int → Int} {n k : Int} {u : Int → Int → Int} {len : Int} {tx v t p q : Int → Int} {g : Nat → Int64} (e : s = s2) (I : LI s n k u len tx v p) : V X (kc + 1) (kn + 6) Q 1415 (LL b ad i) [] ad 152 (LW ad (gty X) σ s n k u len tx v s2 t p tx q g) := by
  subst e
  exact K _ _ _ _ _ _ _ _ _ _ _ I
theorem vT_cmpl {len : Int} {x : Int → Int} (hxt : okT len x) (hc : cmpl len x) : vT len x := by
  have hsp := pR_spec (len := len) (x := x) hxt.1.2 61 (fun _ => 0) (fun _ => 0) ⟨Int.le_refl 0, hxt.1.1⟩ (by show (61 : Int) ≤ 0 + ((61 : Nat) : Int); omega)
  have hz1 : (sS len x 0 0 = 4 ∨ sS len x 0 0 = 5) ↔ cmpl len x := by unfold sS; rw [show len - 0 = len by omega]
  have h1 : (pR len x 61 1 (fun _ => 0) (fun _ => 0)).1 = 1 := by
    rcases hsp with h | h
    · exact h.1
    · exact absurd (hz1.mpr hc) (by have := h.2.1; omega)
  have hTD := pR_told (len := len) (x := x) 61 (fun _ => 0) (fun _ => 0) h1
  intro p h0 h2 hst
  by_cases e : p = 0
  · subst e
    exact (deed_v hTD.1 (TD_end hTD)).2.1
  · exact TD_vT 61 0 0 (Int.le_refl 0) hTD p h0 h2 hst e
theorem und_w {ad : Int → Nat} {ty : Nat → ClassId} {σ : Int → va_E} {m n k : Int} {u : Int → Int → Int} {v s t p x q : Int → Int} (h : hist p n k u) (hn : 1 ≤ n) : mput ad ty σ m v (cpy p s (99 * (n - 1)) 0) t p x q = mput ad ty σ m v (u ((n - 1 + k) % 6)) t p x q := by
  rw [← mput_u1 (s := s) (cpy p s (99 * (n - 1)) 0), show gAr (ty 0) 99 (cpy p s (99 * (n - 1)) 0) = gAr (ty 0) 99 (u ((n - 1 + k) % 6)) from gAr_ext fun j h1 h2 => hist_pop h hn h1 (by omega), mput_u1]
