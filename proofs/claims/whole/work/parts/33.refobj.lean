/-! the reference: its object -/

def mF (ad : Int → Nat) (m : Int) (v : Int → Int) : List Value := [.ref (ad (m + 1)), .ref (ad (m + 2)), .ref (ad (m + 3)), .int (gI (v 3)), .ref (ad (m + 4)), .int (gI (v 5)), .int (gI (v 6)), .int (gI (v 7)), .int (gI (v 8)), .ref (ad (m + 5)), .int (gI (v 10))]
/-- the reference at m: its numbers v, the arrays now s, then t, past p, text x, told q -/
def mput (ad : Int → Nat) (ty : Nat → ClassId) (σ : Int → va_E) (m : Int) (v s t p x q : Int → Int) : Int → va_E := fun j =>
  if j = m then .inr (5, mF ad m v) else if j = m + 1 then gAr (ty 0) 99 s else if j = m + 2 then gAr (ty 0) 99 t else if j = m + 3 then gAr (ty 0) 594 p else if j = m + 4 then gAr (ty 0) 60 x else if j = m + 5 then gAr (ty 0) 63 q else σ j
section REFOBJ
variable {ad : Int → Nat} {ty : Nat → ClassId} {σ : Int → va_E} {m : Int} {v s t p x q : Int → Int}
theorem mput_0 : mput ad ty σ m v s t p x q m = .inr (5, mF ad m v) := if_pos rfl
theorem mput_1 : mput ad ty σ m v s t p x q (m + 1) = gAr (ty 0) 99 s := by
  unfold mput; rw [if_neg (by omega), if_pos rfl]
theorem mput_2 : mput ad ty σ m v s t p x q (m + 2) = gAr (ty 0) 99 t := by
  unfold mput; rw [if_neg (by omega), if_neg (by omega), if_pos rfl]
theorem mput_3 : mput ad ty σ m v s t p x q (m + 3) = gAr (ty 0) 594 p := by
  unfold mput; rw [if_neg (by omega), if_neg (by omega), if_neg (by omega), if_pos rfl]
theorem mput_4 : mput ad ty σ m v s t p x q (m + 4) = gAr (ty 0) 60 x := by
  unfold mput; rw [if_neg (by omega), if_neg (by omega), if_neg (by omega), if_neg (by omega), if_pos rfl]
theorem mput_5 : mput ad ty σ m v s t p x q (m + 5) = gAr (ty 0) 63 q := by
  unfold mput; rw [if_neg (by omega), if_neg (by omega), if_neg (by omega), if_neg (by omega), if_neg (by omega), if_pos rfl]
theorem mput_x {j : Int} (h : j < m ∨ m + 5 < j) : mput ad ty σ m v s t p x q j = σ j := by
  unfold mput; rw [if_neg (by omega), if_neg (by omega), if_neg (by omega), if_neg (by omega), if_neg (by omega), if_neg (by omega)]
theorem mput_u1 (g : Int → Int) : up (mput ad ty σ m v s t p x q) (m + 1) (gAr (ty 0) 99 g) = mput ad ty σ m v g t p x q := by
  funext j
  by_cases h : j = m + 1
  · rw [h, up_s, mput_1]
  · rw [up_n h]; unfold mput; rw [if_neg h, if_neg h]
theorem mput_u2 (g : Int → Int) : up (mput ad ty σ m v s t p x q) (m + 2) (gAr (ty 0) 99 g) = mput ad ty σ m v s g p x q := by
  funext j
  by_cases h : j = m + 2
  · rw [h, up_s, mput_2]
  · rw [up_n h]; unfold mput; rw [if_neg h, if_neg h]
theorem mput_u3 (g : Int → Int) : up (mput ad ty σ m v s t p x q) (m + 3) (gAr (ty 0) 594 g) = mput ad ty σ m v s t g x q := by
  funext j
  by_cases h : j = m + 3
  · rw [h, up_s, mput_3]
  · rw [up_n h]; unfold mput; rw [if_neg h, if_neg h]
theorem mput_u4 (g : Int → Int) : up (mput ad ty σ m v s t p x q) (m + 4) (gAr (ty 0) 60 g) = mput ad ty σ m v s t p g q := by
  funext j
  by_cases h : j = m + 4
  · rw [h, up_s, mput_4]
  · rw [up_n h]; unfold mput; rw [if_neg h, if_neg h]
theorem mput_u5 (g : Int → Int) : up (mput ad ty σ m v s t p x q) (m + 5) (gAr (ty 0) 63 g) = mput ad ty σ m v s t p x g := by
  funext j
  by_cases h : j = m + 5
  · rw [h, up_s, mput_5]
  · rw [up_n h]; unfold mput; rw [if_neg h, if_neg h]
theorem mput_v (f : Nat) (hf : f = 3 ∨ f = 5 ∨ f = 6 ∨ f = 7 ∨ f = 8 ∨ f = 10) (z : Int) : up (mput ad ty σ m v s t p x q) m (.inr (5, (mF ad m v).set f (.int (gI z)))) = mput ad ty σ m (up v f z) s t p x q := by
  funext j
  by_cases h : j = m
  · rw [h, up_s, mput_0]
    rcases hf with rfl | rfl | rfl | rfl | rfl | rfl <;> simp [mF, up]
  · rw [up_n h]; unfold mput; rw [if_neg h, if_neg h]
section LIFTS
variable {l : Launch} {y : MethodName} {cc : ByteArray} {nL : Nat} {ret : Option FieldType} {f0 lo : Nat} {av : List Value} {D : va_G} {N : Int} {rv : Option Value} {g : Int → Int}
theorem liftN (h : gM0 l y cc nL ret f0 lo av D ty ad N (up (mput ad ty σ m v s t p x q) (m + 1) (gAr (ty 0) 99 s)) rv (up (mput ad ty σ m v s t p x q) (m + 1) (gAr (ty 0) 99 g))) : gM0 l y cc nL ret f0 lo av D ty ad N (mput ad ty σ m v s t p x q) rv (mput ad ty σ m v g t p x q) := by
  rw [mput_u1, mput_u1] at h; exact h
theorem liftT (h : gM0 l y cc nL ret f0 lo av D ty ad N (up (mput ad ty σ m v s t p x q) (m + 2) (gAr (ty 0) 99 t)) rv (up (mput ad ty σ m v s t p x q) (m + 2) (gAr (ty 0) 99 g))) : gM0 l y cc nL ret f0 lo av D ty ad N (mput ad ty σ m v s t p x q) rv (mput ad ty σ m v s g p x q) := by
  rw [mput_u2, mput_u2] at h; exact h
theorem liftP (h : gM0 l y cc nL ret f0 lo av D ty ad N (up (mput ad ty σ m v s t p x q) (m + 3) (gAr (ty 0) 594 p)) rv (up (mput ad ty σ m v s t p x q) (m + 3) (gAr (ty 0) 594 g))) : gM0 l y cc nL ret f0 lo av D ty ad N (mput ad ty σ m v s t p x q) rv (mput ad ty σ m v s t g x q) := by
  rw [mput_u3, mput_u3] at h; exact h
end LIFTS
end REFOBJ
section REFROWS
variable {X : gT} {cc : ByteArray} {nL : Nat} {own : String} {R : Room} {ret : Option FieldType} {kc kn : Nat} {Q : State → Prop} {pc : Nat} {L : List (Option Value)} {st : List Value} {ad : Int → Nat} {N : Int} {σ : Int → va_E} {m z : Int} {v s t p x q : Int → Int} {idx f : Nat}
theorem mm_get (C : gOk X cc nL own R ret) (fl : gFL own idx 5 f RX5 TX5 11 tyX5) (hd : decode cc pc = .ok (.getfield idx, 3)) (hm : 0 ≤ m ∧ m + 6 ≤ N) {w : Value} (hv : (mF ad m v)[f]? = some w)
    (kk : V X kc kn Q (pc + 3) L (w :: st) ad N (mput ad (gty X) σ m v s t p x q)) : V X kc kn Q pc L (.ref (ad m) :: st) ad N (mput ad (gty X) σ m v s t p x q) := r_get C fl hd (by omega) mput_0 hv kk
theorem mm_put (C : gOk X cc nL own R ret) (fl : gFL own idx 5 f RX5 TX5 11 tyX5) (hd : decode cc pc = .ok (.putfield idx, 3)) {j : Int} (hm : 0 ≤ m ∧ m + 6 ≤ N) (hf : f = 3 ∨ f = 5 ∨ f = 6 ∨ f = 7 ∨ f = 8 ∨ f = 10) (hj : (f : Int) = j) (hfin : (TX5 f).2.2.2 = false) (hn : narrow (tyX5 f) (.int (gI z)) = .int (gI z)) (hfit : fits (tyX5 f) (.int (gI z)) = true)
    (kk : V X kc kn Q (pc + 3) L st ad N (mput ad (gty X) σ m (up v j z) s t p x q)) : V X kc kn Q pc L (.int (gI z) :: .ref (ad m) :: st) ad N (mput ad (gty X) σ m v s t p x q) := r_put C fl hd (by omega) mput_0 hfin hn hfit (show f < 11 by omega) (by rw [mput_v f hf, hj]; exact kk)
end REFROWS
/-- the past, a row shorter -/
def shf (p : Int → Int) : Int → Int := fun j => if 0 ≤ j ∧ j < 495 then p (j + 99) else p j
def shN (p : Int → Int) (n : Int) : Int → Int := fun j => if 0 ≤ j ∧ j < n then p (j + 99) else p j
theorem shN_0 (p : Int → Int) : shN p 0 = p := by
  funext j; unfold shN; rw [if_neg (by omega)]
theorem shN_s (p : Int → Int) {n : Int} (hn : 0 ≤ n) : up (shN p n) n (shN p n (n + 99)) = shN p (n + 1) := by
  funext j
  by_cases h : j = n
  · rw [h, up_s]; unfold shN; rw [if_neg (by omega), if_pos (by omega)]
  · rw [up_n h]; unfold shN
    by_cases h2 : 0 ≤ j ∧ j < n
    · rw [if_pos h2, if_pos (by omega)]
    · rw [if_neg h2, if_neg (by omega)]
def pkP (n : Int) (p s : Int → Int) : Int → Int := if n = 6 then cpy s (shf p) 0 495 else cpy s p 0 (99 * n)

set_option maxRecDepth 100000 in
set_option maxHeartbeats 4000000 in
theorem c_X5_thrown {l : Launch} {D : va_G} {ty : Nat → ClassId} {ad : Int → Nat} {N : Int} {σ : Int → va_E} {m : Int} {v s t p x q : Int → Int} (hm : 0 ≤ m ∧ m + 6 ≤ N)  : gM0 l yX5_thrown cX5_thrown 1 (some .int) 0 0 [.ref (ad m)] D ty ad N (mput ad ty σ m (v) (s) (t) (p) (x) (q)) (some (.int (gI (v 6)))) (mput ad ty σ m (v) (s) (t) (p) (x) (q)) := by
  refine gMet_of [some (.ref (ad m))] (by decide +kernel) rfl (Nat.le_of_ble_eq_true rfl) rfl ?_
  intro X hl hD hty C hini
  subst hl hD hty
  refine r_aload_n C dX5_thrown_0 rfl rfl ?_
  refine mm_get C flX5_25 dX5_thrown_1 hm rfl ?_
  try simp only [up_ap, Int.reduceEq, reduceIte]
  exact r_iretD C dX5_thrown_4 rfl rfl

set_option maxRecDepth 100000 in
set_option maxHeartbeats 4000000 in
theorem c_X5_fails {l : Launch} {D : va_G} {ty : Nat → ClassId} {ad : Int → Nat} {N : Int} {σ : Int → va_E} {m : Int} {v s t p x q : Int → Int} {z : Int} (hm : 0 ≤ m ∧ m + 6 ≤ N)  : gM0 l yX5_fails cX5_fails 2 (some .int) 0 0 [.ref (ad m), .int (gI z)] D ty ad N (mput ad ty σ m (v) (s) (t) (p) (x) (q)) (some (.int (gI 0))) (mput ad ty σ m (up v 6 z) (s) (t) (p) (x) (q)) := by
  refine gMet_of [some (.ref (ad m)), some (.int (gI z))] (by decide +kernel) rfl (Nat.le_of_ble_eq_true rfl) rfl ?_
  intro X hl hD hty C hini
  subst hl hD hty
  refine r_aload_n C dX5_fails_0 rfl rfl ?_
  refine r_iload_n C dX5_fails_1 rfl rfl ?_
  refine mm_put (j := 6) C flX5_25 dX5_fails_2 hm (by decide) rfl rfl rfl rfl ?_
  try rw [up_up]
  refine r_iconst C dX5_fails_5 ?_
  exact r_iretD C dX5_fails_6 rfl rfl

set_option maxRecDepth 100000 in
set_option maxHeartbeats 4000000 in
theorem c_X5_keepsState {l : Launch} {D : va_G} {ty : Nat → ClassId} {ad : Int → Nat} {N : Int} {σ : Int → va_E} {m : Int} {v s t p x q : Int → Int} (hm : 0 ≤ m ∧ m + 6 ≤ N) (hk6 : 0 ≤ v 3 ∧ v 3 ≤ 6) : gM0 l yX5_keepsState cX5_keepsState 2 none 1 24 [.ref (ad m)] D ty ad N (mput ad ty σ m (v) (s) (t) (p) (x) (q)) (none) (mput ad ty σ m (up (v) 3 (pshN (v 3))) (s) (t) (pkP (v 3) p s) (x) (q)) := by
  refine gMet_of [some (.ref (ad m)), none] (by decide +kernel) rfl (Nat.le_of_ble_eq_true rfl) rfl ?_
  intro X hl hD hty C hini
  subst hl hD hty
  refine r_aload_n C dX5_keepsState_0 rfl rfl ?_
  refine mm_get C flX5_37 dX5_keepsState_1 hm rfl ?_
  try simp only [up_ap, Int.reduceEq, reduceIte]
  refine r_bipush C dX5_keepsState_4 (by decide) ?_
  refine r_icmp_ne (tgt := 49) C dX5_keepsState_6 (by decide) (by omega) (by omega) (fun h6 => ?_) (fun h6 => ?_)
  · have h3 : ¬ v 3 = 6 := by omega
    refine r_aload_n C dX5_keepsState_49 rfl rfl ?_
    refine mm_get C flX5_7 dX5_keepsState_50 hm rfl ?_
    refine r_iconst C dX5_keepsState_53 ?_
    refine r_aload_n C dX5_keepsState_54 rfl rfl ?_
    refine mm_get C flX5_16 dX5_keepsState_55 hm rfl ?_
    refine r_bipush C dX5_keepsState_58 (by decide) ?_
    refine r_aload_n C dX5_keepsState_60 rfl rfl ?_
    refine mm_get C flX5_37 dX5_keepsState_61 hm rfl ?_
    try simp only [up_ap, Int.reduceEq, reduceIte]
    refine r_imul C dX5_keepsState_64 ?_
    refine r_cSv C cwX5_40 (liftP (c_X5_copies (n1 := 99) (f := s) (by omega) (by omega) (by omega) mput_1 (by omega) (by omega) (by decide) (by decide))) dX5_keepsState_65 rfl rfl rfl (Nat.le_of_ble_eq_true rfl) ⟨Nat.le_of_ble_eq_true rfl, Nat.le_of_ble_eq_true rfl⟩ ⟨Nat.le_of_ble_eq_true rfl, Nat.le_of_ble_eq_true rfl⟩ ?_
    refine r_aload_n C dX5_keepsState_68 rfl rfl ?_
    refine r_dup C dX5_keepsState_69 rfl ?_
    refine mm_get C flX5_37 dX5_keepsState_70 hm rfl ?_
    try simp only [up_ap, Int.reduceEq, reduceIte]
    refine r_iconst C dX5_keepsState_73 ?_
    refine r_iadd C dX5_keepsState_74 ?_
    refine mm_put (j := 3) C flX5_37 dX5_keepsState_75 hm (by decide) rfl rfl rfl rfl ?_
    try rw [up_up]
    exact r_vretD C dX5_keepsState_78 (by unfold pkP pshN; first | (rw [h3]; rfl) | (rw [if_neg h3, if_pos (by omega)]))
  · have h3 : v 3 = 6 := by omega
    refine r_iconst C dX5_keepsState_9 ?_
    refine r_istore_n C dX5_keepsState_10 rfl (Nat.le_of_ble_eq_true rfl) rfl ?_
    dsimp only [List.set]
    have lp : ∀ (n : Nat) (i : Int), (0 ≤ i) → (i + n = 495) → V X 0 0 (gQ X (gD (none) ad N (mput ad (gty X) σ m (up (v) 3 (pshN (v 3))) (s) (t) (pkP (v 3) p s) (x) (q))) 0 0) 11 [some (.ref (ad m)), some (.int (gI i))] [] ad N (mput ad (gty X) σ m (v) (s) (t) (shN p i) (x) (q)) := by
      intro n
      induction n with
      | zero =>
        intro i hp hpn
        have hi6 : i = 495 := by omega
        subst hi6
        refine r_iload_n C dX5_keepsState_11 rfl rfl ?_
        refine r_sipush C dX5_keepsState_12 (by decide) ?_
        refine r_icmp_ge (tgt := 39) C dX5_keepsState_15 (by decide) (by omega) (by omega) (fun h15 => ?_) (fun h15 => ?_)
        · refine r_aload_n C dX5_keepsState_39 rfl rfl ?_
          refine r_dup C dX5_keepsState_40 rfl ?_
          refine mm_get C flX5_37 dX5_keepsState_41 hm rfl ?_
          try simp only [up_ap, Int.reduceEq, reduceIte]
          refine r_iconst C dX5_keepsState_44 ?_
          refine r_isub C dX5_keepsState_45 ?_
          refine mm_put (j := 3) C flX5_37 dX5_keepsState_46 hm (by decide) rfl rfl rfl rfl ?_
          try rw [up_up]
          refine r_aload_n C dX5_keepsState_49 rfl rfl ?_
          refine mm_get C flX5_7 dX5_keepsState_50 hm rfl ?_
          refine r_iconst C dX5_keepsState_53 ?_
          refine r_aload_n C dX5_keepsState_54 rfl rfl ?_
          refine mm_get C flX5_16 dX5_keepsState_55 hm rfl ?_
          refine r_bipush C dX5_keepsState_58 (by decide) ?_
          refine r_aload_n C dX5_keepsState_60 rfl rfl ?_
          refine mm_get C flX5_37 dX5_keepsState_61 hm rfl ?_
          try simp only [up_ap, Int.reduceEq, reduceIte]
          refine r_imul C dX5_keepsState_64 ?_
          refine r_cSv C cwX5_40 (liftP (c_X5_copies (n1 := 99) (f := s) (by omega) (by omega) (by omega) mput_1 (by omega) (by omega) (by decide) (by decide))) dX5_keepsState_65 rfl rfl rfl (Nat.le_of_ble_eq_true rfl) ⟨Nat.le_of_ble_eq_true rfl, Nat.le_of_ble_eq_true rfl⟩ ⟨Nat.le_of_ble_eq_true rfl, Nat.le_of_ble_eq_true rfl⟩ ?_
          refine r_aload_n C dX5_keepsState_68 rfl rfl ?_
          refine r_dup C dX5_keepsState_69 rfl ?_
          refine mm_get C flX5_37 dX5_keepsState_70 hm rfl ?_
          try simp only [up_ap, Int.reduceEq, reduceIte]
          refine r_iconst C dX5_keepsState_73 ?_
          refine r_iadd C dX5_keepsState_74 ?_
          refine mm_put (j := 3) C flX5_37 dX5_keepsState_75 hm (by decide) rfl rfl rfl rfl ?_
          try rw [up_up]
          exact r_vretD C dX5_keepsState_78 (by unfold pkP pshN; first | (rw [h3]; rfl) | (rw [if_neg h3, if_pos (by omega)]))
        · exact absurd h15 (by omega)
      | succ n ih =>
        intro i hp hpn
        refine r_iload_n C dX5_keepsState_11 rfl rfl ?_
        refine r_sipush C dX5_keepsState_12 (by decide) ?_
        refine r_icmp_ge (tgt := 39) C dX5_keepsState_15 (by decide) (by omega) (by omega) (fun h15 => ?_) (fun h15 => ?_)
        · exact absurd h15 (by omega)
        · refine r_aload_n C dX5_keepsState_18 rfl rfl ?_
          refine mm_get C flX5_16 dX5_keepsState_19 hm rfl ?_
          refine r_iload_n C dX5_keepsState_22 rfl rfl ?_
          refine r_aload_n C dX5_keepsState_23 rfl rfl ?_
          refine mm_get C flX5_16 dX5_keepsState_24 hm rfl ?_
          refine r_iload_n C dX5_keepsState_27 rfl rfl ?_
          refine r_bipush C dX5_keepsState_28 (by decide) ?_
          refine r_iadd C dX5_keepsState_30 ?_
          refine r_iald C dX5_keepsState_31 (by omega) mput_3 (by omega) (by omega) ?_
          refine r_iast C dX5_keepsState_32 (by omega) mput_3 (by omega) (by omega) ?_
          rw [mput_u3]
          rw [shN_s p hp]
          refine r_iinc C dX5_keepsState_33 rfl rfl ?_
          dsimp only [List.set]
          refine r_goto (tgt := 11) C dX5_keepsState_36 (by decide) ?_
          exact ih _ (by omega) (by omega)
    have h0 := lp 495 0 (by omega) (by omega)
    rw [shN_0] at h0
    exact h0

set_option maxRecDepth 100000 in
set_option maxHeartbeats 4000000 in
theorem c_X5_undo {l : Launch} {D : va_G} {ty : Nat → ClassId} {ad : Int → Nat} {N : Int} {σ : Int → va_E} {m : Int} {v s t p x q : Int → Int} (hm : 0 ≤ m ∧ m + 6 ≤ N) (hk6 : 1 ≤ v 3 ∧ v 3 ≤ 6) : gM0 l yX5_undo cX5_undo 1 (some .int) 1 24 [.ref (ad m)] D ty ad N (mput ad ty σ m (v) (s) (t) (p) (x) (q)) (some (.int (gI (v 3 - 1)))) (mput ad ty σ m (up (up v 6 0) 3 (v 3 - 1)) (cpy p s (99 * (v 3 - 1)) 0) (t) (p) (x) (q)) := by
  refine gMet_of [some (.ref (ad m))] (by decide +kernel) rfl (Nat.le_of_ble_eq_true rfl) rfl ?_
  intro X hl hD hty C hini
  subst hl hD hty
  refine r_aload_n C dX5_undo_0 rfl rfl ?_
  refine r_iconst C dX5_undo_1 ?_
  refine mm_put (j := 6) C flX5_25 dX5_undo_2 hm (by decide) rfl rfl rfl rfl ?_
  try rw [up_up]
  refine r_aload_n C dX5_undo_5 rfl rfl ?_
  refine mm_get C flX5_37 dX5_undo_6 hm rfl ?_
  try simp only [up_ap, Int.reduceEq, reduceIte]
  refine r_if_ne (tgt := 18) C dX5_undo_9 (by decide) (by omega) (fun h9 => ?_) (fun h9 => ?_)
  · refine r_aload_n C dX5_undo_18 rfl rfl ?_
    refine r_dup C dX5_undo_19 rfl ?_
    refine mm_get C flX5_37 dX5_undo_20 hm rfl ?_
    try simp only [up_ap, Int.reduceEq, reduceIte]
    refine r_iconst C dX5_undo_23 ?_
    refine r_isub C dX5_undo_24 ?_
    refine mm_put (j := 3) C flX5_37 dX5_undo_25 hm (by decide) rfl rfl rfl rfl ?_
    try rw [up_up]
    refine r_aload_n C dX5_undo_28 rfl rfl ?_
    refine mm_get C flX5_16 dX5_undo_29 hm rfl ?_
    refine r_bipush C dX5_undo_32 (by decide) ?_
    refine r_aload_n C dX5_undo_34 rfl rfl ?_
    refine mm_get C flX5_37 dX5_undo_35 hm rfl ?_
    try simp only [up_ap, Int.reduceEq, reduceIte]
    refine r_imul C dX5_undo_38 ?_
    refine r_aload_n C dX5_undo_39 rfl rfl ?_
    refine mm_get C flX5_7 dX5_undo_40 hm rfl ?_
    refine r_iconst C dX5_undo_43 ?_
    refine r_cSv C cwX5_40 (liftN (c_X5_copies (n1 := 594) (f := p) (by omega) (by omega) (by omega) mput_3 (by omega) (by omega) (by decide) (by decide))) dX5_undo_44 rfl rfl rfl (Nat.le_of_ble_eq_true rfl) ⟨Nat.le_of_ble_eq_true rfl, Nat.le_of_ble_eq_true rfl⟩ ⟨Nat.le_of_ble_eq_true rfl, Nat.le_of_ble_eq_true rfl⟩ ?_
    refine r_aload_n C dX5_undo_47 rfl rfl ?_
    refine mm_get C flX5_37 dX5_undo_48 hm rfl ?_
    try simp only [up_ap, Int.reduceEq, reduceIte]
    exact r_iretD C dX5_undo_51 rfl rfl
  · exact absurd h9 (by omega)

set_option maxRecDepth 100000 in
set_option maxHeartbeats 4000000 in
theorem c_X5_undo_f1 {l : Launch} {D : va_G} {ty : Nat → ClassId} {ad : Int → Nat} {N : Int} {σ : Int → va_E} {m : Int} {v s t p x q : Int → Int} (hm : 0 ≤ m ∧ m + 6 ≤ N)  (hk6 : v 3 = 0) : gM0 l yX5_undo cX5_undo 1 (some .int) 1 24 [.ref (ad m)] D ty ad N (mput ad ty σ m (v) (s) (t) (p) (x) (q)) (some (.int (gI 0))) (mput ad ty σ m (up v 6 1) (s) (t) (p) (x) (q)) := by
  refine gMet_of [some (.ref (ad m))] (by decide +kernel) rfl (Nat.le_of_ble_eq_true rfl) rfl ?_
  intro X hl hD hty C hini
  subst hl hD hty
  refine r_aload_n C dX5_undo_0 rfl rfl ?_
  refine r_iconst C dX5_undo_1 ?_
  refine mm_put (j := 6) C flX5_25 dX5_undo_2 hm (by decide) rfl rfl rfl rfl ?_
  try rw [up_up]
  refine r_aload_n C dX5_undo_5 rfl rfl ?_
  refine mm_get C flX5_37 dX5_undo_6 hm rfl ?_
  try simp only [up_ap, Int.reduceEq, reduceIte]
  refine r_if_ne (tgt := 18) C dX5_undo_9 (by decide) (by omega) (fun h9 => ?_) (fun h9 => ?_)
  · exact absurd h9 (by omega)
  · refine r_aload_n C dX5_undo_12 rfl rfl ?_
    refine r_iconst C dX5_undo_13 ?_
    refine r_cV C cwX5_44 (c_X5_fails hm) dX5_undo_14 rfl (by omega) mput_0 rfl rfl rfl (Nat.le_of_ble_eq_true rfl) ⟨Nat.le_of_ble_eq_true rfl, Nat.le_of_ble_eq_true rfl⟩ ⟨Nat.le_of_ble_eq_true rfl, Nat.le_of_ble_eq_true rfl⟩ ?_
    exact r_iretD C dX5_undo_17 rfl (by rw [up_up])

set_option maxRecDepth 100000 in
set_option maxHeartbeats 4000000 in
theorem c_X5_strike {l : Launch} {D : va_G} {ty : Nat → ClassId} {ad : Int → Nat} {N : Int} {σ : Int → va_E} {m : Int} {v s t p x q : Int → Int} {r : Int} (hm : 0 ≤ m ∧ m + 6 ≤ N) (hk6 : 0 ≤ v 3 ∧ v 3 ≤ 6) (hs : okS s) (hr : 0 ≤ r ∧ r < 6) (hmay : mayS s r) : gM0 l yX5_strike cX5_strike 2 (some .int) 3 65 [.ref (ad m), .int (gI r)] D ty ad N (mput ad ty σ m (v) (s) (t) (p) (x) (q)) (some (.int (gI (rm s r 0)))) (mput ad ty σ m (up (up v 6 0) 3 (pshN (v 3))) (light1 s r) (t) (pkP (v 3) p s) (x) (q)) := by
  refine gMet_of [some (.ref (ad m)), some (.int (gI r))] (by decide +kernel) rfl (Nat.le_of_ble_eq_true rfl) rfl ?_
  intro X hl hD hty C hini
  subst hl hD hty
  refine r_aload_n C dX5_strike_0 rfl rfl ?_
  refine r_iconst C dX5_strike_1 ?_
  refine mm_put (j := 6) C flX5_25 dX5_strike_2 hm (by decide) rfl rfl rfl rfl ?_
  try rw [up_up]
  refine r_iload_n C dX5_strike_5 rfl rfl ?_
  refine r_cS C cwX5_63 (c_X5_isRoom (by omega)) dX5_strike_6 rfl rfl rfl (Nat.le_of_ble_eq_true rfl) ⟨Nat.le_of_ble_eq_true rfl, Nat.le_of_ble_eq_true rfl⟩ ⟨Nat.le_of_ble_eq_true rfl, Nat.le_of_ble_eq_true rfl⟩ ?_
  refine r_ifb_ne (tgt := 18) C dX5_strike_9 (by decide) (fun h9 => ?_) (fun h9 => ?_)
  · refine r_aload_n C dX5_strike_18 rfl rfl ?_
    refine mm_get C flX5_7 dX5_strike_19 hm rfl ?_
    refine r_iload_n C dX5_strike_22 rfl rfl ?_
    refine r_cS C cwX5_67 (c_X5_mayStrike (by omega) mput_1 hs (by omega)) dX5_strike_23 rfl rfl rfl (Nat.le_of_ble_eq_true rfl) ⟨Nat.le_of_ble_eq_true rfl, Nat.le_of_ble_eq_true rfl⟩ ⟨Nat.le_of_ble_eq_true rfl, Nat.le_of_ble_eq_true rfl⟩ ?_
    refine r_ifb_ne (tgt := 35) C dX5_strike_26 (by decide) (fun h26 => ?_) (fun h26 => ?_)
    · refine r_aload_n C dX5_strike_35 rfl rfl ?_
      refine r_cVv C cwX5_70 (c_X5_keepsState hm (by first | omega | (simp only [up_ap, Int.reduceEq, reduceIte]; omega))) dX5_strike_36 rfl (by omega) mput_0 rfl rfl rfl (Nat.le_of_ble_eq_true rfl) ⟨Nat.le_of_ble_eq_true rfl, Nat.le_of_ble_eq_true rfl⟩ ⟨Nat.le_of_ble_eq_true rfl, Nat.le_of_ble_eq_true rfl⟩ ?_
      refine r_aload_n C dX5_strike_39 rfl rfl ?_
      refine mm_get C flX5_7 dX5_strike_40 hm rfl ?_
      refine r_iload_n C dX5_strike_43 rfl rfl ?_
      refine r_cSv C cwX5_73 (liftN (c_X5_lights (by omega) (by omega))) dX5_strike_44 rfl rfl rfl (Nat.le_of_ble_eq_true rfl) ⟨Nat.le_of_ble_eq_true rfl, Nat.le_of_ble_eq_true rfl⟩ ⟨Nat.le_of_ble_eq_true rfl, Nat.le_of_ble_eq_true rfl⟩ ?_
      refine r_aload_n C dX5_strike_47 rfl rfl ?_
      refine mm_get C flX5_7 dX5_strike_48 hm rfl ?_
      refine r_iload_n C dX5_strike_51 rfl rfl ?_
      refine r_iconst C dX5_strike_52 ?_
      refine r_cS C cwX5_33 (c_X5_of (by omega) mput_1 (by omega) (by omega)) dX5_strike_53 rfl rfl rfl (Nat.le_of_ble_eq_true rfl) ⟨Nat.le_of_ble_eq_true rfl, Nat.le_of_ble_eq_true rfl⟩ ⟨Nat.le_of_ble_eq_true rfl, Nat.le_of_ble_eq_true rfl⟩ ?_
      exact r_iretD C dX5_strike_56 (by unfold light1; rw [rm_up (by omega), up_n (by omega)]) rfl
    · exact absurd hmay h26
  · exact absurd hr (by omega)

set_option maxRecDepth 100000 in
set_option maxHeartbeats 4000000 in
theorem c_X5_strike_f1 {l : Launch} {D : va_G} {ty : Nat → ClassId} {ad : Int → Nat} {N : Int} {σ : Int → va_E} {m : Int} {v s t p x q : Int → Int} {r : Int} (hm : 0 ≤ m ∧ m + 6 ≤ N)  (hnr : ¬ (0 ≤ r ∧ r < 6)) (hr : -2147483648 ≤ r ∧ r < 2147483648) : gM0 l yX5_strike cX5_strike 2 (some .int) 3 65 [.ref (ad m), .int (gI r)] D ty ad N (mput ad ty σ m (v) (s) (t) (p) (x) (q)) (some (.int (gI 0))) (mput ad ty σ m (up v 6 1) (s) (t) (p) (x) (q)) := by
  refine gMet_of [some (.ref (ad m)), some (.int (gI r))] (by decide +kernel) rfl (Nat.le_of_ble_eq_true rfl) rfl ?_
  intro X hl hD hty C hini
  subst hl hD hty
  refine r_aload_n C dX5_strike_0 rfl rfl ?_
  refine r_iconst C dX5_strike_1 ?_
  refine mm_put (j := 6) C flX5_25 dX5_strike_2 hm (by decide) rfl rfl rfl rfl ?_
  try rw [up_up]
  refine r_iload_n C dX5_strike_5 rfl rfl ?_
  refine r_cS C cwX5_63 (c_X5_isRoom (by omega)) dX5_strike_6 rfl rfl rfl (Nat.le_of_ble_eq_true rfl) ⟨Nat.le_of_ble_eq_true rfl, Nat.le_of_ble_eq_true rfl⟩ ⟨Nat.le_of_ble_eq_true rfl, Nat.le_of_ble_eq_true rfl⟩ ?_
  refine r_ifb_ne (tgt := 18) C dX5_strike_9 (by decide) (fun h9 => ?_) (fun h9 => ?_)
  · exact absurd h9 (by omega)
  · refine r_aload_n C dX5_strike_12 rfl rfl ?_
    refine r_iconst C dX5_strike_13 ?_
    refine r_cV C cwX5_44 (c_X5_fails hm) dX5_strike_14 rfl (by omega) mput_0 rfl rfl rfl (Nat.le_of_ble_eq_true rfl) ⟨Nat.le_of_ble_eq_true rfl, Nat.le_of_ble_eq_true rfl⟩ ⟨Nat.le_of_ble_eq_true rfl, Nat.le_of_ble_eq_true rfl⟩ ?_
    exact r_iretD C dX5_strike_17 rfl (by rw [up_up])

set_option maxRecDepth 100000 in
set_option maxHeartbeats 4000000 in
theorem c_X5_strike_f2 {l : Launch} {D : va_G} {ty : Nat → ClassId} {ad : Int → Nat} {N : Int} {σ : Int → va_E} {m : Int} {v s t p x q : Int → Int} {r : Int} (hm : 0 ≤ m ∧ m + 6 ≤ N)  (hs : okS s) (hr : 0 ≤ r ∧ r < 6) (hmay : ¬ mayS s r) : gM0 l yX5_strike cX5_strike 2 (some .int) 3 65 [.ref (ad m), .int (gI r)] D ty ad N (mput ad ty σ m (v) (s) (t) (p) (x) (q)) (some (.int (gI 0))) (mput ad ty σ m (up v 6 2) (s) (t) (p) (x) (q)) := by
  refine gMet_of [some (.ref (ad m)), some (.int (gI r))] (by decide +kernel) rfl (Nat.le_of_ble_eq_true rfl) rfl ?_
  intro X hl hD hty C hini
  subst hl hD hty
  refine r_aload_n C dX5_strike_0 rfl rfl ?_
  refine r_iconst C dX5_strike_1 ?_
  refine mm_put (j := 6) C flX5_25 dX5_strike_2 hm (by decide) rfl rfl rfl rfl ?_
  try rw [up_up]
  refine r_iload_n C dX5_strike_5 rfl rfl ?_
  refine r_cS C cwX5_63 (c_X5_isRoom (by omega)) dX5_strike_6 rfl rfl rfl (Nat.le_of_ble_eq_true rfl) ⟨Nat.le_of_ble_eq_true rfl, Nat.le_of_ble_eq_true rfl⟩ ⟨Nat.le_of_ble_eq_true rfl, Nat.le_of_ble_eq_true rfl⟩ ?_
  refine r_ifb_ne (tgt := 18) C dX5_strike_9 (by decide) (fun h9 => ?_) (fun h9 => ?_)
  · refine r_aload_n C dX5_strike_18 rfl rfl ?_
    refine mm_get C flX5_7 dX5_strike_19 hm rfl ?_
    refine r_iload_n C dX5_strike_22 rfl rfl ?_
    refine r_cS C cwX5_67 (c_X5_mayStrike (by omega) mput_1 hs (by omega)) dX5_strike_23 rfl rfl rfl (Nat.le_of_ble_eq_true rfl) ⟨Nat.le_of_ble_eq_true rfl, Nat.le_of_ble_eq_true rfl⟩ ⟨Nat.le_of_ble_eq_true rfl, Nat.le_of_ble_eq_true rfl⟩ ?_
    refine r_ifb_ne (tgt := 35) C dX5_strike_26 (by decide) (fun h26 => ?_) (fun h26 => ?_)
    · exact absurd h26 hmay
    · refine r_aload_n C dX5_strike_29 rfl rfl ?_
      refine r_iconst C dX5_strike_30 ?_
      refine r_cV C cwX5_44 (c_X5_fails hm) dX5_strike_31 rfl (by omega) mput_0 rfl rfl rfl (Nat.le_of_ble_eq_true rfl) ⟨Nat.le_of_ble_eq_true rfl, Nat.le_of_ble_eq_true rfl⟩ ⟨Nat.le_of_ble_eq_true rfl, Nat.le_of_ble_eq_true rfl⟩ ?_
      exact r_iretD C dX5_strike_34 rfl (by rw [up_up])
  · exact absurd hr (by omega)

set_option maxRecDepth 100000 in
set_option maxHeartbeats 4000000 in
theorem c_X5_light {l : Launch} {D : va_G} {ty : Nat → ClassId} {ad : Int → Nat} {N : Int} {σ : Int → va_E} {m : Int} {v s t p x q : Int → Int} {r o : Int} (hm : 0 ≤ m ∧ m + 6 ≤ N) (hk6 : 0 ≤ v 3 ∧ v 3 ≤ 6) (hs : okS s) (hr : 0 ≤ r ∧ r < 6) (ho : 0 ≤ o ∧ o < 6) (hmay : mayL s r o) : gM0 l yX5_light cX5_light 3 (some .int) 3 66 [.ref (ad m), .int (gI r), .int (gI o)] D ty ad N (mput ad ty σ m (v) (s) (t) (p) (x) (q)) (some (.int (gI (rm s r 0)))) (mput ad ty σ m (up (up v 6 0) 3 (pshN (v 3))) (light1 s r) (t) (pkP (v 3) p s) (x) (q)) := by
  refine gMet_of [some (.ref (ad m)), some (.int (gI r)), some (.int (gI o))] (by decide +kernel) rfl (Nat.le_of_ble_eq_true rfl) rfl ?_
  intro X hl hD hty C hini
  subst hl hD hty
  refine r_aload_n C dX5_light_0 rfl rfl ?_
  refine r_iconst C dX5_light_1 ?_
  refine mm_put (j := 6) C flX5_25 dX5_light_2 hm (by decide) rfl rfl rfl rfl ?_
  try rw [up_up]
  refine r_iload_n C dX5_light_5 rfl rfl ?_
  refine r_cS C cwX5_63 (c_X5_isRoom (by omega)) dX5_light_6 rfl rfl rfl (Nat.le_of_ble_eq_true rfl) ⟨Nat.le_of_ble_eq_true rfl, Nat.le_of_ble_eq_true rfl⟩ ⟨Nat.le_of_ble_eq_true rfl, Nat.le_of_ble_eq_true rfl⟩ ?_
  refine r_ifb_eq (tgt := 19) C dX5_light_9 (by decide) (fun h9 => ?_) (fun h9 => ?_)
  · exact absurd hr (by omega)
  · refine r_iload_n C dX5_light_12 rfl rfl ?_
    refine r_cS C cwX5_63 (c_X5_isRoom (by omega)) dX5_light_13 rfl rfl rfl (Nat.le_of_ble_eq_true rfl) ⟨Nat.le_of_ble_eq_true rfl, Nat.le_of_ble_eq_true rfl⟩ ⟨Nat.le_of_ble_eq_true rfl, Nat.le_of_ble_eq_true rfl⟩ ?_
    refine r_ifb_ne (tgt := 25) C dX5_light_16 (by decide) (fun h16 => ?_) (fun h16 => ?_)
    · refine r_aload_n C dX5_light_25 rfl rfl ?_
      refine mm_get C flX5_7 dX5_light_26 hm rfl ?_
      refine r_iload_n C dX5_light_29 rfl rfl ?_
      refine r_iload_n C dX5_light_30 rfl rfl ?_
      refine r_cS C cwX5_77 (c_X5_mayLight (by omega) mput_1 hs (by omega) (by omega)) dX5_light_31 rfl rfl rfl (Nat.le_of_ble_eq_true rfl) ⟨Nat.le_of_ble_eq_true rfl, Nat.le_of_ble_eq_true rfl⟩ ⟨Nat.le_of_ble_eq_true rfl, Nat.le_of_ble_eq_true rfl⟩ ?_
      refine r_ifb_ne (tgt := 43) C dX5_light_34 (by decide) (fun h34 => ?_) (fun h34 => ?_)
      · refine r_aload_n C dX5_light_43 rfl rfl ?_
        refine r_cVv C cwX5_70 (c_X5_keepsState hm (by first | omega | (simp only [up_ap, Int.reduceEq, reduceIte]; omega))) dX5_light_44 rfl (by omega) mput_0 rfl rfl rfl (Nat.le_of_ble_eq_true rfl) ⟨Nat.le_of_ble_eq_true rfl, Nat.le_of_ble_eq_true rfl⟩ ⟨Nat.le_of_ble_eq_true rfl, Nat.le_of_ble_eq_true rfl⟩ ?_
        refine r_aload_n C dX5_light_47 rfl rfl ?_
        refine mm_get C flX5_7 dX5_light_48 hm rfl ?_
        refine r_iload_n C dX5_light_51 rfl rfl ?_
        refine r_cSv C cwX5_73 (liftN (c_X5_lights (by omega) (by omega))) dX5_light_52 rfl rfl rfl (Nat.le_of_ble_eq_true rfl) ⟨Nat.le_of_ble_eq_true rfl, Nat.le_of_ble_eq_true rfl⟩ ⟨Nat.le_of_ble_eq_true rfl, Nat.le_of_ble_eq_true rfl⟩ ?_
        refine r_aload_n C dX5_light_55 rfl rfl ?_
        refine mm_get C flX5_7 dX5_light_56 hm rfl ?_
        refine r_iload_n C dX5_light_59 rfl rfl ?_
        refine r_iconst C dX5_light_60 ?_
        refine r_cS C cwX5_33 (c_X5_of (by omega) mput_1 (by omega) (by omega)) dX5_light_61 rfl rfl rfl (Nat.le_of_ble_eq_true rfl) ⟨Nat.le_of_ble_eq_true rfl, Nat.le_of_ble_eq_true rfl⟩ ⟨Nat.le_of_ble_eq_true rfl, Nat.le_of_ble_eq_true rfl⟩ ?_
        exact r_iretD C dX5_light_64 (by unfold light1; rw [rm_up (by omega), up_n (by omega)]) rfl
      · exact absurd hmay h34
    · exact absurd ho (by omega)

set_option maxRecDepth 100000 in
set_option maxHeartbeats 4000000 in
theorem c_X5_light_f1 {l : Launch} {D : va_G} {ty : Nat → ClassId} {ad : Int → Nat} {N : Int} {σ : Int → va_E} {m : Int} {v s t p x q : Int → Int} {r o : Int} (hm : 0 ≤ m ∧ m + 6 ≤ N)  (hnr : ¬ ((0 ≤ r ∧ r < 6) ∧ (0 ≤ o ∧ o < 6))) (hr : -2147483648 ≤ r ∧ r < 2147483648) (ho : -2147483648 ≤ o ∧ o < 2147483648) : gM0 l yX5_light cX5_light 3 (some .int) 3 66 [.ref (ad m), .int (gI r), .int (gI o)] D ty ad N (mput ad ty σ m (v) (s) (t) (p) (x) (q)) (some (.int (gI 0))) (mput ad ty σ m (up v 6 1) (s) (t) (p) (x) (q)) := by
  refine gMet_of [some (.ref (ad m)), some (.int (gI r)), some (.int (gI o))] (by decide +kernel) rfl (Nat.le_of_ble_eq_true rfl) rfl ?_
  intro X hl hD hty C hini
  subst hl hD hty
  refine r_aload_n C dX5_light_0 rfl rfl ?_
  refine r_iconst C dX5_light_1 ?_
  refine mm_put (j := 6) C flX5_25 dX5_light_2 hm (by decide) rfl rfl rfl rfl ?_
  try rw [up_up]
  refine r_iload_n C dX5_light_5 rfl rfl ?_
  refine r_cS C cwX5_63 (c_X5_isRoom (by omega)) dX5_light_6 rfl rfl rfl (Nat.le_of_ble_eq_true rfl) ⟨Nat.le_of_ble_eq_true rfl, Nat.le_of_ble_eq_true rfl⟩ ⟨Nat.le_of_ble_eq_true rfl, Nat.le_of_ble_eq_true rfl⟩ ?_
  refine r_ifb_eq (tgt := 19) C dX5_light_9 (by decide) (fun h9 => ?_) (fun h9 => ?_)
  · refine r_aload_n C dX5_light_19 rfl rfl ?_
    refine r_iconst C dX5_light_20 ?_
    refine r_cV C cwX5_44 (c_X5_fails hm) dX5_light_21 rfl (by omega) mput_0 rfl rfl rfl (Nat.le_of_ble_eq_true rfl) ⟨Nat.le_of_ble_eq_true rfl, Nat.le_of_ble_eq_true rfl⟩ ⟨Nat.le_of_ble_eq_true rfl, Nat.le_of_ble_eq_true rfl⟩ ?_
    exact r_iretD C dX5_light_24 rfl (by rw [up_up])
  · refine r_iload_n C dX5_light_12 rfl rfl ?_
    refine r_cS C cwX5_63 (c_X5_isRoom (by omega)) dX5_light_13 rfl rfl rfl (Nat.le_of_ble_eq_true rfl) ⟨Nat.le_of_ble_eq_true rfl, Nat.le_of_ble_eq_true rfl⟩ ⟨Nat.le_of_ble_eq_true rfl, Nat.le_of_ble_eq_true rfl⟩ ?_
    refine r_ifb_ne (tgt := 25) C dX5_light_16 (by decide) (fun h16 => ?_) (fun h16 => ?_)
    · exact absurd h16 (by omega)
    · refine r_aload_n C dX5_light_19 rfl rfl ?_
      refine r_iconst C dX5_light_20 ?_
      refine r_cV C cwX5_44 (c_X5_fails hm) dX5_light_21 rfl (by omega) mput_0 rfl rfl rfl (Nat.le_of_ble_eq_true rfl) ⟨Nat.le_of_ble_eq_true rfl, Nat.le_of_ble_eq_true rfl⟩ ⟨Nat.le_of_ble_eq_true rfl, Nat.le_of_ble_eq_true rfl⟩ ?_
      exact r_iretD C dX5_light_24 rfl (by rw [up_up])

set_option maxRecDepth 100000 in
set_option maxHeartbeats 4000000 in
theorem c_X5_light_f2 {l : Launch} {D : va_G} {ty : Nat → ClassId} {ad : Int → Nat} {N : Int} {σ : Int → va_E} {m : Int} {v s t p x q : Int → Int} {r o : Int} (hm : 0 ≤ m ∧ m + 6 ≤ N)  (hs : okS s) (hr : 0 ≤ r ∧ r < 6) (ho : 0 ≤ o ∧ o < 6) (hmay : ¬ mayL s r o) : gM0 l yX5_light cX5_light 3 (some .int) 3 66 [.ref (ad m), .int (gI r), .int (gI o)] D ty ad N (mput ad ty σ m (v) (s) (t) (p) (x) (q)) (some (.int (gI 0))) (mput ad ty σ m (up v 6 2) (s) (t) (p) (x) (q)) := by
  refine gMet_of [some (.ref (ad m)), some (.int (gI r)), some (.int (gI o))] (by decide +kernel) rfl (Nat.le_of_ble_eq_true rfl) rfl ?_
  intro X hl hD hty C hini
  subst hl hD hty
  refine r_aload_n C dX5_light_0 rfl rfl ?_
  refine r_iconst C dX5_light_1 ?_
  refine mm_put (j := 6) C flX5_25 dX5_light_2 hm (by decide) rfl rfl rfl rfl ?_
  try rw [up_up]
  refine r_iload_n C dX5_light_5 rfl rfl ?_
  refine r_cS C cwX5_63 (c_X5_isRoom (by omega)) dX5_light_6 rfl rfl rfl (Nat.le_of_ble_eq_true rfl) ⟨Nat.le_of_ble_eq_true rfl, Nat.le_of_ble_eq_true rfl⟩ ⟨Nat.le_of_ble_eq_true rfl, Nat.le_of_ble_eq_true rfl⟩ ?_
  refine r_ifb_eq (tgt := 19) C dX5_light_9 (by decide) (fun h9 => ?_) (fun h9 => ?_)
  · exact absurd hr (by omega)
  · refine r_iload_n C dX5_light_12 rfl rfl ?_
    refine r_cS C cwX5_63 (c_X5_isRoom (by omega)) dX5_light_13 rfl rfl rfl (Nat.le_of_ble_eq_true rfl) ⟨Nat.le_of_ble_eq_true rfl, Nat.le_of_ble_eq_true rfl⟩ ⟨Nat.le_of_ble_eq_true rfl, Nat.le_of_ble_eq_true rfl⟩ ?_
    refine r_ifb_ne (tgt := 25) C dX5_light_16 (by decide) (fun h16 => ?_) (fun h16 => ?_)
    · refine r_aload_n C dX5_light_25 rfl rfl ?_
      refine mm_get C flX5_7 dX5_light_26 hm rfl ?_
      refine r_iload_n C dX5_light_29 rfl rfl ?_
      refine r_iload_n C dX5_light_30 rfl rfl ?_
      refine r_cS C cwX5_77 (c_X5_mayLight (by omega) mput_1 hs (by omega) (by omega)) dX5_light_31 rfl rfl rfl (Nat.le_of_ble_eq_true rfl) ⟨Nat.le_of_ble_eq_true rfl, Nat.le_of_ble_eq_true rfl⟩ ⟨Nat.le_of_ble_eq_true rfl, Nat.le_of_ble_eq_true rfl⟩ ?_
      refine r_ifb_ne (tgt := 43) C dX5_light_34 (by decide) (fun h34 => ?_) (fun h34 => ?_)
      · exact absurd h34 hmay
      · refine r_aload_n C dX5_light_37 rfl rfl ?_
        refine r_iconst C dX5_light_38 ?_
        refine r_cV C cwX5_44 (c_X5_fails hm) dX5_light_39 rfl (by omega) mput_0 rfl rfl rfl (Nat.le_of_ble_eq_true rfl) ⟨Nat.le_of_ble_eq_true rfl, Nat.le_of_ble_eq_true rfl⟩ ⟨Nat.le_of_ble_eq_true rfl, Nat.le_of_ble_eq_true rfl⟩ ?_
        exact r_iretD C dX5_light_42 rfl (by rw [up_up])
    · exact absurd ho (by omega)

set_option maxRecDepth 100000 in
set_option maxHeartbeats 4000000 in
theorem c_X5_fresh {l : Launch} {D : va_G} {ty : Nat → ClassId} {ad : Int → Nat} {N : Int} {σ : Int → va_E} {m : Int} {v s t p x q : Int → Int} {r : Int} (hm : 0 ≤ m ∧ m + 6 ≤ N) (hk6 : 0 ≤ v 3 ∧ v 3 ≤ 6) (hs : okS s) (hr : 0 ≤ r ∧ r < 6) (hbx : 0 < s 1) : gM0 l yX5_fresh cX5_fresh 2 (some .int) 2 45 [.ref (ad m), .int (gI r)] D ty ad N (mput ad ty σ m (v) (s) (t) (p) (x) (q)) (some (.int (gI (s 1 - 1)))) (mput ad ty σ m (up (up v 6 0) 3 (pshN (v 3))) (renew s r) (t) (pkP (v 3) p s) (x) (q)) := by
  refine gMet_of [some (.ref (ad m)), some (.int (gI r))] (by decide +kernel) rfl (Nat.le_of_ble_eq_true rfl) rfl ?_
  intro X hl hD hty C hini
  subst hl hD hty
  have hbox := hs.box
  refine r_aload_n C dX5_fresh_0 rfl rfl ?_
  refine r_iconst C dX5_fresh_1 ?_
  refine mm_put (j := 6) C flX5_25 dX5_fresh_2 hm (by decide) rfl rfl rfl rfl ?_
  try rw [up_up]
  refine r_iload_n C dX5_fresh_5 rfl rfl ?_
  refine r_cS C cwX5_63 (c_X5_isRoom (by omega)) dX5_fresh_6 rfl rfl rfl (Nat.le_of_ble_eq_true rfl) ⟨Nat.le_of_ble_eq_true rfl, Nat.le_of_ble_eq_true rfl⟩ ⟨Nat.le_of_ble_eq_true rfl, Nat.le_of_ble_eq_true rfl⟩ ?_
  refine r_ifb_ne (tgt := 18) C dX5_fresh_9 (by decide) (fun h9 => ?_) (fun h9 => ?_)
  · refine r_aload_n C dX5_fresh_18 rfl rfl ?_
    refine mm_get C flX5_7 dX5_fresh_19 hm rfl ?_
    refine r_iconst C dX5_fresh_22 ?_
    refine r_iald C dX5_fresh_23 (by omega) mput_1 (by omega) (by omega) ?_
    refine r_if_ne (tgt := 33) C dX5_fresh_24 (by decide) (by omega) (fun h24 => ?_) (fun h24 => ?_)
    · refine r_aload_n C dX5_fresh_33 rfl rfl ?_
      refine r_cVv C cwX5_70 (c_X5_keepsState hm (by first | omega | (simp only [up_ap, Int.reduceEq, reduceIte]; omega))) dX5_fresh_34 rfl (by omega) mput_0 rfl rfl rfl (Nat.le_of_ble_eq_true rfl) ⟨Nat.le_of_ble_eq_true rfl, Nat.le_of_ble_eq_true rfl⟩ ⟨Nat.le_of_ble_eq_true rfl, Nat.le_of_ble_eq_true rfl⟩ ?_
      refine r_aload_n C dX5_fresh_37 rfl rfl ?_
      refine mm_get C flX5_7 dX5_fresh_38 hm rfl ?_
      refine r_iload_n C dX5_fresh_41 rfl rfl ?_
      refine r_cSv C cwX5_80 (liftN (c_X5_renews (by omega) (by omega))) dX5_fresh_42 rfl rfl rfl (Nat.le_of_ble_eq_true rfl) ⟨Nat.le_of_ble_eq_true rfl, Nat.le_of_ble_eq_true rfl⟩ ⟨Nat.le_of_ble_eq_true rfl, Nat.le_of_ble_eq_true rfl⟩ ?_
      refine r_aload_n C dX5_fresh_45 rfl rfl ?_
      refine mm_get C flX5_7 dX5_fresh_46 hm rfl ?_
      refine r_iconst C dX5_fresh_49 ?_
      refine r_iald C dX5_fresh_50 (by omega) mput_1 (by omega) (by omega) ?_
      exact r_iretD C dX5_fresh_51 (by unfold renew; rw [up_s]) rfl
    · exact absurd h24 (by omega)
  · exact absurd hr (by omega)

set_option maxRecDepth 100000 in
set_option maxHeartbeats 4000000 in
theorem c_X5_fresh_f1 {l : Launch} {D : va_G} {ty : Nat → ClassId} {ad : Int → Nat} {N : Int} {σ : Int → va_E} {m : Int} {v s t p x q : Int → Int} {r : Int} (hm : 0 ≤ m ∧ m + 6 ≤ N)  (hnr : ¬ (0 ≤ r ∧ r < 6)) (hr : -2147483648 ≤ r ∧ r < 2147483648) : gM0 l yX5_fresh cX5_fresh 2 (some .int) 2 45 [.ref (ad m), .int (gI r)] D ty ad N (mput ad ty σ m (v) (s) (t) (p) (x) (q)) (some (.int (gI 0))) (mput ad ty σ m (up v 6 1) (s) (t) (p) (x) (q)) := by
  refine gMet_of [some (.ref (ad m)), some (.int (gI r))] (by decide +kernel) rfl (Nat.le_of_ble_eq_true rfl) rfl ?_
  intro X hl hD hty C hini
  subst hl hD hty
  refine r_aload_n C dX5_fresh_0 rfl rfl ?_
  refine r_iconst C dX5_fresh_1 ?_
  refine mm_put (j := 6) C flX5_25 dX5_fresh_2 hm (by decide) rfl rfl rfl rfl ?_
  try rw [up_up]
  refine r_iload_n C dX5_fresh_5 rfl rfl ?_
  refine r_cS C cwX5_63 (c_X5_isRoom (by omega)) dX5_fresh_6 rfl rfl rfl (Nat.le_of_ble_eq_true rfl) ⟨Nat.le_of_ble_eq_true rfl, Nat.le_of_ble_eq_true rfl⟩ ⟨Nat.le_of_ble_eq_true rfl, Nat.le_of_ble_eq_true rfl⟩ ?_
  refine r_ifb_ne (tgt := 18) C dX5_fresh_9 (by decide) (fun h9 => ?_) (fun h9 => ?_)
  · exact absurd h9 (by omega)
  · refine r_aload_n C dX5_fresh_12 rfl rfl ?_
    refine r_iconst C dX5_fresh_13 ?_
    refine r_cV C cwX5_44 (c_X5_fails hm) dX5_fresh_14 rfl (by omega) mput_0 rfl rfl rfl (Nat.le_of_ble_eq_true rfl) ⟨Nat.le_of_ble_eq_true rfl, Nat.le_of_ble_eq_true rfl⟩ ⟨Nat.le_of_ble_eq_true rfl, Nat.le_of_ble_eq_true rfl⟩ ?_
    exact r_iretD C dX5_fresh_17 rfl (by rw [up_up])

set_option maxRecDepth 100000 in
set_option maxHeartbeats 4000000 in
theorem c_X5_fresh_f2 {l : Launch} {D : va_G} {ty : Nat → ClassId} {ad : Int → Nat} {N : Int} {σ : Int → va_E} {m : Int} {v s t p x q : Int → Int} {r : Int} (hm : 0 ≤ m ∧ m + 6 ≤ N)  (hs : okS s) (hr : 0 ≤ r ∧ r < 6) (hbx : s 1 = 0) : gM0 l yX5_fresh cX5_fresh 2 (some .int) 2 45 [.ref (ad m), .int (gI r)] D ty ad N (mput ad ty σ m (v) (s) (t) (p) (x) (q)) (some (.int (gI 0))) (mput ad ty σ m (up v 6 2) (s) (t) (p) (x) (q)) := by
  refine gMet_of [some (.ref (ad m)), some (.int (gI r))] (by decide +kernel) rfl (Nat.le_of_ble_eq_true rfl) rfl ?_
  intro X hl hD hty C hini
  subst hl hD hty
  refine r_aload_n C dX5_fresh_0 rfl rfl ?_
  refine r_iconst C dX5_fresh_1 ?_
  refine mm_put (j := 6) C flX5_25 dX5_fresh_2 hm (by decide) rfl rfl rfl rfl ?_
  try rw [up_up]
  refine r_iload_n C dX5_fresh_5 rfl rfl ?_
  refine r_cS C cwX5_63 (c_X5_isRoom (by omega)) dX5_fresh_6 rfl rfl rfl (Nat.le_of_ble_eq_true rfl) ⟨Nat.le_of_ble_eq_true rfl, Nat.le_of_ble_eq_true rfl⟩ ⟨Nat.le_of_ble_eq_true rfl, Nat.le_of_ble_eq_true rfl⟩ ?_
  refine r_ifb_ne (tgt := 18) C dX5_fresh_9 (by decide) (fun h9 => ?_) (fun h9 => ?_)
  · refine r_aload_n C dX5_fresh_18 rfl rfl ?_
    refine mm_get C flX5_7 dX5_fresh_19 hm rfl ?_
    refine r_iconst C dX5_fresh_22 ?_
    refine r_iald C dX5_fresh_23 (by omega) mput_1 (by omega) (by omega) ?_
    refine r_if_ne (tgt := 33) C dX5_fresh_24 (by decide) (by omega) (fun h24 => ?_) (fun h24 => ?_)
    · exact absurd h24 (by omega)
    · refine r_aload_n C dX5_fresh_27 rfl rfl ?_
      refine r_iconst C dX5_fresh_28 ?_
      refine r_cV C cwX5_44 (c_X5_fails hm) dX5_fresh_29 rfl (by omega) mput_0 rfl rfl rfl (Nat.le_of_ble_eq_true rfl) ⟨Nat.le_of_ble_eq_true rfl, Nat.le_of_ble_eq_true rfl⟩ ⟨Nat.le_of_ble_eq_true rfl, Nat.le_of_ble_eq_true rfl⟩ ?_
      exact r_iretD C dX5_fresh_32 rfl (by rw [up_up])
  · exact absurd hr (by omega)

set_option maxRecDepth 100000 in
set_option maxHeartbeats 4000000 in
theorem c_X5_switches {l : Launch} {D : va_G} {ty : Nat → ClassId} {ad : Int → Nat} {N : Int} {σ : Int → va_E} {m : Int} {v s t p x q : Int → Int} {r w b : Int} (hm : 0 ≤ m ∧ m + 6 ≤ N) (hk6 : 0 ≤ v 3 ∧ v 3 ≤ 6) (hr : 0 ≤ r ∧ r < 6) (hw : 0 ≤ w ∧ w < 15) (hb : b = 0 ∨ b = 1) : gM0 l yX5_switches cX5_switches 5 (some .int) 2 45 [.ref (ad m), .int (gI r), .int (gI w), .int (gI b)] D ty ad N (mput ad ty σ m (v) (s) (t) (p) (x) (q)) (some (.int (gI (rm s r w)))) (mput ad ty σ m (up (v) 3 (pshN (v 3))) (up s (9 + 15 * r + w) b) (t) (pkP (v 3) p s) (x) (q)) := by
  refine gMet_of [some (.ref (ad m)), some (.int (gI r)), some (.int (gI w)), some (.int (gI b)), none] (by decide +kernel) rfl (Nat.le_of_ble_eq_true rfl) rfl ?_
  intro X hl hD hty C hini
  subst hl hD hty
  refine r_aload_n C dX5_switches_0 rfl rfl ?_
  refine r_cVv C cwX5_70 (c_X5_keepsState hm (by first | omega | (simp only [up_ap, Int.reduceEq, reduceIte]; omega))) dX5_switches_1 rfl (by omega) mput_0 rfl rfl rfl (Nat.le_of_ble_eq_true rfl) ⟨Nat.le_of_ble_eq_true rfl, Nat.le_of_ble_eq_true rfl⟩ ⟨Nat.le_of_ble_eq_true rfl, Nat.le_of_ble_eq_true rfl⟩ ?_
  refine r_aload_n C dX5_switches_4 rfl rfl ?_
  refine mm_get C flX5_7 dX5_switches_5 hm rfl ?_
  refine r_iload_n C dX5_switches_8 rfl rfl ?_
  refine r_iload_n C dX5_switches_9 rfl rfl ?_
  refine r_cS C cwX5_33 (c_X5_of (by omega) mput_1 (by omega) (by omega)) dX5_switches_10 rfl rfl rfl (Nat.le_of_ble_eq_true rfl) ⟨Nat.le_of_ble_eq_true rfl, Nat.le_of_ble_eq_true rfl⟩ ⟨Nat.le_of_ble_eq_true rfl, Nat.le_of_ble_eq_true rfl⟩ ?_
  refine r_istore C dX5_switches_13 (Nat.le_of_ble_eq_true rfl) rfl ?_
  dsimp only [List.set]
  refine r_aload_n C dX5_switches_15 rfl rfl ?_
  refine mm_get C flX5_7 dX5_switches_16 hm rfl ?_
  refine r_bipush C dX5_switches_19 (by decide) ?_
  refine r_bipush C dX5_switches_21 (by decide) ?_
  refine r_iload_n C dX5_switches_23 rfl rfl ?_
  refine r_imul C dX5_switches_24 ?_
  refine r_iadd C dX5_switches_25 ?_
  refine r_iload_n C dX5_switches_26 rfl rfl ?_
  refine r_iadd C dX5_switches_27 ?_
  refine r_iload_n C dX5_switches_28 rfl rfl ?_
  refine r_if_eq (tgt := 36) C dX5_switches_29 (by decide) (by omega) (fun h29 => ?_) (fun h29 => ?_)
  · refine r_iconst C dX5_switches_36 ?_
    refine r_iast C dX5_switches_37 (by omega) mput_1 (by omega) (by omega) ?_
    rw [mput_u1]
    refine r_iload C dX5_switches_38 rfl ?_
    exact r_iretD C dX5_switches_40 rfl (by first | rw [show b = 1 by omega] | rw [show b = 0 by omega])
  · refine r_iconst C dX5_switches_32 ?_
    refine r_goto (tgt := 37) C dX5_switches_33 (by decide) ?_
    refine r_iast C dX5_switches_37 (by omega) mput_1 (by omega) (by omega) ?_
    rw [mput_u1]
    refine r_iload C dX5_switches_38 rfl ?_
    exact r_iretD C dX5_switches_40 rfl (by first | rw [show b = 1 by omega] | rw [show b = 0 by omega])

set_option maxRecDepth 100000 in
set_option maxHeartbeats 4000000 in
theorem c_X5_door {l : Launch} {D : va_G} {ty : Nat → ClassId} {ad : Int → Nat} {N : Int} {σ : Int → va_E} {m : Int} {v s t p x q : Int → Int} {r b : Int} (hm : 0 ≤ m ∧ m + 6 ≤ N) (hk6 : 0 ≤ v 3 ∧ v 3 ≤ 6) (hr : 0 ≤ r ∧ r < 6) (hb : b = 0 ∨ b = 1) : gM0 l yX5_door cX5_door 3 (some .int) 3 69 [.ref (ad m), .int (gI r), .int (gI b)] D ty ad N (mput ad ty σ m (v) (s) (t) (p) (x) (q)) (some (.int (gI (rm s r 5)))) (mput ad ty σ m (up (up v 6 0) 3 (pshN (v 3))) (up s (9 + 15 * r + 5) b) (t) (pkP (v 3) p s) (x) (q)) := by
  refine gMet_of [some (.ref (ad m)), some (.int (gI r)), some (.int (gI b))] (by decide +kernel) rfl (Nat.le_of_ble_eq_true rfl) rfl ?_
  intro X hl hD hty C hini
  subst hl hD hty
  refine r_aload_n C dX5_door_0 rfl rfl ?_
  refine r_iconst C dX5_door_1 ?_
  refine mm_put (j := 6) C flX5_25 dX5_door_2 hm (by decide) rfl rfl rfl rfl ?_
  try rw [up_up]
  refine r_iload_n C dX5_door_5 rfl rfl ?_
  refine r_cS C cwX5_63 (c_X5_isRoom (by omega)) dX5_door_6 rfl rfl rfl (Nat.le_of_ble_eq_true rfl) ⟨Nat.le_of_ble_eq_true rfl, Nat.le_of_ble_eq_true rfl⟩ ⟨Nat.le_of_ble_eq_true rfl, Nat.le_of_ble_eq_true rfl⟩ ?_
  refine r_ifb_eq (tgt := 22) C dX5_door_9 (by decide) (fun h9 => ?_) (fun h9 => ?_)
  · exact absurd hr (by omega)
  · refine r_aload_n C dX5_door_12 rfl rfl ?_
    refine r_iload_n C dX5_door_13 rfl rfl ?_
    refine r_iconst C dX5_door_14 ?_
    refine r_iload_n C dX5_door_15 rfl rfl ?_
    refine r_cV C cwX5_83 (c_X5_switches hm (by first | omega | (simp only [up_ap, Int.reduceEq, reduceIte]; omega)) (by omega) (by omega) hb) dX5_door_16 rfl (by omega) mput_0 rfl rfl rfl (Nat.le_of_ble_eq_true rfl) ⟨Nat.le_of_ble_eq_true rfl, Nat.le_of_ble_eq_true rfl⟩ ⟨Nat.le_of_ble_eq_true rfl, Nat.le_of_ble_eq_true rfl⟩ ?_
    refine r_goto (tgt := 27) C dX5_door_19 (by decide) ?_
    exact r_iretD C dX5_door_27 rfl rfl

set_option maxRecDepth 100000 in
set_option maxHeartbeats 4000000 in
theorem c_X5_door_f1 {l : Launch} {D : va_G} {ty : Nat → ClassId} {ad : Int → Nat} {N : Int} {σ : Int → va_E} {m : Int} {v s t p x q : Int → Int} {r b : Int} (hm : 0 ≤ m ∧ m + 6 ≤ N)  (hnr : ¬ (0 ≤ r ∧ r < 6)) (hr : -2147483648 ≤ r ∧ r < 2147483648) : gM0 l yX5_door cX5_door 3 (some .int) 3 69 [.ref (ad m), .int (gI r), .int (gI b)] D ty ad N (mput ad ty σ m (v) (s) (t) (p) (x) (q)) (some (.int (gI 0))) (mput ad ty σ m (up v 6 1) (s) (t) (p) (x) (q)) := by
  refine gMet_of [some (.ref (ad m)), some (.int (gI r)), some (.int (gI b))] (by decide +kernel) rfl (Nat.le_of_ble_eq_true rfl) rfl ?_
  intro X hl hD hty C hini
  subst hl hD hty
  refine r_aload_n C dX5_door_0 rfl rfl ?_
  refine r_iconst C dX5_door_1 ?_
  refine mm_put (j := 6) C flX5_25 dX5_door_2 hm (by decide) rfl rfl rfl rfl ?_
  try rw [up_up]
  refine r_iload_n C dX5_door_5 rfl rfl ?_
  refine r_cS C cwX5_63 (c_X5_isRoom (by omega)) dX5_door_6 rfl rfl rfl (Nat.le_of_ble_eq_true rfl) ⟨Nat.le_of_ble_eq_true rfl, Nat.le_of_ble_eq_true rfl⟩ ⟨Nat.le_of_ble_eq_true rfl, Nat.le_of_ble_eq_true rfl⟩ ?_
  refine r_ifb_eq (tgt := 22) C dX5_door_9 (by decide) (fun h9 => ?_) (fun h9 => ?_)
  · refine r_aload_n C dX5_door_22 rfl rfl ?_
    refine r_iconst C dX5_door_23 ?_
    refine r_cV C cwX5_44 (c_X5_fails hm) dX5_door_24 rfl (by omega) mput_0 rfl rfl rfl (Nat.le_of_ble_eq_true rfl) ⟨Nat.le_of_ble_eq_true rfl, Nat.le_of_ble_eq_true rfl⟩ ⟨Nat.le_of_ble_eq_true rfl, Nat.le_of_ble_eq_true rfl⟩ ?_
    exact r_iretD C dX5_door_27 rfl (by rw [up_up])
  · exact absurd h9 (by omega)

set_option maxRecDepth 100000 in
set_option maxHeartbeats 4000000 in
theorem c_X5_shield {l : Launch} {D : va_G} {ty : Nat → ClassId} {ad : Int → Nat} {N : Int} {σ : Int → va_E} {m : Int} {v s t p x q : Int → Int} {r b : Int} (hm : 0 ≤ m ∧ m + 6 ≤ N) (hk6 : 0 ≤ v 3 ∧ v 3 ≤ 6) (hr : 0 ≤ r ∧ r < 6) (hb : b = 0 ∨ b = 1) : gM0 l yX5_shield cX5_shield 3 (some .int) 3 69 [.ref (ad m), .int (gI r), .int (gI b)] D ty ad N (mput ad ty σ m (v) (s) (t) (p) (x) (q)) (some (.int (gI (rm s r 3)))) (mput ad ty σ m (up (up v 6 0) 3 (pshN (v 3))) (up s (9 + 15 * r + 3) b) (t) (pkP (v 3) p s) (x) (q)) := by
  refine gMet_of [some (.ref (ad m)), some (.int (gI r)), some (.int (gI b))] (by decide +kernel) rfl (Nat.le_of_ble_eq_true rfl) rfl ?_
  intro X hl hD hty C hini
  subst hl hD hty
  refine r_aload_n C dX5_shield_0 rfl rfl ?_
  refine r_iconst C dX5_shield_1 ?_
  refine mm_put (j := 6) C flX5_25 dX5_shield_2 hm (by decide) rfl rfl rfl rfl ?_
  try rw [up_up]
  refine r_iload_n C dX5_shield_5 rfl rfl ?_
  refine r_cS C cwX5_63 (c_X5_isRoom (by omega)) dX5_shield_6 rfl rfl rfl (Nat.le_of_ble_eq_true rfl) ⟨Nat.le_of_ble_eq_true rfl, Nat.le_of_ble_eq_true rfl⟩ ⟨Nat.le_of_ble_eq_true rfl, Nat.le_of_ble_eq_true rfl⟩ ?_
  refine r_ifb_eq (tgt := 22) C dX5_shield_9 (by decide) (fun h9 => ?_) (fun h9 => ?_)
  · exact absurd hr (by omega)
  · refine r_aload_n C dX5_shield_12 rfl rfl ?_
    refine r_iload_n C dX5_shield_13 rfl rfl ?_
    refine r_iconst C dX5_shield_14 ?_
    refine r_iload_n C dX5_shield_15 rfl rfl ?_
    refine r_cV C cwX5_83 (c_X5_switches hm (by first | omega | (simp only [up_ap, Int.reduceEq, reduceIte]; omega)) (by omega) (by omega) hb) dX5_shield_16 rfl (by omega) mput_0 rfl rfl rfl (Nat.le_of_ble_eq_true rfl) ⟨Nat.le_of_ble_eq_true rfl, Nat.le_of_ble_eq_true rfl⟩ ⟨Nat.le_of_ble_eq_true rfl, Nat.le_of_ble_eq_true rfl⟩ ?_
    refine r_goto (tgt := 27) C dX5_shield_19 (by decide) ?_
    exact r_iretD C dX5_shield_27 rfl rfl

set_option maxRecDepth 100000 in
set_option maxHeartbeats 4000000 in
theorem c_X5_shield_f1 {l : Launch} {D : va_G} {ty : Nat → ClassId} {ad : Int → Nat} {N : Int} {σ : Int → va_E} {m : Int} {v s t p x q : Int → Int} {r b : Int} (hm : 0 ≤ m ∧ m + 6 ≤ N)  (hnr : ¬ (0 ≤ r ∧ r < 6)) (hr : -2147483648 ≤ r ∧ r < 2147483648) : gM0 l yX5_shield cX5_shield 3 (some .int) 3 69 [.ref (ad m), .int (gI r), .int (gI b)] D ty ad N (mput ad ty σ m (v) (s) (t) (p) (x) (q)) (some (.int (gI 0))) (mput ad ty σ m (up v 6 1) (s) (t) (p) (x) (q)) := by
  refine gMet_of [some (.ref (ad m)), some (.int (gI r)), some (.int (gI b))] (by decide +kernel) rfl (Nat.le_of_ble_eq_true rfl) rfl ?_
  intro X hl hD hty C hini
  subst hl hD hty
  refine r_aload_n C dX5_shield_0 rfl rfl ?_
  refine r_iconst C dX5_shield_1 ?_
  refine mm_put (j := 6) C flX5_25 dX5_shield_2 hm (by decide) rfl rfl rfl rfl ?_
  try rw [up_up]
  refine r_iload_n C dX5_shield_5 rfl rfl ?_
  refine r_cS C cwX5_63 (c_X5_isRoom (by omega)) dX5_shield_6 rfl rfl rfl (Nat.le_of_ble_eq_true rfl) ⟨Nat.le_of_ble_eq_true rfl, Nat.le_of_ble_eq_true rfl⟩ ⟨Nat.le_of_ble_eq_true rfl, Nat.le_of_ble_eq_true rfl⟩ ?_
  refine r_ifb_eq (tgt := 22) C dX5_shield_9 (by decide) (fun h9 => ?_) (fun h9 => ?_)
  · refine r_aload_n C dX5_shield_22 rfl rfl ?_
    refine r_iconst C dX5_shield_23 ?_
    refine r_cV C cwX5_44 (c_X5_fails hm) dX5_shield_24 rfl (by omega) mput_0 rfl rfl rfl (Nat.le_of_ble_eq_true rfl) ⟨Nat.le_of_ble_eq_true rfl, Nat.le_of_ble_eq_true rfl⟩ ⟨Nat.le_of_ble_eq_true rfl, Nat.le_of_ble_eq_true rfl⟩ ?_
    exact r_iretD C dX5_shield_27 rfl (by rw [up_up])
  · exact absurd h9 (by omega)

set_option maxRecDepth 100000 in
set_option maxHeartbeats 4000000 in
theorem c_X5_draught {l : Launch} {D : va_G} {ty : Nat → ClassId} {ad : Int → Nat} {N : Int} {σ : Int → va_E} {m : Int} {v s t p x q : Int → Int} {r c : Int} (hm : 0 ≤ m ∧ m + 6 ≤ N) (hk6 : 0 ≤ v 3 ∧ v 3 ≤ 6) (hs : okS s) (hr : 0 ≤ r ∧ r < 6) (ht : 1 ≤ c ∧ c ≤ 6) : gM0 l yX5_draught cX5_draught 3 (some .int) 3 70 [.ref (ad m), .int (gI r), .int (gI c)] D ty ad N (mput ad ty σ m (v) (s) (t) (p) (x) (q)) (some (.int (gI (cbF (draS s r c) r (blown (draS s r c)))))) (mput ad ty σ m (up (up v 6 0) 3 (pshN (v 3))) (draS s r c) (t) (pkP (v 3) p s) (x) (q)) := by
  refine gMet_of [some (.ref (ad m)), some (.int (gI r)), some (.int (gI c))] (by decide +kernel) rfl (Nat.le_of_ble_eq_true rfl) rfl ?_
  intro X hl hD hty C hini
  subst hl hD hty
  have hs2 := okS_dra hs hr ht
  refine r_aload_n C dX5_draught_0 rfl rfl ?_
  refine r_iconst C dX5_draught_1 ?_
  refine mm_put (j := 6) C flX5_25 dX5_draught_2 hm (by decide) rfl rfl rfl rfl ?_
  try rw [up_up]
  refine r_iload_n C dX5_draught_5 rfl rfl ?_
  refine r_cS C cwX5_63 (c_X5_isRoom (by omega)) dX5_draught_6 rfl rfl rfl (Nat.le_of_ble_eq_true rfl) ⟨Nat.le_of_ble_eq_true rfl, Nat.le_of_ble_eq_true rfl⟩ ⟨Nat.le_of_ble_eq_true rfl, Nat.le_of_ble_eq_true rfl⟩ ?_
  refine r_ifb_ne (tgt := 18) C dX5_draught_9 (by decide) (fun h9 => ?_) (fun h9 => ?_)
  · refine r_iload_n C dX5_draught_18 rfl rfl ?_
    refine r_iconst C dX5_draught_19 ?_
    refine r_bipush C dX5_draught_20 (by decide) ?_
    refine r_cS C cwX5_29 (c_X5_in (by omega) (by omega) (by omega)) dX5_draught_22 rfl rfl rfl (Nat.le_of_ble_eq_true rfl) ⟨Nat.le_of_ble_eq_true rfl, Nat.le_of_ble_eq_true rfl⟩ ⟨Nat.le_of_ble_eq_true rfl, Nat.le_of_ble_eq_true rfl⟩ ?_
    refine r_ifb_ne (tgt := 34) C dX5_draught_25 (by decide) (fun h25 => ?_) (fun h25 => ?_)
    · refine r_aload_n C dX5_draught_34 rfl rfl ?_
      refine r_cVv C cwX5_70 (c_X5_keepsState hm (by first | omega | (simp only [up_ap, Int.reduceEq, reduceIte]; omega))) dX5_draught_35 rfl (by omega) mput_0 rfl rfl rfl (Nat.le_of_ble_eq_true rfl) ⟨Nat.le_of_ble_eq_true rfl, Nat.le_of_ble_eq_true rfl⟩ ⟨Nat.le_of_ble_eq_true rfl, Nat.le_of_ble_eq_true rfl⟩ ?_
      refine r_aload_n C dX5_draught_38 rfl rfl ?_
      refine mm_get C flX5_7 dX5_draught_39 hm rfl ?_
      refine r_bipush C dX5_draught_42 (by decide) ?_
      refine r_iload_n C dX5_draught_44 rfl rfl ?_
      refine r_iast C dX5_draught_45 (by omega) mput_1 (by omega) (by omega) ?_
      rw [mput_u1]
      refine r_aload_n C dX5_draught_46 rfl rfl ?_
      refine mm_get C flX5_7 dX5_draught_47 hm rfl ?_
      refine r_bipush C dX5_draught_50 (by decide) ?_
      refine r_iload_n C dX5_draught_52 rfl rfl ?_
      refine r_iast C dX5_draught_53 (by omega) mput_1 (by omega) (by omega) ?_
      rw [mput_u1]
      refine r_aload_n C dX5_draught_54 rfl rfl ?_
      refine mm_get C flX5_7 dX5_draught_55 hm rfl ?_
      refine r_iload_n C dX5_draught_58 rfl rfl ?_
      refine r_iload_n C dX5_draught_59 rfl rfl ?_
      refine r_cS C cwX5_87 (c_X5_blows (a := m + 1) (d := r) (t := c) (s := draS s r c) (by omega) mput_1 hs2 rfl rfl (by omega)) dX5_draught_60 rfl rfl rfl (Nat.le_of_ble_eq_true rfl) ⟨Nat.le_of_ble_eq_true rfl, Nat.le_of_ble_eq_true rfl⟩ ⟨Nat.le_of_ble_eq_true rfl, Nat.le_of_ble_eq_true rfl⟩ ?_
      exact r_iretD C dX5_draught_63 rfl rfl
    · exact absurd ht (by omega)
  · exact absurd hr (by omega)

set_option maxRecDepth 100000 in
set_option maxHeartbeats 4000000 in
theorem c_X5_draught_f1 {l : Launch} {D : va_G} {ty : Nat → ClassId} {ad : Int → Nat} {N : Int} {σ : Int → va_E} {m : Int} {v s t p x q : Int → Int} {r c : Int} (hm : 0 ≤ m ∧ m + 6 ≤ N)  (hnr : ¬ (0 ≤ r ∧ r < 6)) (hr : -2147483648 ≤ r ∧ r < 2147483648) : gM0 l yX5_draught cX5_draught 3 (some .int) 3 70 [.ref (ad m), .int (gI r), .int (gI c)] D ty ad N (mput ad ty σ m (v) (s) (t) (p) (x) (q)) (some (.int (gI 0))) (mput ad ty σ m (up v 6 1) (s) (t) (p) (x) (q)) := by
  refine gMet_of [some (.ref (ad m)), some (.int (gI r)), some (.int (gI c))] (by decide +kernel) rfl (Nat.le_of_ble_eq_true rfl) rfl ?_
  intro X hl hD hty C hini
  subst hl hD hty
  refine r_aload_n C dX5_draught_0 rfl rfl ?_
  refine r_iconst C dX5_draught_1 ?_
  refine mm_put (j := 6) C flX5_25 dX5_draught_2 hm (by decide) rfl rfl rfl rfl ?_
  try rw [up_up]
  refine r_iload_n C dX5_draught_5 rfl rfl ?_
  refine r_cS C cwX5_63 (c_X5_isRoom (by omega)) dX5_draught_6 rfl rfl rfl (Nat.le_of_ble_eq_true rfl) ⟨Nat.le_of_ble_eq_true rfl, Nat.le_of_ble_eq_true rfl⟩ ⟨Nat.le_of_ble_eq_true rfl, Nat.le_of_ble_eq_true rfl⟩ ?_
  refine r_ifb_ne (tgt := 18) C dX5_draught_9 (by decide) (fun h9 => ?_) (fun h9 => ?_)
  · exact absurd h9 (by omega)
  · refine r_aload_n C dX5_draught_12 rfl rfl ?_
    refine r_iconst C dX5_draught_13 ?_
    refine r_cV C cwX5_44 (c_X5_fails hm) dX5_draught_14 rfl (by omega) mput_0 rfl rfl rfl (Nat.le_of_ble_eq_true rfl) ⟨Nat.le_of_ble_eq_true rfl, Nat.le_of_ble_eq_true rfl⟩ ⟨Nat.le_of_ble_eq_true rfl, Nat.le_of_ble_eq_true rfl⟩ ?_
    exact r_iretD C dX5_draught_17 rfl (by rw [up_up])

set_option maxRecDepth 100000 in
set_option maxHeartbeats 4000000 in
theorem c_X5_draught_f2 {l : Launch} {D : va_G} {ty : Nat → ClassId} {ad : Int → Nat} {N : Int} {σ : Int → va_E} {m : Int} {v s t p x q : Int → Int} {r c : Int} (hm : 0 ≤ m ∧ m + 6 ≤ N)  (hr : 0 ≤ r ∧ r < 6) (hnt : ¬ (1 ≤ c ∧ c ≤ 6)) (hc : -2147483648 ≤ c ∧ c < 2147483648) : gM0 l yX5_draught cX5_draught 3 (some .int) 3 70 [.ref (ad m), .int (gI r), .int (gI c)] D ty ad N (mput ad ty σ m (v) (s) (t) (p) (x) (q)) (some (.int (gI 0))) (mput ad ty σ m (up v 6 2) (s) (t) (p) (x) (q)) := by
  refine gMet_of [some (.ref (ad m)), some (.int (gI r)), some (.int (gI c))] (by decide +kernel) rfl (Nat.le_of_ble_eq_true rfl) rfl ?_
  intro X hl hD hty C hini
  subst hl hD hty
  refine r_aload_n C dX5_draught_0 rfl rfl ?_
  refine r_iconst C dX5_draught_1 ?_
  refine mm_put (j := 6) C flX5_25 dX5_draught_2 hm (by decide) rfl rfl rfl rfl ?_
  try rw [up_up]
  refine r_iload_n C dX5_draught_5 rfl rfl ?_
  refine r_cS C cwX5_63 (c_X5_isRoom (by omega)) dX5_draught_6 rfl rfl rfl (Nat.le_of_ble_eq_true rfl) ⟨Nat.le_of_ble_eq_true rfl, Nat.le_of_ble_eq_true rfl⟩ ⟨Nat.le_of_ble_eq_true rfl, Nat.le_of_ble_eq_true rfl⟩ ?_
  refine r_ifb_ne (tgt := 18) C dX5_draught_9 (by decide) (fun h9 => ?_) (fun h9 => ?_)
  · refine r_iload_n C dX5_draught_18 rfl rfl ?_
    refine r_iconst C dX5_draught_19 ?_
    refine r_bipush C dX5_draught_20 (by decide) ?_
    refine r_cS C cwX5_29 (c_X5_in (by omega) (by omega) (by omega)) dX5_draught_22 rfl rfl rfl (Nat.le_of_ble_eq_true rfl) ⟨Nat.le_of_ble_eq_true rfl, Nat.le_of_ble_eq_true rfl⟩ ⟨Nat.le_of_ble_eq_true rfl, Nat.le_of_ble_eq_true rfl⟩ ?_
    refine r_ifb_ne (tgt := 34) C dX5_draught_25 (by decide) (fun h25 => ?_) (fun h25 => ?_)
    · exact absurd h25 (by omega)
    · refine r_aload_n C dX5_draught_28 rfl rfl ?_
      refine r_iconst C dX5_draught_29 ?_
      refine r_cV C cwX5_44 (c_X5_fails hm) dX5_draught_30 rfl (by omega) mput_0 rfl rfl rfl (Nat.le_of_ble_eq_true rfl) ⟨Nat.le_of_ble_eq_true rfl, Nat.le_of_ble_eq_true rfl⟩ ⟨Nat.le_of_ble_eq_true rfl, Nat.le_of_ble_eq_true rfl⟩ ?_
      exact r_iretD C dX5_draught_33 rfl (by rw [up_up])
  · exact absurd hr (by omega)

set_option maxRecDepth 100000 in
set_option maxHeartbeats 4000000 in
theorem c_X5_set {l : Launch} {D : va_G} {ty : Nat → ClassId} {ad : Int → Nat} {N : Int} {σ : Int → va_E} {m : Int} {v s t p x q : Int → Int} {z : Int} (hm : 0 ≤ m ∧ m + 6 ≤ N) (hk6 : 0 ≤ v 3 ∧ v 3 ≤ 6) (hz : 1 ≤ z ∧ z ≤ 50) : gM0 l yX5_set cX5_set 3 (some .int) 2 45 [.ref (ad m), .int (gI z)] D ty ad N (mput ad ty σ m (v) (s) (t) (p) (x) (q)) (some (.int (gI (s 0)))) (mput ad ty σ m (up (up v 6 0) 3 (pshN (v 3))) (up s 0 z) (t) (pkP (v 3) p s) (x) (q)) := by
  refine gMet_of [some (.ref (ad m)), some (.int (gI z)), none] (by decide +kernel) rfl (Nat.le_of_ble_eq_true rfl) rfl ?_
  intro X hl hD hty C hini
  subst hl hD hty
  refine r_aload_n C dX5_set_0 rfl rfl ?_
  refine r_iconst C dX5_set_1 ?_
  refine mm_put (j := 6) C flX5_25 dX5_set_2 hm (by decide) rfl rfl rfl rfl ?_
  try rw [up_up]
  refine r_iload_n C dX5_set_5 rfl rfl ?_
  refine r_iconst C dX5_set_6 ?_
  refine r_bipush C dX5_set_7 (by decide) ?_
  refine r_cS C cwX5_29 (c_X5_in (by omega) (by omega) (by omega)) dX5_set_9 rfl rfl rfl (Nat.le_of_ble_eq_true rfl) ⟨Nat.le_of_ble_eq_true rfl, Nat.le_of_ble_eq_true rfl⟩ ⟨Nat.le_of_ble_eq_true rfl, Nat.le_of_ble_eq_true rfl⟩ ?_
  refine r_ifb_ne (tgt := 21) C dX5_set_12 (by decide) (fun h12 => ?_) (fun h12 => ?_)
  · refine r_aload_n C dX5_set_21 rfl rfl ?_
    refine r_cVv C cwX5_70 (c_X5_keepsState hm (by first | omega | (simp only [up_ap, Int.reduceEq, reduceIte]; omega))) dX5_set_22 rfl (by omega) mput_0 rfl rfl rfl (Nat.le_of_ble_eq_true rfl) ⟨Nat.le_of_ble_eq_true rfl, Nat.le_of_ble_eq_true rfl⟩ ⟨Nat.le_of_ble_eq_true rfl, Nat.le_of_ble_eq_true rfl⟩ ?_
    refine r_aload_n C dX5_set_25 rfl rfl ?_
    refine mm_get C flX5_7 dX5_set_26 hm rfl ?_
    refine r_iconst C dX5_set_29 ?_
    refine r_iald C dX5_set_30 (by omega) mput_1 (by omega) (by omega) ?_
    refine r_istore_n C dX5_set_31 rfl (Nat.le_of_ble_eq_true rfl) rfl ?_
    dsimp only [List.set]
    refine r_aload_n C dX5_set_32 rfl rfl ?_
    refine mm_get C flX5_7 dX5_set_33 hm rfl ?_
    refine r_iconst C dX5_set_36 ?_
    refine r_iload_n C dX5_set_37 rfl rfl ?_
    refine r_iast C dX5_set_38 (by omega) mput_1 (by omega) (by omega) ?_
    rw [mput_u1]
    refine r_iload_n C dX5_set_39 rfl rfl ?_
    exact r_iretD C dX5_set_40 rfl rfl
  · exact absurd hz (by omega)

set_option maxRecDepth 100000 in
set_option maxHeartbeats 4000000 in
theorem c_X5_set_f1 {l : Launch} {D : va_G} {ty : Nat → ClassId} {ad : Int → Nat} {N : Int} {σ : Int → va_E} {m : Int} {v s t p x q : Int → Int} {z : Int} (hm : 0 ≤ m ∧ m + 6 ≤ N)  (hz : ¬ (1 ≤ z ∧ z ≤ 50)) (hz : -2147483648 ≤ z ∧ z < 2147483648) : gM0 l yX5_set cX5_set 3 (some .int) 2 45 [.ref (ad m), .int (gI z)] D ty ad N (mput ad ty σ m (v) (s) (t) (p) (x) (q)) (some (.int (gI 0))) (mput ad ty σ m (up v 6 1) (s) (t) (p) (x) (q)) := by
  refine gMet_of [some (.ref (ad m)), some (.int (gI z)), none] (by decide +kernel) rfl (Nat.le_of_ble_eq_true rfl) rfl ?_
  intro X hl hD hty C hini
  subst hl hD hty
  refine r_aload_n C dX5_set_0 rfl rfl ?_
  refine r_iconst C dX5_set_1 ?_
  refine mm_put (j := 6) C flX5_25 dX5_set_2 hm (by decide) rfl rfl rfl rfl ?_
  try rw [up_up]
  refine r_iload_n C dX5_set_5 rfl rfl ?_
  refine r_iconst C dX5_set_6 ?_
  refine r_bipush C dX5_set_7 (by decide) ?_
  refine r_cS C cwX5_29 (c_X5_in (by omega) (by omega) (by omega)) dX5_set_9 rfl rfl rfl (Nat.le_of_ble_eq_true rfl) ⟨Nat.le_of_ble_eq_true rfl, Nat.le_of_ble_eq_true rfl⟩ ⟨Nat.le_of_ble_eq_true rfl, Nat.le_of_ble_eq_true rfl⟩ ?_
  refine r_ifb_ne (tgt := 21) C dX5_set_12 (by decide) (fun h12 => ?_) (fun h12 => ?_)
  · exact absurd h12 (by omega)
  · refine r_aload_n C dX5_set_15 rfl rfl ?_
    refine r_iconst C dX5_set_16 ?_
    refine r_cV C cwX5_44 (c_X5_fails hm) dX5_set_17 rfl (by omega) mput_0 rfl rfl rfl (Nat.le_of_ble_eq_true rfl) ⟨Nat.le_of_ble_eq_true rfl, Nat.le_of_ble_eq_true rfl⟩ ⟨Nat.le_of_ble_eq_true rfl, Nat.le_of_ble_eq_true rfl⟩ ?_
    exact r_iretD C dX5_set_20 rfl (by rw [up_up])

set_option maxRecDepth 100000 in
set_option maxHeartbeats 4000000 in
theorem c_X5_keep {l : Launch} {D : va_G} {ty : Nat → ClassId} {ad : Int → Nat} {N : Int} {σ : Int → va_E} {m : Int} {v s t p x q : Int → Int} {r key : Int} (hm : 0 ≤ m ∧ m + 6 ≤ N) (hk6 : 0 ≤ v 3 ∧ v 3 ≤ 6) (hs : okS s) (hr : 0 ≤ r ∧ r < 6) (hkey : 0 ≤ key ∧ key ≤ 99) (hmay : mayK s r key) : gM0 l yX5_keep cX5_keep 3 (some .int) 3 66 [.ref (ad m), .int (gI r), .int (gI key)] D ty ad N (mput ad ty σ m (v) (s) (t) (p) (x) (q)) (some (.int (gI (rm s r 6 + 1)))) (mput ad ty σ m (up (up v 6 0) 3 (pshN (v 3))) (keepS s r key) (t) (pkP (v 3) p s) (x) (q)) := by
  refine gMet_of [some (.ref (ad m)), some (.int (gI r)), some (.int (gI key))] (by decide +kernel) rfl (Nat.le_of_ble_eq_true rfl) rfl ?_
  intro X hl hD hty C hini
  subst hl hD hty
  have hqm := (hs.rm hr).many
  have hmm := hmay.2
  refine r_aload_n C dX5_keep_0 rfl rfl ?_
  refine r_iconst C dX5_keep_1 ?_
  refine mm_put (j := 6) C flX5_25 dX5_keep_2 hm (by decide) rfl rfl rfl rfl ?_
  try rw [up_up]
  refine r_iload_n C dX5_keep_5 rfl rfl ?_
  refine r_cS C cwX5_63 (c_X5_isRoom (by omega)) dX5_keep_6 rfl rfl rfl (Nat.le_of_ble_eq_true rfl) ⟨Nat.le_of_ble_eq_true rfl, Nat.le_of_ble_eq_true rfl⟩ ⟨Nat.le_of_ble_eq_true rfl, Nat.le_of_ble_eq_true rfl⟩ ?_
  refine r_ifb_ne (tgt := 18) C dX5_keep_9 (by decide) (fun h9 => ?_) (fun h9 => ?_)
  · refine r_iload_n C dX5_keep_18 rfl rfl ?_
    refine r_iconst C dX5_keep_19 ?_
    refine r_bipush C dX5_keep_20 (by decide) ?_
    refine r_cS C cwX5_29 (c_X5_in (by omega) (by omega) (by omega)) dX5_keep_22 rfl rfl rfl (Nat.le_of_ble_eq_true rfl) ⟨Nat.le_of_ble_eq_true rfl, Nat.le_of_ble_eq_true rfl⟩ ⟨Nat.le_of_ble_eq_true rfl, Nat.le_of_ble_eq_true rfl⟩ ?_
    refine r_ifb_ne (tgt := 34) C dX5_keep_25 (by decide) (fun h25 => ?_) (fun h25 => ?_)
    · refine r_aload_n C dX5_keep_34 rfl rfl ?_
      refine mm_get C flX5_7 dX5_keep_35 hm rfl ?_
      refine r_iload_n C dX5_keep_38 rfl rfl ?_
      refine r_iload_n C dX5_keep_39 rfl rfl ?_
      refine r_cS C cwX5_104 (c_X5_mayKeep (by omega) mput_1 hs (by omega) (by omega)) dX5_keep_40 rfl rfl rfl (Nat.le_of_ble_eq_true rfl) ⟨Nat.le_of_ble_eq_true rfl, Nat.le_of_ble_eq_true rfl⟩ ⟨Nat.le_of_ble_eq_true rfl, Nat.le_of_ble_eq_true rfl⟩ ?_
      refine r_ifb_ne (tgt := 52) C dX5_keep_43 (by decide) (fun h43 => ?_) (fun h43 => ?_)
      · refine r_aload_n C dX5_keep_52 rfl rfl ?_
        refine r_cVv C cwX5_70 (c_X5_keepsState hm (by first | omega | (simp only [up_ap, Int.reduceEq, reduceIte]; omega))) dX5_keep_53 rfl (by omega) mput_0 rfl rfl rfl (Nat.le_of_ble_eq_true rfl) ⟨Nat.le_of_ble_eq_true rfl, Nat.le_of_ble_eq_true rfl⟩ ⟨Nat.le_of_ble_eq_true rfl, Nat.le_of_ble_eq_true rfl⟩ ?_
        refine r_aload_n C dX5_keep_56 rfl rfl ?_
        refine mm_get C flX5_7 dX5_keep_57 hm rfl ?_
        refine r_iload_n C dX5_keep_60 rfl rfl ?_
        refine r_iload_n C dX5_keep_61 rfl rfl ?_
        refine r_cS C cwX5_107 (liftN (c_X5_keeps (by omega) (by omega) (by omega))) dX5_keep_62 rfl rfl rfl (Nat.le_of_ble_eq_true rfl) ⟨Nat.le_of_ble_eq_true rfl, Nat.le_of_ble_eq_true rfl⟩ ⟨Nat.le_of_ble_eq_true rfl, Nat.le_of_ble_eq_true rfl⟩ ?_
        exact r_iretD C dX5_keep_65 rfl rfl
      · exact absurd hmay h43
    · exact absurd hkey (by omega)
  · exact absurd hr (by omega)

set_option maxRecDepth 100000 in
set_option maxHeartbeats 4000000 in
theorem c_X5_keep_f1 {l : Launch} {D : va_G} {ty : Nat → ClassId} {ad : Int → Nat} {N : Int} {σ : Int → va_E} {m : Int} {v s t p x q : Int → Int} {r key : Int} (hm : 0 ≤ m ∧ m + 6 ≤ N)  (hnr : ¬ (0 ≤ r ∧ r < 6)) (hr : -2147483648 ≤ r ∧ r < 2147483648) : gM0 l yX5_keep cX5_keep 3 (some .int) 3 66 [.ref (ad m), .int (gI r), .int (gI key)] D ty ad N (mput ad ty σ m (v) (s) (t) (p) (x) (q)) (some (.int (gI 0))) (mput ad ty σ m (up v 6 1) (s) (t) (p) (x) (q)) := by
  refine gMet_of [some (.ref (ad m)), some (.int (gI r)), some (.int (gI key))] (by decide +kernel) rfl (Nat.le_of_ble_eq_true rfl) rfl ?_
  intro X hl hD hty C hini
  subst hl hD hty
  refine r_aload_n C dX5_keep_0 rfl rfl ?_
  refine r_iconst C dX5_keep_1 ?_
  refine mm_put (j := 6) C flX5_25 dX5_keep_2 hm (by decide) rfl rfl rfl rfl ?_
  try rw [up_up]
  refine r_iload_n C dX5_keep_5 rfl rfl ?_
  refine r_cS C cwX5_63 (c_X5_isRoom (by omega)) dX5_keep_6 rfl rfl rfl (Nat.le_of_ble_eq_true rfl) ⟨Nat.le_of_ble_eq_true rfl, Nat.le_of_ble_eq_true rfl⟩ ⟨Nat.le_of_ble_eq_true rfl, Nat.le_of_ble_eq_true rfl⟩ ?_
  refine r_ifb_ne (tgt := 18) C dX5_keep_9 (by decide) (fun h9 => ?_) (fun h9 => ?_)
  · exact absurd h9 (by omega)
  · refine r_aload_n C dX5_keep_12 rfl rfl ?_
    refine r_iconst C dX5_keep_13 ?_
    refine r_cV C cwX5_44 (c_X5_fails hm) dX5_keep_14 rfl (by omega) mput_0 rfl rfl rfl (Nat.le_of_ble_eq_true rfl) ⟨Nat.le_of_ble_eq_true rfl, Nat.le_of_ble_eq_true rfl⟩ ⟨Nat.le_of_ble_eq_true rfl, Nat.le_of_ble_eq_true rfl⟩ ?_
    exact r_iretD C dX5_keep_17 rfl (by rw [up_up])

set_option maxRecDepth 100000 in
set_option maxHeartbeats 4000000 in
theorem c_X5_keep_f2 {l : Launch} {D : va_G} {ty : Nat → ClassId} {ad : Int → Nat} {N : Int} {σ : Int → va_E} {m : Int} {v s t p x q : Int → Int} {r key : Int} (hm : 0 ≤ m ∧ m + 6 ≤ N)  (hr : 0 ≤ r ∧ r < 6) (hkey : ¬ (0 ≤ key ∧ key ≤ 99)) (hkey : -2147483648 ≤ key ∧ key < 2147483648) : gM0 l yX5_keep cX5_keep 3 (some .int) 3 66 [.ref (ad m), .int (gI r), .int (gI key)] D ty ad N (mput ad ty σ m (v) (s) (t) (p) (x) (q)) (some (.int (gI 0))) (mput ad ty σ m (up v 6 2) (s) (t) (p) (x) (q)) := by
  refine gMet_of [some (.ref (ad m)), some (.int (gI r)), some (.int (gI key))] (by decide +kernel) rfl (Nat.le_of_ble_eq_true rfl) rfl ?_
  intro X hl hD hty C hini
  subst hl hD hty
  refine r_aload_n C dX5_keep_0 rfl rfl ?_
  refine r_iconst C dX5_keep_1 ?_
  refine mm_put (j := 6) C flX5_25 dX5_keep_2 hm (by decide) rfl rfl rfl rfl ?_
  try rw [up_up]
  refine r_iload_n C dX5_keep_5 rfl rfl ?_
  refine r_cS C cwX5_63 (c_X5_isRoom (by omega)) dX5_keep_6 rfl rfl rfl (Nat.le_of_ble_eq_true rfl) ⟨Nat.le_of_ble_eq_true rfl, Nat.le_of_ble_eq_true rfl⟩ ⟨Nat.le_of_ble_eq_true rfl, Nat.le_of_ble_eq_true rfl⟩ ?_
  refine r_ifb_ne (tgt := 18) C dX5_keep_9 (by decide) (fun h9 => ?_) (fun h9 => ?_)
  · refine r_iload_n C dX5_keep_18 rfl rfl ?_
    refine r_iconst C dX5_keep_19 ?_
    refine r_bipush C dX5_keep_20 (by decide) ?_
    refine r_cS C cwX5_29 (c_X5_in (by omega) (by omega) (by omega)) dX5_keep_22 rfl rfl rfl (Nat.le_of_ble_eq_true rfl) ⟨Nat.le_of_ble_eq_true rfl, Nat.le_of_ble_eq_true rfl⟩ ⟨Nat.le_of_ble_eq_true rfl, Nat.le_of_ble_eq_true rfl⟩ ?_
    refine r_ifb_ne (tgt := 34) C dX5_keep_25 (by decide) (fun h25 => ?_) (fun h25 => ?_)
    · exact absurd h25 (by omega)
    · refine r_aload_n C dX5_keep_28 rfl rfl ?_
      refine r_iconst C dX5_keep_29 ?_
      refine r_cV C cwX5_44 (c_X5_fails hm) dX5_keep_30 rfl (by omega) mput_0 rfl rfl rfl (Nat.le_of_ble_eq_true rfl) ⟨Nat.le_of_ble_eq_true rfl, Nat.le_of_ble_eq_true rfl⟩ ⟨Nat.le_of_ble_eq_true rfl, Nat.le_of_ble_eq_true rfl⟩ ?_
      exact r_iretD C dX5_keep_33 rfl (by rw [up_up])
  · exact absurd hr (by omega)

set_option maxRecDepth 100000 in
set_option maxHeartbeats 4000000 in
theorem c_X5_keep_f3 {l : Launch} {D : va_G} {ty : Nat → ClassId} {ad : Int → Nat} {N : Int} {σ : Int → va_E} {m : Int} {v s t p x q : Int → Int} {r key : Int} (hm : 0 ≤ m ∧ m + 6 ≤ N)  (hs : okS s) (hr : 0 ≤ r ∧ r < 6) (hkey : 0 ≤ key ∧ key ≤ 99) (hmay : ¬ mayK s r key) : gM0 l yX5_keep cX5_keep 3 (some .int) 3 66 [.ref (ad m), .int (gI r), .int (gI key)] D ty ad N (mput ad ty σ m (v) (s) (t) (p) (x) (q)) (some (.int (gI 0))) (mput ad ty σ m (up v 6 3) (s) (t) (p) (x) (q)) := by
  refine gMet_of [some (.ref (ad m)), some (.int (gI r)), some (.int (gI key))] (by decide +kernel) rfl (Nat.le_of_ble_eq_true rfl) rfl ?_
  intro X hl hD hty C hini
  subst hl hD hty
  refine r_aload_n C dX5_keep_0 rfl rfl ?_
  refine r_iconst C dX5_keep_1 ?_
  refine mm_put (j := 6) C flX5_25 dX5_keep_2 hm (by decide) rfl rfl rfl rfl ?_
  try rw [up_up]
  refine r_iload_n C dX5_keep_5 rfl rfl ?_
  refine r_cS C cwX5_63 (c_X5_isRoom (by omega)) dX5_keep_6 rfl rfl rfl (Nat.le_of_ble_eq_true rfl) ⟨Nat.le_of_ble_eq_true rfl, Nat.le_of_ble_eq_true rfl⟩ ⟨Nat.le_of_ble_eq_true rfl, Nat.le_of_ble_eq_true rfl⟩ ?_
  refine r_ifb_ne (tgt := 18) C dX5_keep_9 (by decide) (fun h9 => ?_) (fun h9 => ?_)
  · refine r_iload_n C dX5_keep_18 rfl rfl ?_
    refine r_iconst C dX5_keep_19 ?_
    refine r_bipush C dX5_keep_20 (by decide) ?_
    refine r_cS C cwX5_29 (c_X5_in (by omega) (by omega) (by omega)) dX5_keep_22 rfl rfl rfl (Nat.le_of_ble_eq_true rfl) ⟨Nat.le_of_ble_eq_true rfl, Nat.le_of_ble_eq_true rfl⟩ ⟨Nat.le_of_ble_eq_true rfl, Nat.le_of_ble_eq_true rfl⟩ ?_
    refine r_ifb_ne (tgt := 34) C dX5_keep_25 (by decide) (fun h25 => ?_) (fun h25 => ?_)
    · refine r_aload_n C dX5_keep_34 rfl rfl ?_
      refine mm_get C flX5_7 dX5_keep_35 hm rfl ?_
      refine r_iload_n C dX5_keep_38 rfl rfl ?_
      refine r_iload_n C dX5_keep_39 rfl rfl ?_
      refine r_cS C cwX5_104 (c_X5_mayKeep (by omega) mput_1 hs (by omega) (by omega)) dX5_keep_40 rfl rfl rfl (Nat.le_of_ble_eq_true rfl) ⟨Nat.le_of_ble_eq_true rfl, Nat.le_of_ble_eq_true rfl⟩ ⟨Nat.le_of_ble_eq_true rfl, Nat.le_of_ble_eq_true rfl⟩ ?_
      refine r_ifb_ne (tgt := 52) C dX5_keep_43 (by decide) (fun h43 => ?_) (fun h43 => ?_)
      · exact absurd h43 hmay
      · refine r_aload_n C dX5_keep_46 rfl rfl ?_
        refine r_iconst C dX5_keep_47 ?_
        refine r_cV C cwX5_44 (c_X5_fails hm) dX5_keep_48 rfl (by omega) mput_0 rfl rfl rfl (Nat.le_of_ble_eq_true rfl) ⟨Nat.le_of_ble_eq_true rfl, Nat.le_of_ble_eq_true rfl⟩ ⟨Nat.le_of_ble_eq_true rfl, Nat.le_of_ble_eq_true rfl⟩ ?_
        exact r_iretD C dX5_keep_51 rfl (by rw [up_up])
    · exact absurd hkey (by omega)
  · exact absurd hr (by omega)

set_option maxRecDepth 100000 in
set_option maxHeartbeats 4000000 in
theorem c_X5_read_f1 {l : Launch} {D : va_G} {ty : Nat → ClassId} {ad : Int → Nat} {N : Int} {σ : Int → va_E} {m : Int} {v s t p x q : Int → Int} {key : Int} (hm : 0 ≤ m ∧ m + 6 ≤ N)  (hkey : ¬ (0 ≤ key ∧ key ≤ 99)) (hkey : -2147483648 ≤ key ∧ key < 2147483648) : gM0 l yX5_read cX5_read 5 (some .int) 5 115 [.ref (ad m), .int (gI key)] D ty ad N (mput ad ty σ m (v) (s) (t) (p) (x) (q)) (some (.int (gI 0))) (mput ad ty σ m (up v 6 1) (s) (t) (p) (x) (q)) := by
  refine gMet_of [some (.ref (ad m)), some (.int (gI key)), none, none, none] (by decide +kernel) rfl (Nat.le_of_ble_eq_true rfl) rfl ?_
  intro X hl hD hty C hini
  subst hl hD hty
  refine r_aload_n C dX5_read_0 rfl rfl ?_
  refine r_iconst C dX5_read_1 ?_
  refine mm_put (j := 6) C flX5_25 dX5_read_2 hm (by decide) rfl rfl rfl rfl ?_
  try rw [up_up]
  refine r_iload_n C dX5_read_5 rfl rfl ?_
  refine r_iconst C dX5_read_6 ?_
  refine r_bipush C dX5_read_7 (by decide) ?_
  refine r_cS C cwX5_29 (c_X5_in (by omega) (by omega) (by omega)) dX5_read_9 rfl rfl rfl (Nat.le_of_ble_eq_true rfl) ⟨Nat.le_of_ble_eq_true rfl, Nat.le_of_ble_eq_true rfl⟩ ⟨Nat.le_of_ble_eq_true rfl, Nat.le_of_ble_eq_true rfl⟩ ?_
  refine r_ifb_ne (tgt := 21) C dX5_read_12 (by decide) (fun h12 => ?_) (fun h12 => ?_)
  · exact absurd h12 (by omega)
  · refine r_aload_n C dX5_read_15 rfl rfl ?_
    refine r_iconst C dX5_read_16 ?_
    refine r_cV C cwX5_44 (c_X5_fails hm) dX5_read_17 rfl (by omega) mput_0 rfl rfl rfl (Nat.le_of_ble_eq_true rfl) ⟨Nat.le_of_ble_eq_true rfl, Nat.le_of_ble_eq_true rfl⟩ ⟨Nat.le_of_ble_eq_true rfl, Nat.le_of_ble_eq_true rfl⟩ ?_
    exact r_iretD C dX5_read_20 rfl (by rw [up_up])

set_option maxRecDepth 100000 in
set_option maxHeartbeats 4000000 in
theorem c_X5_read_a {l : Launch} {D : va_G} {ty : Nat → ClassId} {ad : Int → Nat} {N : Int} {σ : Int → va_E} {m : Int} {v s t p x q : Int → Int} {key : Int} (hm : 0 ≤ m ∧ m + 6 ≤ N) (hk6 : 0 ≤ v 3 ∧ v 3 ≤ 6) (hs : okS s) (hkey : 0 ≤ key ∧ key ≤ 99) (hno : rof s key = -1) : gM0 l yX5_read cX5_read 5 (some .int) 5 115 [.ref (ad m), .int (gI key)] D ty ad N (mput ad ty σ m (v) (s) (t) (p) (x) (q)) (some (.int (gI (-1)))) (mput ad ty σ m (up (up v 6 0) 3 (pshN (v 3))) (s) (t) (pkP (v 3) p s) (x) (q)) := by
  refine gMet_of [some (.ref (ad m)), some (.int (gI key)), none, none, none] (by decide +kernel) rfl (Nat.le_of_ble_eq_true rfl) rfl ?_
  intro X hl hD hty C hini
  subst hl hD hty
  have hfn := fnd_rng hs key
  refine r_aload_n C dX5_read_0 rfl rfl ?_
  refine r_iconst C dX5_read_1 ?_
  refine mm_put (j := 6) C flX5_25 dX5_read_2 hm (by decide) rfl rfl rfl rfl ?_
  try rw [up_up]
  refine r_iload_n C dX5_read_5 rfl rfl ?_
  refine r_iconst C dX5_read_6 ?_
  refine r_bipush C dX5_read_7 (by decide) ?_
  refine r_cS C cwX5_29 (c_X5_in (by omega) (by omega) (by omega)) dX5_read_9 rfl rfl rfl (Nat.le_of_ble_eq_true rfl) ⟨Nat.le_of_ble_eq_true rfl, Nat.le_of_ble_eq_true rfl⟩ ⟨Nat.le_of_ble_eq_true rfl, Nat.le_of_ble_eq_true rfl⟩ ?_
  refine r_ifb_ne (tgt := 21) C dX5_read_12 (by decide) (fun h12 => ?_) (fun h12 => ?_)
  · refine r_aload_n C dX5_read_21 rfl rfl ?_
    refine r_cVv C cwX5_70 (c_X5_keepsState hm (by first | omega | (simp only [up_ap, Int.reduceEq, reduceIte]; omega))) dX5_read_22 rfl (by omega) mput_0 rfl rfl rfl (Nat.le_of_ble_eq_true rfl) ⟨Nat.le_of_ble_eq_true rfl, Nat.le_of_ble_eq_true rfl⟩ ⟨Nat.le_of_ble_eq_true rfl, Nat.le_of_ble_eq_true rfl⟩ ?_
    refine r_aload_n C dX5_read_25 rfl rfl ?_
    refine mm_get C flX5_7 dX5_read_26 hm rfl ?_
    refine r_iload_n C dX5_read_29 rfl rfl ?_
    refine r_cS C cwX5_100 (c_X5_find (by omega) mput_1 hs (by omega)) dX5_read_30 rfl rfl rfl (Nat.le_of_ble_eq_true rfl) ⟨Nat.le_of_ble_eq_true rfl, Nat.le_of_ble_eq_true rfl⟩ ⟨Nat.le_of_ble_eq_true rfl, Nat.le_of_ble_eq_true rfl⟩ ?_
    refine r_istore_n C dX5_read_33 rfl (Nat.le_of_ble_eq_true rfl) rfl ?_
    dsimp only [List.set]
    refine r_iload_n C dX5_read_34 rfl rfl ?_
    refine r_iconst C dX5_read_35 ?_
    refine r_icmp_ne (tgt := 41) C dX5_read_36 (by decide) (by omega) (by omega) (fun h36 => ?_) (fun h36 => ?_)
    · exact absurd h36 (by omega)
    · refine r_iconst C dX5_read_39 ?_
      exact r_iretD C dX5_read_40 rfl rfl
  · exact absurd hkey h12

set_option maxRecDepth 100000 in
set_option maxHeartbeats 4000000 in
theorem c_X5_read_l {l : Launch} {D : va_G} {ty : Nat → ClassId} {ad : Int → Nat} {N : Int} {σ : Int → va_E} {m : Int} {v s t p x q : Int → Int} {key : Int} (hm : 0 ≤ m ∧ m + 6 ≤ N) (hk6 : 0 ≤ v 3 ∧ v 3 ≤ 6) (hs : okS s) (hkey : 0 ≤ key ∧ key ≤ 99) (hyes : rof s key ≠ -1) (hlit : rm s (rof s key) 1 = 1) : gM0 l yX5_read cX5_read 5 (some .int) 5 115 [.ref (ad m), .int (gI key)] D ty ad N (mput ad ty σ m (v) (s) (t) (p) (x) (q)) (some (.int (gI (rof s key)))) (mput ad ty σ m (up (up v 6 0) 3 (pshN (v 3))) ((bts 1 (up (up s 4 (s 4 + 1)) (9 + 15 * rof s key + 2) 0) 0).1) (t) (pkP (v 3) p s) (x) (q)) := by
  refine gMet_of [some (.ref (ad m)), some (.int (gI key)), none, none, none] (by decide +kernel) rfl (Nat.le_of_ble_eq_true rfl) rfl ?_
  intro X hl hD hty C hini
  subst hl hD hty
  have hfn := fnd_rng hs key
  have hf4 : fnd s key / 4 = rof s key := by omega
  have hqb := (hs.rm (r := rof s key) (by omega)).bur
  refine r_aload_n C dX5_read_0 rfl rfl ?_
  refine r_iconst C dX5_read_1 ?_
  refine mm_put (j := 6) C flX5_25 dX5_read_2 hm (by decide) rfl rfl rfl rfl ?_
  try rw [up_up]
  refine r_iload_n C dX5_read_5 rfl rfl ?_
  refine r_iconst C dX5_read_6 ?_
  refine r_bipush C dX5_read_7 (by decide) ?_
  refine r_cS C cwX5_29 (c_X5_in (by omega) (by omega) (by omega)) dX5_read_9 rfl rfl rfl (Nat.le_of_ble_eq_true rfl) ⟨Nat.le_of_ble_eq_true rfl, Nat.le_of_ble_eq_true rfl⟩ ⟨Nat.le_of_ble_eq_true rfl, Nat.le_of_ble_eq_true rfl⟩ ?_
  refine r_ifb_ne (tgt := 21) C dX5_read_12 (by decide) (fun h12 => ?_) (fun h12 => ?_)
  · refine r_aload_n C dX5_read_21 rfl rfl ?_
    refine r_cVv C cwX5_70 (c_X5_keepsState hm (by first | omega | (simp only [up_ap, Int.reduceEq, reduceIte]; omega))) dX5_read_22 rfl (by omega) mput_0 rfl rfl rfl (Nat.le_of_ble_eq_true rfl) ⟨Nat.le_of_ble_eq_true rfl, Nat.le_of_ble_eq_true rfl⟩ ⟨Nat.le_of_ble_eq_true rfl, Nat.le_of_ble_eq_true rfl⟩ ?_
    refine r_aload_n C dX5_read_25 rfl rfl ?_
    refine mm_get C flX5_7 dX5_read_26 hm rfl ?_
    refine r_iload_n C dX5_read_29 rfl rfl ?_
    refine r_cS C cwX5_100 (c_X5_find (by omega) mput_1 hs (by omega)) dX5_read_30 rfl rfl rfl (Nat.le_of_ble_eq_true rfl) ⟨Nat.le_of_ble_eq_true rfl, Nat.le_of_ble_eq_true rfl⟩ ⟨Nat.le_of_ble_eq_true rfl, Nat.le_of_ble_eq_true rfl⟩ ?_
    refine r_istore_n C dX5_read_33 rfl (Nat.le_of_ble_eq_true rfl) rfl ?_
    dsimp only [List.set]
    refine r_iload_n C dX5_read_34 rfl rfl ?_
    refine r_iconst C dX5_read_35 ?_
    refine r_icmp_ne (tgt := 41) C dX5_read_36 (by decide) (by omega) (by omega) (fun h36 => ?_) (fun h36 => ?_)
    · refine r_iload_n C dX5_read_41 rfl rfl ?_
      refine r_iconst C dX5_read_42 ?_
      refine r_idiv C dX5_read_43 (by omega) (by omega) ?_
      rw [hf4]
      refine r_istore_n C dX5_read_44 rfl (Nat.le_of_ble_eq_true rfl) rfl ?_
      dsimp only [List.set]
      refine r_aload_n C dX5_read_45 rfl rfl ?_
      refine mm_get C flX5_7 dX5_read_46 hm rfl ?_
      refine r_iload_n C dX5_read_49 rfl rfl ?_
      refine r_cS C cwX5_52 (c_X5_isLit (by omega) mput_1 hs (by omega)) dX5_read_50 rfl rfl rfl (Nat.le_of_ble_eq_true rfl) ⟨Nat.le_of_ble_eq_true rfl, Nat.le_of_ble_eq_true rfl⟩ ⟨Nat.le_of_ble_eq_true rfl, Nat.le_of_ble_eq_true rfl⟩ ?_
      refine r_istore C dX5_read_53 (Nat.le_of_ble_eq_true rfl) rfl ?_
      dsimp only [List.set]
      refine r_aload_n C dX5_read_55 rfl rfl ?_
      refine mm_get C flX5_7 dX5_read_56 hm rfl ?_
      refine r_iconst C dX5_read_59 ?_
      refine r_dup2 C dX5_read_60 rfl rfl ?_
      refine r_iald C dX5_read_61 (by omega) mput_1 (by omega) (by omega) ?_
      refine r_iconst C dX5_read_62 ?_
      refine r_iadd C dX5_read_63 ?_
      refine r_iast C dX5_read_64 (by omega) mput_1 (by omega) (by omega) ?_
      rw [mput_u1]
      refine r_aload_n C dX5_read_65 rfl rfl ?_
      refine mm_get C flX5_7 dX5_read_66 hm rfl ?_
      refine r_iconst C dX5_read_69 ?_
      refine r_dup2 C dX5_read_70 rfl rfl ?_
      refine r_iald C dX5_read_71 (by omega) mput_1 (by omega) (by omega) ?_
      rw [up_n (show (5 : Int) ≠ 4 by omega)]
      refine r_iload C dX5_read_72 rfl ?_
      refine r_ifb_eq (tgt := 81) C dX5_read_74 (by decide) (fun h74 => ?_) (fun h74 => ?_)
      · exact absurd hlit h74
      · refine r_iconst C dX5_read_77 ?_
        refine r_goto (tgt := 82) C dX5_read_78 (by decide) ?_
        refine r_iadd C dX5_read_82 ?_
        refine r_iast C dX5_read_83 (by omega) mput_1 (by omega) (by omega) ?_
        rw [mput_u1]
        refine r_aload_n C dX5_read_84 rfl rfl ?_
        refine mm_get C flX5_7 dX5_read_85 hm rfl ?_
        refine r_bipush C dX5_read_88 (by decide) ?_
        refine r_bipush C dX5_read_90 (by decide) ?_
        refine r_iload_n C dX5_read_92 rfl rfl ?_
        refine r_imul C dX5_read_93 ?_
        refine r_iadd C dX5_read_94 ?_
        refine r_iconst C dX5_read_95 ?_
        refine r_iadd C dX5_read_96 ?_
        refine r_iload C dX5_read_97 rfl ?_
        refine r_ifb_eq (tgt := 106) C dX5_read_99 (by decide) (fun h99 => ?_) (fun h99 => ?_)
        · exact absurd hlit h99
        · refine r_iconst C dX5_read_102 ?_
          refine r_goto (tgt := 115) C dX5_read_103 (by decide) ?_
          refine r_iast C dX5_read_115 (by omega) mput_1 (by omega) (by omega) ?_
          rw [mput_u1]
          rw [show s 5 + 0 = s 5 by omega, up_id (f := up s 4 (s 4 + 1)) (k := 5) (v := s 5) (up_n (by omega))]
          refine r_aload_n C dX5_read_116 rfl rfl ?_
          refine mm_get C flX5_7 dX5_read_117 hm rfl ?_
          refine r_iload C dX5_read_120 rfl ?_
          refine r_ifb_eq (tgt := 129) C dX5_read_122 (by decide) (fun h122 => ?_) (fun h122 => ?_)
          · exact absurd hlit h122
          · refine r_iconst C dX5_read_125 ?_
            refine r_goto (tgt := 130) C dX5_read_126 (by decide) ?_
            refine r_cSv C cwX5_110 (liftN (c_X5_beats (c := 1) (by omega) (okS_wick (okS_lo hs (by omega)) (by omega)) (by omega))) dX5_read_130 rfl rfl rfl (Nat.le_of_ble_eq_true rfl) ⟨Nat.le_of_ble_eq_true rfl, Nat.le_of_ble_eq_true rfl⟩ ⟨Nat.le_of_ble_eq_true rfl, Nat.le_of_ble_eq_true rfl⟩ ?_
            refine r_iload_n C dX5_read_133 rfl rfl ?_
            exact r_iretD C dX5_read_134 rfl rfl
    · exact absurd h36 (by omega)
  · exact absurd hkey h12

set_option maxRecDepth 100000 in
set_option maxHeartbeats 4000000 in
theorem c_X5_read_d {l : Launch} {D : va_G} {ty : Nat → ClassId} {ad : Int → Nat} {N : Int} {σ : Int → va_E} {m : Int} {v s t p x q : Int → Int} {key : Int} (hm : 0 ≤ m ∧ m + 6 ≤ N) (hk6 : 0 ≤ v 3 ∧ v 3 ≤ 6) (hs : okS s) (hkey : 0 ≤ key ∧ key ≤ 99) (hyes : rof s key ≠ -1) (hlit : ¬ rm s (rof s key) 1 = 1) : gM0 l yX5_read cX5_read 5 (some .int) 5 115 [.ref (ad m), .int (gI key)] D ty ad N (mput ad ty σ m (v) (s) (t) (p) (x) (q)) (some (.int (gI (rof s key)))) (mput ad ty σ m (up (up v 6 0) 3 (pshN (v 3))) ((bts 3 (up (up s 4 (s 4 + 1)) 5 (s 5 + 1)) 0).1) (t) (pkP (v 3) p s) (x) (q)) := by
  refine gMet_of [some (.ref (ad m)), some (.int (gI key)), none, none, none] (by decide +kernel) rfl (Nat.le_of_ble_eq_true rfl) rfl ?_
  intro X hl hD hty C hini
  subst hl hD hty
  have hfn := fnd_rng hs key
  have hf4 : fnd s key / 4 = rof s key := by omega
  have hqb := (hs.rm (r := rof s key) (by omega)).bur
  refine r_aload_n C dX5_read_0 rfl rfl ?_
  refine r_iconst C dX5_read_1 ?_
  refine mm_put (j := 6) C flX5_25 dX5_read_2 hm (by decide) rfl rfl rfl rfl ?_
  try rw [up_up]
  refine r_iload_n C dX5_read_5 rfl rfl ?_
  refine r_iconst C dX5_read_6 ?_
  refine r_bipush C dX5_read_7 (by decide) ?_
  refine r_cS C cwX5_29 (c_X5_in (by omega) (by omega) (by omega)) dX5_read_9 rfl rfl rfl (Nat.le_of_ble_eq_true rfl) ⟨Nat.le_of_ble_eq_true rfl, Nat.le_of_ble_eq_true rfl⟩ ⟨Nat.le_of_ble_eq_true rfl, Nat.le_of_ble_eq_true rfl⟩ ?_
  refine r_ifb_ne (tgt := 21) C dX5_read_12 (by decide) (fun h12 => ?_) (fun h12 => ?_)
  · refine r_aload_n C dX5_read_21 rfl rfl ?_
    refine r_cVv C cwX5_70 (c_X5_keepsState hm (by first | omega | (simp only [up_ap, Int.reduceEq, reduceIte]; omega))) dX5_read_22 rfl (by omega) mput_0 rfl rfl rfl (Nat.le_of_ble_eq_true rfl) ⟨Nat.le_of_ble_eq_true rfl, Nat.le_of_ble_eq_true rfl⟩ ⟨Nat.le_of_ble_eq_true rfl, Nat.le_of_ble_eq_true rfl⟩ ?_
    refine r_aload_n C dX5_read_25 rfl rfl ?_
    refine mm_get C flX5_7 dX5_read_26 hm rfl ?_
    refine r_iload_n C dX5_read_29 rfl rfl ?_
    refine r_cS C cwX5_100 (c_X5_find (by omega) mput_1 hs (by omega)) dX5_read_30 rfl rfl rfl (Nat.le_of_ble_eq_true rfl) ⟨Nat.le_of_ble_eq_true rfl, Nat.le_of_ble_eq_true rfl⟩ ⟨Nat.le_of_ble_eq_true rfl, Nat.le_of_ble_eq_true rfl⟩ ?_
    refine r_istore_n C dX5_read_33 rfl (Nat.le_of_ble_eq_true rfl) rfl ?_
    dsimp only [List.set]
    refine r_iload_n C dX5_read_34 rfl rfl ?_
    refine r_iconst C dX5_read_35 ?_
    refine r_icmp_ne (tgt := 41) C dX5_read_36 (by decide) (by omega) (by omega) (fun h36 => ?_) (fun h36 => ?_)
    · refine r_iload_n C dX5_read_41 rfl rfl ?_
      refine r_iconst C dX5_read_42 ?_
      refine r_idiv C dX5_read_43 (by omega) (by omega) ?_
      rw [hf4]
      refine r_istore_n C dX5_read_44 rfl (Nat.le_of_ble_eq_true rfl) rfl ?_
      dsimp only [List.set]
      refine r_aload_n C dX5_read_45 rfl rfl ?_
      refine mm_get C flX5_7 dX5_read_46 hm rfl ?_
      refine r_iload_n C dX5_read_49 rfl rfl ?_
      refine r_cS C cwX5_52 (c_X5_isLit (by omega) mput_1 hs (by omega)) dX5_read_50 rfl rfl rfl (Nat.le_of_ble_eq_true rfl) ⟨Nat.le_of_ble_eq_true rfl, Nat.le_of_ble_eq_true rfl⟩ ⟨Nat.le_of_ble_eq_true rfl, Nat.le_of_ble_eq_true rfl⟩ ?_
      refine r_istore C dX5_read_53 (Nat.le_of_ble_eq_true rfl) rfl ?_
      dsimp only [List.set]
      refine r_aload_n C dX5_read_55 rfl rfl ?_
      refine mm_get C flX5_7 dX5_read_56 hm rfl ?_
      refine r_iconst C dX5_read_59 ?_
      refine r_dup2 C dX5_read_60 rfl rfl ?_
      refine r_iald C dX5_read_61 (by omega) mput_1 (by omega) (by omega) ?_
      refine r_iconst C dX5_read_62 ?_
      refine r_iadd C dX5_read_63 ?_
      refine r_iast C dX5_read_64 (by omega) mput_1 (by omega) (by omega) ?_
      rw [mput_u1]
      refine r_aload_n C dX5_read_65 rfl rfl ?_
      refine mm_get C flX5_7 dX5_read_66 hm rfl ?_
      refine r_iconst C dX5_read_69 ?_
      refine r_dup2 C dX5_read_70 rfl rfl ?_
      refine r_iald C dX5_read_71 (by omega) mput_1 (by omega) (by omega) ?_
      rw [up_n (show (5 : Int) ≠ 4 by omega)]
      refine r_iload C dX5_read_72 rfl ?_
      refine r_ifb_eq (tgt := 81) C dX5_read_74 (by decide) (fun h74 => ?_) (fun h74 => ?_)
      · refine r_iconst C dX5_read_81 ?_
        refine r_iadd C dX5_read_82 ?_
        refine r_iast C dX5_read_83 (by omega) mput_1 (by omega) (by omega) ?_
        rw [mput_u1]
        refine r_aload_n C dX5_read_84 rfl rfl ?_
        refine mm_get C flX5_7 dX5_read_85 hm rfl ?_
        refine r_bipush C dX5_read_88 (by decide) ?_
        refine r_bipush C dX5_read_90 (by decide) ?_
        refine r_iload_n C dX5_read_92 rfl rfl ?_
        refine r_imul C dX5_read_93 ?_
        refine r_iadd C dX5_read_94 ?_
        refine r_iconst C dX5_read_95 ?_
        refine r_iadd C dX5_read_96 ?_
        refine r_iload C dX5_read_97 rfl ?_
        refine r_ifb_eq (tgt := 106) C dX5_read_99 (by decide) (fun h99 => ?_) (fun h99 => ?_)
        · refine r_aload_n C dX5_read_106 rfl rfl ?_
          refine mm_get C flX5_7 dX5_read_107 hm rfl ?_
          refine r_iload_n C dX5_read_110 rfl rfl ?_
          refine r_iconst C dX5_read_111 ?_
          refine r_cS C cwX5_33 (c_X5_of (by omega) mput_1 (by omega) (by omega)) dX5_read_112 rfl rfl rfl (Nat.le_of_ble_eq_true rfl) ⟨Nat.le_of_ble_eq_true rfl, Nat.le_of_ble_eq_true rfl⟩ ⟨Nat.le_of_ble_eq_true rfl, Nat.le_of_ble_eq_true rfl⟩ ?_
          refine r_iast C dX5_read_115 (by omega) mput_1 (by omega) (by omega) ?_
          rw [mput_u1]
          rw [up_id (f := up (up s 4 (s 4 + 1)) 5 (s 5 + 1)) (k := 9 + 15 * rof s key + 2) (v := rm (up (up s 4 (s 4 + 1)) 5 (s 5 + 1)) (rof s key) 2) (rm_at _ _ (by omega)).symm]
          refine r_aload_n C dX5_read_116 rfl rfl ?_
          refine mm_get C flX5_7 dX5_read_117 hm rfl ?_
          refine r_iload C dX5_read_120 rfl ?_
          refine r_ifb_eq (tgt := 129) C dX5_read_122 (by decide) (fun h122 => ?_) (fun h122 => ?_)
          · refine r_iconst C dX5_read_129 ?_
            refine r_cSv C cwX5_110 (liftN (c_X5_beats (c := 3) (by omega) (okS_lo (okS_lo hs (by omega)) (by omega)) (by omega))) dX5_read_130 rfl rfl rfl (Nat.le_of_ble_eq_true rfl) ⟨Nat.le_of_ble_eq_true rfl, Nat.le_of_ble_eq_true rfl⟩ ⟨Nat.le_of_ble_eq_true rfl, Nat.le_of_ble_eq_true rfl⟩ ?_
            refine r_iload_n C dX5_read_133 rfl rfl ?_
            exact r_iretD C dX5_read_134 rfl rfl
          · exact absurd h122 hlit
        · exact absurd h99 hlit
      · exact absurd h74 hlit
    · exact absurd h36 (by omega)
  · exact absurd hkey h12

theorem bts_gone : ∀ (n : Nat) (s : Int → Int) (g : Int), (bts n s g).1 3 = s 3 + ((bts n s g).2 - g)
  | 0, s, g => by show s 3 = s 3 + (g - g); omega
  | n + 1, s, g => by
    have h := bts_gone n (beat s) (g + goneB s)
    have h3 : beat s 3 = s 3 + goneB s := by unfold beat; rw [up_n (by omega), up_s]
    show (bts n (beat s) (g + goneB s)).1 3 = s 3 + ((bts n (beat s) (g + goneB s)).2 - g)
    rw [h, h3]; omega

set_option maxRecDepth 100000 in
set_option maxHeartbeats 4000000 in
theorem c_X5_pass {l : Launch} {D : va_G} {ty : Nat → ClassId} {ad : Int → Nat} {N : Int} {σ : Int → va_E} {m : Int} {v s t p x q : Int → Int} {c : Int} (hm : 0 ≤ m ∧ m + 6 ≤ N) (hk6 : 0 ≤ v 3 ∧ v 3 ≤ 6) (hs : okS s) (hc : 1 ≤ c ∧ c ≤ 60) : gM0 l yX5_pass cX5_pass 3 (some .int) 5 115 [.ref (ad m), .int (gI c)] D ty ad N (mput ad ty σ m (v) (s) (t) (p) (x) (q)) (some (.int (gI (bts c.toNat s 0).2))) (mput ad ty σ m (up (up v 6 0) 3 (pshN (v 3))) ((bts c.toNat s 0).1) (t) (pkP (v 3) p s) (x) (q)) := by
  refine gMet_of [some (.ref (ad m)), some (.int (gI c)), none] (by decide +kernel) rfl (Nat.le_of_ble_eq_true rfl) rfl ?_
  intro X hl hD hty C hini
  subst hl hD hty
  refine r_aload_n C dX5_pass_0 rfl rfl ?_
  refine r_iconst C dX5_pass_1 ?_
  refine mm_put (j := 6) C flX5_25 dX5_pass_2 hm (by decide) rfl rfl rfl rfl ?_
  try rw [up_up]
  refine r_iload_n C dX5_pass_5 rfl rfl ?_
  refine r_iconst C dX5_pass_6 ?_
  refine r_bipush C dX5_pass_7 (by decide) ?_
  refine r_cS C cwX5_29 (c_X5_in (by omega) (by omega) (by omega)) dX5_pass_9 rfl rfl rfl (Nat.le_of_ble_eq_true rfl) ⟨Nat.le_of_ble_eq_true rfl, Nat.le_of_ble_eq_true rfl⟩ ⟨Nat.le_of_ble_eq_true rfl, Nat.le_of_ble_eq_true rfl⟩ ?_
  refine r_ifb_ne (tgt := 21) C dX5_pass_12 (by decide) (fun h12 => ?_) (fun h12 => ?_)
  · refine r_aload_n C dX5_pass_21 rfl rfl ?_
    refine r_cVv C cwX5_70 (c_X5_keepsState hm (by first | omega | (simp only [up_ap, Int.reduceEq, reduceIte]; omega))) dX5_pass_22 rfl (by omega) mput_0 rfl rfl rfl (Nat.le_of_ble_eq_true rfl) ⟨Nat.le_of_ble_eq_true rfl, Nat.le_of_ble_eq_true rfl⟩ ⟨Nat.le_of_ble_eq_true rfl, Nat.le_of_ble_eq_true rfl⟩ ?_
    refine r_aload_n C dX5_pass_25 rfl rfl ?_
    refine mm_get C flX5_7 dX5_pass_26 hm rfl ?_
    refine r_iconst C dX5_pass_29 ?_
    refine r_iald C dX5_pass_30 (by omega) mput_1 (by omega) (by omega) ?_
    refine r_istore_n C dX5_pass_31 rfl (Nat.le_of_ble_eq_true rfl) rfl ?_
    dsimp only [List.set]
    refine r_aload_n C dX5_pass_32 rfl rfl ?_
    refine mm_get C flX5_7 dX5_pass_33 hm rfl ?_
    refine r_iload_n C dX5_pass_36 rfl rfl ?_
    refine r_cSv C cwX5_110 (liftN (c_X5_beats (by omega) hs (by omega))) dX5_pass_37 rfl rfl rfl (Nat.le_of_ble_eq_true rfl) ⟨Nat.le_of_ble_eq_true rfl, Nat.le_of_ble_eq_true rfl⟩ ⟨Nat.le_of_ble_eq_true rfl, Nat.le_of_ble_eq_true rfl⟩ ?_
    refine r_aload_n C dX5_pass_40 rfl rfl ?_
    refine mm_get C flX5_7 dX5_pass_41 hm rfl ?_
    refine r_iconst C dX5_pass_44 ?_
    refine r_iald C dX5_pass_45 (by omega) mput_1 (by omega) (by omega) ?_
    refine r_iload_n C dX5_pass_46 rfl rfl ?_
    refine r_isub C dX5_pass_47 ?_
    exact r_iretD C dX5_pass_48 (by rw [bts_gone]; omega) rfl
  · exact absurd hc h12

set_option maxRecDepth 100000 in
set_option maxHeartbeats 4000000 in
theorem c_X5_pass_f1 {l : Launch} {D : va_G} {ty : Nat → ClassId} {ad : Int → Nat} {N : Int} {σ : Int → va_E} {m : Int} {v s t p x q : Int → Int} {c : Int} (hm : 0 ≤ m ∧ m + 6 ≤ N)  (hc : ¬ (1 ≤ c ∧ c ≤ 60)) (hc : -2147483648 ≤ c ∧ c < 2147483648) : gM0 l yX5_pass cX5_pass 3 (some .int) 5 115 [.ref (ad m), .int (gI c)] D ty ad N (mput ad ty σ m (v) (s) (t) (p) (x) (q)) (some (.int (gI 0))) (mput ad ty σ m (up v 6 1) (s) (t) (p) (x) (q)) := by
  refine gMet_of [some (.ref (ad m)), some (.int (gI c)), none] (by decide +kernel) rfl (Nat.le_of_ble_eq_true rfl) rfl ?_
  intro X hl hD hty C hini
  subst hl hD hty
  refine r_aload_n C dX5_pass_0 rfl rfl ?_
  refine r_iconst C dX5_pass_1 ?_
  refine mm_put (j := 6) C flX5_25 dX5_pass_2 hm (by decide) rfl rfl rfl rfl ?_
  try rw [up_up]
  refine r_iload_n C dX5_pass_5 rfl rfl ?_
  refine r_iconst C dX5_pass_6 ?_
  refine r_bipush C dX5_pass_7 (by decide) ?_
  refine r_cS C cwX5_29 (c_X5_in (by omega) (by omega) (by omega)) dX5_pass_9 rfl rfl rfl (Nat.le_of_ble_eq_true rfl) ⟨Nat.le_of_ble_eq_true rfl, Nat.le_of_ble_eq_true rfl⟩ ⟨Nat.le_of_ble_eq_true rfl, Nat.le_of_ble_eq_true rfl⟩ ?_
  refine r_ifb_ne (tgt := 21) C dX5_pass_12 (by decide) (fun h12 => ?_) (fun h12 => ?_)
  · exact absurd h12 (by omega)
  · refine r_aload_n C dX5_pass_15 rfl rfl ?_
    refine r_iconst C dX5_pass_16 ?_
    refine r_cV C cwX5_44 (c_X5_fails hm) dX5_pass_17 rfl (by omega) mput_0 rfl rfl rfl (Nat.le_of_ble_eq_true rfl) ⟨Nat.le_of_ble_eq_true rfl, Nat.le_of_ble_eq_true rfl⟩ ⟨Nat.le_of_ble_eq_true rfl, Nat.le_of_ble_eq_true rfl⟩ ?_
    exact r_iretD C dX5_pass_20 rfl (by rw [up_up])

set_option maxRecDepth 100000 in
set_option maxHeartbeats 4000000 in
theorem c_X5_append {l : Launch} {D : va_G} {ty : Nat → ClassId} {ad : Int → Nat} {N : Int} {σ : Int → va_E} {m : Int} {v s t p x q : Int → Int} {z : Int} (hm : 0 ≤ m ∧ m + 6 ≤ N) (h5 : 0 ≤ v 5 ∧ v 5 < 60) (hz : 33 ≤ z ∧ z ≤ 126) : gM0 l yX5_append cX5_append 2 (some .int) 1 22 [.ref (ad m), .int (gI z)] D ty ad N (mput ad ty σ m (v) (s) (t) (p) (x) (q)) (some (.int (gI (v 5 + 1)))) (mput ad ty σ m (up (up v 6 0) 5 (v 5 + 1)) (s) (t) (p) (up x (v 5) z) (q)) := by
  refine gMet_of [some (.ref (ad m)), some (.int (gI z))] (by decide +kernel) rfl (Nat.le_of_ble_eq_true rfl) rfl ?_
  intro X hl hD hty C hini
  subst hl hD hty
  refine r_aload_n C dX5_append_0 rfl rfl ?_
  refine r_iconst C dX5_append_1 ?_
  refine mm_put (j := 6) C flX5_25 dX5_append_2 hm (by decide) rfl rfl rfl rfl ?_
  try rw [up_up]
  refine r_iload_n C dX5_append_5 rfl rfl ?_
  refine r_bipush C dX5_append_6 (by decide) ?_
  refine r_bipush C dX5_append_8 (by decide) ?_
  refine r_cS C cwX5_29 (c_X5_in (by omega) (by omega) (by omega)) dX5_append_10 rfl rfl rfl (Nat.le_of_ble_eq_true rfl) ⟨Nat.le_of_ble_eq_true rfl, Nat.le_of_ble_eq_true rfl⟩ ⟨Nat.le_of_ble_eq_true rfl, Nat.le_of_ble_eq_true rfl⟩ ?_
  refine r_ifb_ne (tgt := 22) C dX5_append_13 (by decide) (fun h13 => ?_) (fun h13 => ?_)
  · refine r_aload_n C dX5_append_22 rfl rfl ?_
    refine mm_get C flX5_113 dX5_append_23 hm rfl ?_
    try simp only [up_ap, Int.reduceEq, reduceIte]
    refine r_bipush C dX5_append_26 (by decide) ?_
    refine r_icmp_ne (tgt := 37) C dX5_append_28 (by decide) (by omega) (by omega) (fun h28 => ?_) (fun h28 => ?_)
    · refine r_aload_n C dX5_append_37 rfl rfl ?_
      refine mm_get C flX5_19 dX5_append_38 hm rfl ?_
      refine r_aload_n C dX5_append_41 rfl rfl ?_
      refine mm_get C flX5_113 dX5_append_42 hm rfl ?_
      try simp only [up_ap, Int.reduceEq, reduceIte]
      refine r_iload_n C dX5_append_45 rfl rfl ?_
      refine r_iast C dX5_append_46 (by omega) mput_4 (by omega) (by omega) ?_
      rw [mput_u4]
      refine r_aload_n C dX5_append_47 rfl rfl ?_
      refine r_dup C dX5_append_48 rfl ?_
      refine mm_get C flX5_113 dX5_append_49 hm rfl ?_
      try simp only [up_ap, Int.reduceEq, reduceIte]
      refine r_iconst C dX5_append_52 ?_
      refine r_iadd C dX5_append_53 ?_
      refine mm_put (j := 5) C flX5_113 dX5_append_54 hm (by decide) rfl rfl rfl rfl ?_
      try rw [up_up]
      refine r_aload_n C dX5_append_57 rfl rfl ?_
      refine mm_get C flX5_113 dX5_append_58 hm rfl ?_
      try simp only [up_ap, Int.reduceEq, reduceIte]
      exact r_iretD C dX5_append_61 rfl rfl
    · exact absurd h28 (by omega)
  · exact absurd hz h13

set_option maxRecDepth 100000 in
set_option maxHeartbeats 4000000 in
theorem c_X5_append_f1 {l : Launch} {D : va_G} {ty : Nat → ClassId} {ad : Int → Nat} {N : Int} {σ : Int → va_E} {m : Int} {v s t p x q : Int → Int} {z : Int} (hm : 0 ≤ m ∧ m + 6 ≤ N)  (hz : ¬ (33 ≤ z ∧ z ≤ 126)) (hz : -2147483648 ≤ z ∧ z < 2147483648) : gM0 l yX5_append cX5_append 2 (some .int) 1 22 [.ref (ad m), .int (gI z)] D ty ad N (mput ad ty σ m (v) (s) (t) (p) (x) (q)) (some (.int (gI 0))) (mput ad ty σ m (up v 6 1) (s) (t) (p) (x) (q)) := by
  refine gMet_of [some (.ref (ad m)), some (.int (gI z))] (by decide +kernel) rfl (Nat.le_of_ble_eq_true rfl) rfl ?_
  intro X hl hD hty C hini
  subst hl hD hty
  refine r_aload_n C dX5_append_0 rfl rfl ?_
  refine r_iconst C dX5_append_1 ?_
  refine mm_put (j := 6) C flX5_25 dX5_append_2 hm (by decide) rfl rfl rfl rfl ?_
  try rw [up_up]
  refine r_iload_n C dX5_append_5 rfl rfl ?_
  refine r_bipush C dX5_append_6 (by decide) ?_
  refine r_bipush C dX5_append_8 (by decide) ?_
  refine r_cS C cwX5_29 (c_X5_in (by omega) (by omega) (by omega)) dX5_append_10 rfl rfl rfl (Nat.le_of_ble_eq_true rfl) ⟨Nat.le_of_ble_eq_true rfl, Nat.le_of_ble_eq_true rfl⟩ ⟨Nat.le_of_ble_eq_true rfl, Nat.le_of_ble_eq_true rfl⟩ ?_
  refine r_ifb_ne (tgt := 22) C dX5_append_13 (by decide) (fun h13 => ?_) (fun h13 => ?_)
  · exact absurd h13 (by omega)
  · refine r_aload_n C dX5_append_16 rfl rfl ?_
    refine r_iconst C dX5_append_17 ?_
    refine r_cV C cwX5_44 (c_X5_fails hm) dX5_append_18 rfl (by omega) mput_0 rfl rfl rfl (Nat.le_of_ble_eq_true rfl) ⟨Nat.le_of_ble_eq_true rfl, Nat.le_of_ble_eq_true rfl⟩ ⟨Nat.le_of_ble_eq_true rfl, Nat.le_of_ble_eq_true rfl⟩ ?_
    exact r_iretD C dX5_append_21 rfl (by rw [up_up])

set_option maxRecDepth 100000 in
set_option maxHeartbeats 4000000 in
theorem c_X5_append_f2 {l : Launch} {D : va_G} {ty : Nat → ClassId} {ad : Int → Nat} {N : Int} {σ : Int → va_E} {m : Int} {v s t p x q : Int → Int} {z : Int} (hm : 0 ≤ m ∧ m + 6 ≤ N)  (h5 : v 5 = 60) (hz : 33 ≤ z ∧ z ≤ 126) : gM0 l yX5_append cX5_append 2 (some .int) 1 22 [.ref (ad m), .int (gI z)] D ty ad N (mput ad ty σ m (v) (s) (t) (p) (x) (q)) (some (.int (gI 0))) (mput ad ty σ m (up v 6 2) (s) (t) (p) (x) (q)) := by
  refine gMet_of [some (.ref (ad m)), some (.int (gI z))] (by decide +kernel) rfl (Nat.le_of_ble_eq_true rfl) rfl ?_
  intro X hl hD hty C hini
  subst hl hD hty
  refine r_aload_n C dX5_append_0 rfl rfl ?_
  refine r_iconst C dX5_append_1 ?_
  refine mm_put (j := 6) C flX5_25 dX5_append_2 hm (by decide) rfl rfl rfl rfl ?_
  try rw [up_up]
  refine r_iload_n C dX5_append_5 rfl rfl ?_
  refine r_bipush C dX5_append_6 (by decide) ?_
  refine r_bipush C dX5_append_8 (by decide) ?_
  refine r_cS C cwX5_29 (c_X5_in (by omega) (by omega) (by omega)) dX5_append_10 rfl rfl rfl (Nat.le_of_ble_eq_true rfl) ⟨Nat.le_of_ble_eq_true rfl, Nat.le_of_ble_eq_true rfl⟩ ⟨Nat.le_of_ble_eq_true rfl, Nat.le_of_ble_eq_true rfl⟩ ?_
  refine r_ifb_ne (tgt := 22) C dX5_append_13 (by decide) (fun h13 => ?_) (fun h13 => ?_)
  · refine r_aload_n C dX5_append_22 rfl rfl ?_
    refine mm_get C flX5_113 dX5_append_23 hm rfl ?_
    try simp only [up_ap, Int.reduceEq, reduceIte]
    refine r_bipush C dX5_append_26 (by decide) ?_
    refine r_icmp_ne (tgt := 37) C dX5_append_28 (by decide) (by omega) (by omega) (fun h28 => ?_) (fun h28 => ?_)
    · exact absurd h28 (by omega)
    · refine r_aload_n C dX5_append_31 rfl rfl ?_
      refine r_iconst C dX5_append_32 ?_
      refine r_cV C cwX5_44 (c_X5_fails hm) dX5_append_33 rfl (by omega) mput_0 rfl rfl rfl (Nat.le_of_ble_eq_true rfl) ⟨Nat.le_of_ble_eq_true rfl, Nat.le_of_ble_eq_true rfl⟩ ⟨Nat.le_of_ble_eq_true rfl, Nat.le_of_ble_eq_true rfl⟩ ?_
      exact r_iretD C dX5_append_36 rfl (by rw [up_up])
  · exact absurd hz h13

set_option maxRecDepth 100000 in
set_option maxHeartbeats 4000000 in
theorem c_X5_clearBuffer {l : Launch} {D : va_G} {ty : Nat → ClassId} {ad : Int → Nat} {N : Int} {σ : Int → va_E} {m : Int} {v s t p x q : Int → Int} (hm : 0 ≤ m ∧ m + 6 ≤ N)  : gM0 l yX5_clearBuffer cX5_clearBuffer 2 (some .int) 0 0 [.ref (ad m)] D ty ad N (mput ad ty σ m (v) (s) (t) (p) (x) (q)) (some (.int (gI (v 5)))) (mput ad ty σ m (up (up v 6 0) 5 0) (s) (t) (p) (x) (q)) := by
  refine gMet_of [some (.ref (ad m)), none] (by decide +kernel) rfl (Nat.le_of_ble_eq_true rfl) rfl ?_
  intro X hl hD hty C hini
  subst hl hD hty
  refine r_aload_n C dX5_clearBuffer_0 rfl rfl ?_
  refine r_iconst C dX5_clearBuffer_1 ?_
  refine mm_put (j := 6) C flX5_25 dX5_clearBuffer_2 hm (by decide) rfl rfl rfl rfl ?_
  try rw [up_up]
  refine r_aload_n C dX5_clearBuffer_5 rfl rfl ?_
  refine mm_get C flX5_113 dX5_clearBuffer_6 hm rfl ?_
  try simp only [up_ap, Int.reduceEq, reduceIte]
  refine r_istore_n C dX5_clearBuffer_9 rfl (Nat.le_of_ble_eq_true rfl) rfl ?_
  dsimp only [List.set]
  refine r_aload_n C dX5_clearBuffer_10 rfl rfl ?_
  refine r_iconst C dX5_clearBuffer_11 ?_
  refine mm_put (j := 5) C flX5_113 dX5_clearBuffer_12 hm (by decide) rfl rfl rfl rfl ?_
  try rw [up_up]
  refine r_iload_n C dX5_clearBuffer_15 rfl rfl ?_
  exact r_iretD C dX5_clearBuffer_16 rfl rfl

set_option maxRecDepth 100000 in
set_option maxHeartbeats 4000000 in
theorem c_X5_ofRoom {l : Launch} {D : va_G} {ty : Nat → ClassId} {ad : Int → Nat} {N : Int} {σ : Int → va_E} {m : Int} {v s t p x q : Int → Int} {r w : Int} (hm : 0 ≤ m ∧ m + 6 ≤ N) (hs : okS s) (hr : 0 ≤ r ∧ r < 6) (hw0 : 0 ≤ w ∧ w < 8) : gM0 l yX5_ofRoom cX5_ofRoom 3 (some .int) 1 22 [.ref (ad m), .int (gI r), .int (gI w)] D ty ad N (mput ad ty σ m (v) (s) (t) (p) (x) (q)) (some (.int (gI (numR (rm s r) w)))) (mput ad ty σ m (v) (s) (t) (p) (x) (q)) := by
  refine gMet_of [some (.ref (ad m)), some (.int (gI r)), some (.int (gI w))] (by decide +kernel) rfl (Nat.le_of_ble_eq_true rfl) rfl ?_
  intro X hl hD hty C hini
  subst hl hD hty
  have hq := hs.rm hr
  have hqm := hq.many
  refine r_iload_n C dX5_ofRoom_0 rfl rfl ?_
  rcases (show (w = 4 ∨ w = 5 ∨ w = 6 ∨ w = 7) ∨ (w < 4 ∨ 7 < w) by omega) with (hw | hw | hw | hw) | hw
  · refine r_tabIn (tgt := 32) C dX5_ofRoom_1 (by omega) (by omega) (by omega) (by rw [hw]; rfl) (by decide) ?_
    refine r_aload_n C dX5_ofRoom_32 rfl rfl ?_
    refine mm_get C flX5_7 dX5_ofRoom_33 hm rfl ?_
    refine r_iload_n C dX5_ofRoom_36 rfl rfl ?_
    refine r_bipush C dX5_ofRoom_37 (by decide) ?_
    refine r_cS C cwX5_33 (c_X5_of (by omega) mput_1 (by omega) (by omega)) dX5_ofRoom_39 rfl rfl rfl (Nat.le_of_ble_eq_true rfl) ⟨Nat.le_of_ble_eq_true rfl, Nat.le_of_ble_eq_true rfl⟩ ⟨Nat.le_of_ble_eq_true rfl, Nat.le_of_ble_eq_true rfl⟩ ?_
    exact r_iretD C dX5_ofRoom_42 (by subst hw; rfl) rfl
  · refine r_tabIn (tgt := 43) C dX5_ofRoom_1 (by omega) (by omega) (by omega) (by rw [hw]; rfl) (by decide) ?_
    refine r_aload_n C dX5_ofRoom_43 rfl rfl ?_
    refine mm_get C flX5_7 dX5_ofRoom_44 hm rfl ?_
    refine r_iload_n C dX5_ofRoom_47 rfl rfl ?_
    refine r_iconst C dX5_ofRoom_48 ?_
    refine r_cS C cwX5_33 (c_X5_of (by omega) mput_1 (by omega) (by omega)) dX5_ofRoom_49 rfl rfl rfl (Nat.le_of_ble_eq_true rfl) ⟨Nat.le_of_ble_eq_true rfl, Nat.le_of_ble_eq_true rfl⟩ ⟨Nat.le_of_ble_eq_true rfl, Nat.le_of_ble_eq_true rfl⟩ ?_
    exact r_iretD C dX5_ofRoom_52 (by subst hw; rfl) rfl
  · refine r_tabIn (tgt := 53) C dX5_ofRoom_1 (by omega) (by omega) (by omega) (by rw [hw]; rfl) (by decide) ?_
    refine r_aload_n C dX5_ofRoom_53 rfl rfl ?_
    refine mm_get C flX5_7 dX5_ofRoom_54 hm rfl ?_
    refine r_iload_n C dX5_ofRoom_57 rfl rfl ?_
    refine r_iconst C dX5_ofRoom_58 ?_
    refine r_cS C cwX5_33 (c_X5_of (by omega) mput_1 (by omega) (by omega)) dX5_ofRoom_59 rfl rfl rfl (Nat.le_of_ble_eq_true rfl) ⟨Nat.le_of_ble_eq_true rfl, Nat.le_of_ble_eq_true rfl⟩ ⟨Nat.le_of_ble_eq_true rfl, Nat.le_of_ble_eq_true rfl⟩ ?_
    exact r_iretD C dX5_ofRoom_62 (by subst hw; rfl) rfl
  · refine r_tabIn (tgt := 63) C dX5_ofRoom_1 (by omega) (by omega) (by omega) (by rw [hw]; rfl) (by decide) ?_
    refine r_aload_n C dX5_ofRoom_63 rfl rfl ?_
    refine mm_get C flX5_7 dX5_ofRoom_64 hm rfl ?_
    refine r_iload_n C dX5_ofRoom_67 rfl rfl ?_
    refine r_bipush C dX5_ofRoom_68 (by decide) ?_
    refine r_cS C cwX5_33 (c_X5_of (by omega) mput_1 (by omega) (by omega)) dX5_ofRoom_70 rfl rfl rfl (Nat.le_of_ble_eq_true rfl) ⟨Nat.le_of_ble_eq_true rfl, Nat.le_of_ble_eq_true rfl⟩ ⟨Nat.le_of_ble_eq_true rfl, Nat.le_of_ble_eq_true rfl⟩ ?_
    refine r_if_ne (tgt := 80) C dX5_ofRoom_73 (by decide) (by omega) (fun h73 => ?_) (fun h73 => ?_)
    · refine r_aload_n C dX5_ofRoom_80 rfl rfl ?_
      refine mm_get C flX5_7 dX5_ofRoom_81 hm rfl ?_
      refine r_iload_n C dX5_ofRoom_84 rfl rfl ?_
      refine r_bipush C dX5_ofRoom_85 (by decide) ?_
      refine r_cS C cwX5_33 (c_X5_of (by omega) mput_1 (by omega) (by omega)) dX5_ofRoom_87 rfl rfl rfl (Nat.le_of_ble_eq_true rfl) ⟨Nat.le_of_ble_eq_true rfl, Nat.le_of_ble_eq_true rfl⟩ ⟨Nat.le_of_ble_eq_true rfl, Nat.le_of_ble_eq_true rfl⟩ ?_
      exact r_iretD C dX5_ofRoom_90 (by subst hw; show _ = keyR (rm s r) 0; unfold keyR; first | (rw [if_pos (by omega)]; rfl) | rw [if_neg (by omega)]) rfl
    · refine r_iconst C dX5_ofRoom_76 ?_
      refine r_goto (tgt := 90) C dX5_ofRoom_77 (by decide) ?_
      exact r_iretD C dX5_ofRoom_90 (by subst hw; show _ = keyR (rm s r) 0; unfold keyR; first | (rw [if_pos (by omega)]; rfl) | rw [if_neg (by omega)]) rfl
  · refine r_tabOut (tgt := 91) C dX5_ofRoom_1 (by omega) hw (by decide) ?_
    refine r_aload_n C dX5_ofRoom_91 rfl rfl ?_
    refine mm_get C flX5_7 dX5_ofRoom_92 hm rfl ?_
    refine r_iload_n C dX5_ofRoom_95 rfl rfl ?_
    refine r_iload_n C dX5_ofRoom_96 rfl rfl ?_
    refine r_cS C cwX5_33 (c_X5_of (by omega) mput_1 (by omega) (by omega)) dX5_ofRoom_97 rfl rfl rfl (Nat.le_of_ble_eq_true rfl) ⟨Nat.le_of_ble_eq_true rfl, Nat.le_of_ble_eq_true rfl⟩ ⟨Nat.le_of_ble_eq_true rfl, Nat.le_of_ble_eq_true rfl⟩ ?_
    exact r_iretD C dX5_ofRoom_100 (by rcases (show w = 0 ∨ w = 1 ∨ w = 2 ∨ w = 3 by omega) with h | h | h | h <;> subst h <;> rfl) rfl

set_option maxRecDepth 100000 in
set_option maxHeartbeats 4000000 in
theorem c_X5_room {l : Launch} {D : va_G} {ty : Nat → ClassId} {ad : Int → Nat} {N : Int} {σ : Int → va_E} {m : Int} {v s t p x q : Int → Int} {r w : Int} (hm : 0 ≤ m ∧ m + 6 ≤ N) (hs : okS s) (hr : 0 ≤ r ∧ r < 6) (hw0 : 0 ≤ w ∧ w < 8) : gM0 l yX5_room cX5_room 3 (some .int) 2 44 [.ref (ad m), .int (gI r), .int (gI w)] D ty ad N (mput ad ty σ m (v) (s) (t) (p) (x) (q)) (some (.int (gI (numR (rm s r) w)))) (mput ad ty σ m (up v 6 0) (s) (t) (p) (x) (q)) := by
  refine gMet_of [some (.ref (ad m)), some (.int (gI r)), some (.int (gI w))] (by decide +kernel) rfl (Nat.le_of_ble_eq_true rfl) rfl ?_
  intro X hl hD hty C hini
  subst hl hD hty
  refine r_aload_n C dX5_room_0 rfl rfl ?_
  refine r_iconst C dX5_room_1 ?_
  refine mm_put (j := 6) C flX5_25 dX5_room_2 hm (by decide) rfl rfl rfl rfl ?_
  try rw [up_up]
  refine r_iload_n C dX5_room_5 rfl rfl ?_
  refine r_cS C cwX5_63 (c_X5_isRoom (by omega)) dX5_room_6 rfl rfl rfl (Nat.le_of_ble_eq_true rfl) ⟨Nat.le_of_ble_eq_true rfl, Nat.le_of_ble_eq_true rfl⟩ ⟨Nat.le_of_ble_eq_true rfl, Nat.le_of_ble_eq_true rfl⟩ ?_
  refine r_ifb_ne (tgt := 18) C dX5_room_9 (by decide) (fun h9 => ?_) (fun h9 => ?_)
  · refine r_iload_n C dX5_room_18 rfl rfl ?_
    refine r_iconst C dX5_room_19 ?_
    refine r_bipush C dX5_room_20 (by decide) ?_
    refine r_cS C cwX5_29 (c_X5_in (by omega) (by omega) (by omega)) dX5_room_22 rfl rfl rfl (Nat.le_of_ble_eq_true rfl) ⟨Nat.le_of_ble_eq_true rfl, Nat.le_of_ble_eq_true rfl⟩ ⟨Nat.le_of_ble_eq_true rfl, Nat.le_of_ble_eq_true rfl⟩ ?_
    refine r_ifb_eq (tgt := 37) C dX5_room_25 (by decide) (fun h25 => ?_) (fun h25 => ?_)
    · exact absurd hw0 (by omega)
    · refine r_aload_n C dX5_room_28 rfl rfl ?_
      refine r_iload_n C dX5_room_29 rfl rfl ?_
      refine r_iload_n C dX5_room_30 rfl rfl ?_
      refine r_cV C cwX5_147 (c_X5_ofRoom hm hs (by omega) (by omega)) dX5_room_31 rfl (by omega) mput_0 rfl rfl rfl (Nat.le_of_ble_eq_true rfl) ⟨Nat.le_of_ble_eq_true rfl, Nat.le_of_ble_eq_true rfl⟩ ⟨Nat.le_of_ble_eq_true rfl, Nat.le_of_ble_eq_true rfl⟩ ?_
      refine r_goto (tgt := 42) C dX5_room_34 (by decide) ?_
      exact r_iretD C dX5_room_42 rfl rfl
  · exact absurd hr (by omega)

set_option maxRecDepth 100000 in
set_option maxHeartbeats 4000000 in
theorem c_X5_room_f1 {l : Launch} {D : va_G} {ty : Nat → ClassId} {ad : Int → Nat} {N : Int} {σ : Int → va_E} {m : Int} {v s t p x q : Int → Int} {r w : Int} (hm : 0 ≤ m ∧ m + 6 ≤ N)  (hnr : ¬ (0 ≤ r ∧ r < 6)) (hr : -2147483648 ≤ r ∧ r < 2147483648) : gM0 l yX5_room cX5_room 3 (some .int) 2 44 [.ref (ad m), .int (gI r), .int (gI w)] D ty ad N (mput ad ty σ m (v) (s) (t) (p) (x) (q)) (some (.int (gI 0))) (mput ad ty σ m (up v 6 1) (s) (t) (p) (x) (q)) := by
  refine gMet_of [some (.ref (ad m)), some (.int (gI r)), some (.int (gI w))] (by decide +kernel) rfl (Nat.le_of_ble_eq_true rfl) rfl ?_
  intro X hl hD hty C hini
  subst hl hD hty
  refine r_aload_n C dX5_room_0 rfl rfl ?_
  refine r_iconst C dX5_room_1 ?_
  refine mm_put (j := 6) C flX5_25 dX5_room_2 hm (by decide) rfl rfl rfl rfl ?_
  try rw [up_up]
  refine r_iload_n C dX5_room_5 rfl rfl ?_
  refine r_cS C cwX5_63 (c_X5_isRoom (by omega)) dX5_room_6 rfl rfl rfl (Nat.le_of_ble_eq_true rfl) ⟨Nat.le_of_ble_eq_true rfl, Nat.le_of_ble_eq_true rfl⟩ ⟨Nat.le_of_ble_eq_true rfl, Nat.le_of_ble_eq_true rfl⟩ ?_
  refine r_ifb_ne (tgt := 18) C dX5_room_9 (by decide) (fun h9 => ?_) (fun h9 => ?_)
  · exact absurd h9 (by omega)
  · refine r_aload_n C dX5_room_12 rfl rfl ?_
    refine r_iconst C dX5_room_13 ?_
    refine r_cV C cwX5_44 (c_X5_fails hm) dX5_room_14 rfl (by omega) mput_0 rfl rfl rfl (Nat.le_of_ble_eq_true rfl) ⟨Nat.le_of_ble_eq_true rfl, Nat.le_of_ble_eq_true rfl⟩ ⟨Nat.le_of_ble_eq_true rfl, Nat.le_of_ble_eq_true rfl⟩ ?_
    exact r_iretD C dX5_room_17 rfl (by rw [up_up])

set_option maxRecDepth 100000 in
set_option maxHeartbeats 4000000 in
theorem c_X5_room_f2 {l : Launch} {D : va_G} {ty : Nat → ClassId} {ad : Int → Nat} {N : Int} {σ : Int → va_E} {m : Int} {v s t p x q : Int → Int} {r w : Int} (hm : 0 ≤ m ∧ m + 6 ≤ N)  (hr : 0 ≤ r ∧ r < 6) (hw0 : ¬ (0 ≤ w ∧ w < 8)) (hw : -2147483648 ≤ w ∧ w < 2147483648) : gM0 l yX5_room cX5_room 3 (some .int) 2 44 [.ref (ad m), .int (gI r), .int (gI w)] D ty ad N (mput ad ty σ m (v) (s) (t) (p) (x) (q)) (some (.int (gI 0))) (mput ad ty σ m (up v 6 2) (s) (t) (p) (x) (q)) := by
  refine gMet_of [some (.ref (ad m)), some (.int (gI r)), some (.int (gI w))] (by decide +kernel) rfl (Nat.le_of_ble_eq_true rfl) rfl ?_
  intro X hl hD hty C hini
  subst hl hD hty
  refine r_aload_n C dX5_room_0 rfl rfl ?_
  refine r_iconst C dX5_room_1 ?_
  refine mm_put (j := 6) C flX5_25 dX5_room_2 hm (by decide) rfl rfl rfl rfl ?_
  try rw [up_up]
  refine r_iload_n C dX5_room_5 rfl rfl ?_
  refine r_cS C cwX5_63 (c_X5_isRoom (by omega)) dX5_room_6 rfl rfl rfl (Nat.le_of_ble_eq_true rfl) ⟨Nat.le_of_ble_eq_true rfl, Nat.le_of_ble_eq_true rfl⟩ ⟨Nat.le_of_ble_eq_true rfl, Nat.le_of_ble_eq_true rfl⟩ ?_
  refine r_ifb_ne (tgt := 18) C dX5_room_9 (by decide) (fun h9 => ?_) (fun h9 => ?_)
  · refine r_iload_n C dX5_room_18 rfl rfl ?_
    refine r_iconst C dX5_room_19 ?_
    refine r_bipush C dX5_room_20 (by decide) ?_
    refine r_cS C cwX5_29 (c_X5_in (by omega) (by omega) (by omega)) dX5_room_22 rfl rfl rfl (Nat.le_of_ble_eq_true rfl) ⟨Nat.le_of_ble_eq_true rfl, Nat.le_of_ble_eq_true rfl⟩ ⟨Nat.le_of_ble_eq_true rfl, Nat.le_of_ble_eq_true rfl⟩ ?_
    refine r_ifb_eq (tgt := 37) C dX5_room_25 (by decide) (fun h25 => ?_) (fun h25 => ?_)
    · refine r_aload_n C dX5_room_37 rfl rfl ?_
      refine r_iconst C dX5_room_38 ?_
      refine r_cV C cwX5_44 (c_X5_fails hm) dX5_room_39 rfl (by omega) mput_0 rfl rfl rfl (Nat.le_of_ble_eq_true rfl) ⟨Nat.le_of_ble_eq_true rfl, Nat.le_of_ble_eq_true rfl⟩ ⟨Nat.le_of_ble_eq_true rfl, Nat.le_of_ble_eq_true rfl⟩ ?_
      exact r_iretD C dX5_room_42 rfl (by rw [up_up])
    · exact absurd h25 (by omega)
  · exact absurd hr (by omega)

set_option maxRecDepth 100000 in
set_option maxHeartbeats 4000000 in
theorem c_X5_thing {l : Launch} {D : va_G} {ty : Nat → ClassId} {ad : Int → Nat} {N : Int} {σ : Int → va_E} {m : Int} {v s t p x q : Int → Int} {key w : Int} (hm : 0 ≤ m ∧ m + 6 ≤ N) (hs : okS s) (hkey : 0 ≤ key ∧ key ≤ 99) (hw0 : 0 ≤ w ∧ w < 3) : gM0 l yX5_thing cX5_thing 4 (some .int) 2 44 [.ref (ad m), .int (gI key), .int (gI w)] D ty ad N (mput ad ty σ m (v) (s) (t) (p) (x) (q)) (some (.int (gI (thn s key w)))) (mput ad ty σ m (up v 6 0) (s) (t) (p) (x) (q)) := by
  refine gMet_of [some (.ref (ad m)), some (.int (gI key)), some (.int (gI w)), none] (by decide +kernel) rfl (Nat.le_of_ble_eq_true rfl) rfl ?_
  intro X hl hD hty C hini
  subst hl hD hty
  have hfn := fnd_rng hs key
  have hrr := rof_rng s key
  refine r_aload_n C dX5_thing_0 rfl rfl ?_
  refine r_iconst C dX5_thing_1 ?_
  refine mm_put (j := 6) C flX5_25 dX5_thing_2 hm (by decide) rfl rfl rfl rfl ?_
  try rw [up_up]
  refine r_iload_n C dX5_thing_5 rfl rfl ?_
  refine r_iconst C dX5_thing_6 ?_
  refine r_bipush C dX5_thing_7 (by decide) ?_
  refine r_cS C cwX5_29 (c_X5_in (by omega) (by omega) (by omega)) dX5_thing_9 rfl rfl rfl (Nat.le_of_ble_eq_true rfl) ⟨Nat.le_of_ble_eq_true rfl, Nat.le_of_ble_eq_true rfl⟩ ⟨Nat.le_of_ble_eq_true rfl, Nat.le_of_ble_eq_true rfl⟩ ?_
  refine r_ifb_eq (tgt := 24) C dX5_thing_12 (by decide) (fun h12 => ?_) (fun h12 => ?_)
  · exact absurd hkey h12
  · refine r_iload_n C dX5_thing_15 rfl rfl ?_
    refine r_iconst C dX5_thing_16 ?_
    refine r_iconst C dX5_thing_17 ?_
    refine r_cS C cwX5_29 (c_X5_in (by omega) (by omega) (by omega)) dX5_thing_18 rfl rfl rfl (Nat.le_of_ble_eq_true rfl) ⟨Nat.le_of_ble_eq_true rfl, Nat.le_of_ble_eq_true rfl⟩ ⟨Nat.le_of_ble_eq_true rfl, Nat.le_of_ble_eq_true rfl⟩ ?_
    refine r_ifb_ne (tgt := 30) C dX5_thing_21 (by decide) (fun h21 => ?_) (fun h21 => ?_)
    · refine r_aload_n C dX5_thing_30 rfl rfl ?_
      refine mm_get C flX5_7 dX5_thing_31 hm rfl ?_
      refine r_iload_n C dX5_thing_34 rfl rfl ?_
      refine r_cS C cwX5_100 (c_X5_find (by omega) mput_1 hs (by omega)) dX5_thing_35 rfl rfl rfl (Nat.le_of_ble_eq_true rfl) ⟨Nat.le_of_ble_eq_true rfl, Nat.le_of_ble_eq_true rfl⟩ ⟨Nat.le_of_ble_eq_true rfl, Nat.le_of_ble_eq_true rfl⟩ ?_
      refine r_istore_n C dX5_thing_38 rfl (Nat.le_of_ble_eq_true rfl) rfl ?_
      dsimp only [List.set]
      refine r_iload_n C dX5_thing_39 rfl rfl ?_
      refine r_iconst C dX5_thing_40 ?_
      refine r_icmp_ne (tgt := 46) C dX5_thing_41 (by decide) (by omega) (by omega) (fun h41 => ?_) (fun h41 => ?_)
      · have hf4 : fnd s key / 4 = rof s key := by omega
        have hfm : fnd s key % 4 = plc (rm s (rof s key)) key := by omega
        have hpl := plc_rng (key := key) hs (r := rof s key) (by omega)
        refine r_iload_n C dX5_thing_46 rfl rfl ?_
        refine r_if_ne (tgt := 56) C dX5_thing_47 (by decide) (by omega) (fun h47 => ?_) (fun h47 => ?_)
        · refine r_iload_n C dX5_thing_56 rfl rfl ?_
          refine r_iconst C dX5_thing_57 ?_
          refine r_icmp_ne (tgt := 67) C dX5_thing_58 (by decide) (by omega) (by omega) (fun h58 => ?_) (fun h58 => ?_)
          · refine r_aload_n C dX5_thing_67 rfl rfl ?_
            refine mm_get C flX5_7 dX5_thing_68 hm rfl ?_
            refine r_iload_n C dX5_thing_71 rfl rfl ?_
            refine r_iconst C dX5_thing_72 ?_
            refine r_idiv C dX5_thing_73 (by omega) (by omega) ?_
            rw [hf4]
            refine r_bipush C dX5_thing_74 (by decide) ?_
            refine r_iload_n C dX5_thing_76 rfl rfl ?_
            refine r_iconst C dX5_thing_77 ?_
            refine r_irem C dX5_thing_78 (by omega) (by omega) ?_
            rw [hfm]
            refine r_iadd C dX5_thing_79 ?_
            refine r_cS C cwX5_33 (c_X5_of (by omega) mput_1 (by omega) (by omega)) dX5_thing_80 rfl rfl rfl (Nat.le_of_ble_eq_true rfl) ⟨Nat.le_of_ble_eq_true rfl, Nat.le_of_ble_eq_true rfl⟩ ⟨Nat.le_of_ble_eq_true rfl, Nat.le_of_ble_eq_true rfl⟩ ?_
            exact r_iretD C dX5_thing_83 (by unfold thn darkR; rw [if_neg (by omega)]; first | rw [if_pos (by omega)] | rw [if_neg (by omega), if_pos (by omega), if_pos (by omega)] | rw [if_neg (by omega), if_neg (by omega)]) rfl
          · refine r_iload_n C dX5_thing_61 rfl rfl ?_
            refine r_iconst C dX5_thing_62 ?_
            refine r_irem C dX5_thing_63 (by omega) (by omega) ?_
            refine r_goto (tgt := 83) C dX5_thing_64 (by decide) ?_
            rw [hfm]
            exact r_iretD C dX5_thing_83 (by unfold thn darkR; rw [if_neg (by omega)]; first | rw [if_pos (by omega)] | rw [if_neg (by omega), if_pos (by omega), if_pos (by omega)] | rw [if_neg (by omega), if_neg (by omega)]) rfl
        · refine r_iload_n C dX5_thing_50 rfl rfl ?_
          refine r_iconst C dX5_thing_51 ?_
          refine r_idiv C dX5_thing_52 (by omega) (by omega) ?_
          rw [hf4]
          refine r_goto (tgt := 83) C dX5_thing_53 (by decide) ?_
          exact r_iretD C dX5_thing_83 (by unfold thn darkR; rw [if_neg (by omega)]; first | rw [if_pos (by omega)] | rw [if_neg (by omega), if_pos (by omega), if_pos (by omega)] | rw [if_neg (by omega), if_neg (by omega)]) rfl
      · refine r_iconst C dX5_thing_44 ?_
        exact r_iretD C dX5_thing_45 (by unfold thn; rw [if_pos (by omega)]) rfl
    · exact absurd hw0 (by omega)

set_option maxRecDepth 100000 in
set_option maxHeartbeats 4000000 in
theorem c_X5_thing_f1 {l : Launch} {D : va_G} {ty : Nat → ClassId} {ad : Int → Nat} {N : Int} {σ : Int → va_E} {m : Int} {v s t p x q : Int → Int} {key w : Int} (hm : 0 ≤ m ∧ m + 6 ≤ N)  (hnt : ¬ ((0 ≤ key ∧ key ≤ 99) ∧ (0 ≤ w ∧ w < 3))) (hkey : -2147483648 ≤ key ∧ key < 2147483648) (hw : -2147483648 ≤ w ∧ w < 2147483648) : gM0 l yX5_thing cX5_thing 4 (some .int) 2 44 [.ref (ad m), .int (gI key), .int (gI w)] D ty ad N (mput ad ty σ m (v) (s) (t) (p) (x) (q)) (some (.int (gI 0))) (mput ad ty σ m (up v 6 1) (s) (t) (p) (x) (q)) := by
  refine gMet_of [some (.ref (ad m)), some (.int (gI key)), some (.int (gI w)), none] (by decide +kernel) rfl (Nat.le_of_ble_eq_true rfl) rfl ?_
  intro X hl hD hty C hini
  subst hl hD hty
  refine r_aload_n C dX5_thing_0 rfl rfl ?_
  refine r_iconst C dX5_thing_1 ?_
  refine mm_put (j := 6) C flX5_25 dX5_thing_2 hm (by decide) rfl rfl rfl rfl ?_
  try rw [up_up]
  refine r_iload_n C dX5_thing_5 rfl rfl ?_
  refine r_iconst C dX5_thing_6 ?_
  refine r_bipush C dX5_thing_7 (by decide) ?_
  refine r_cS C cwX5_29 (c_X5_in (by omega) (by omega) (by omega)) dX5_thing_9 rfl rfl rfl (Nat.le_of_ble_eq_true rfl) ⟨Nat.le_of_ble_eq_true rfl, Nat.le_of_ble_eq_true rfl⟩ ⟨Nat.le_of_ble_eq_true rfl, Nat.le_of_ble_eq_true rfl⟩ ?_
  refine r_ifb_eq (tgt := 24) C dX5_thing_12 (by decide) (fun h12 => ?_) (fun h12 => ?_)
  · refine r_aload_n C dX5_thing_24 rfl rfl ?_
    refine r_iconst C dX5_thing_25 ?_
    refine r_cV C cwX5_44 (c_X5_fails hm) dX5_thing_26 rfl (by omega) mput_0 rfl rfl rfl (Nat.le_of_ble_eq_true rfl) ⟨Nat.le_of_ble_eq_true rfl, Nat.le_of_ble_eq_true rfl⟩ ⟨Nat.le_of_ble_eq_true rfl, Nat.le_of_ble_eq_true rfl⟩ ?_
    exact r_iretD C dX5_thing_29 rfl (by rw [up_up])
  · refine r_iload_n C dX5_thing_15 rfl rfl ?_
    refine r_iconst C dX5_thing_16 ?_
    refine r_iconst C dX5_thing_17 ?_
    refine r_cS C cwX5_29 (c_X5_in (by omega) (by omega) (by omega)) dX5_thing_18 rfl rfl rfl (Nat.le_of_ble_eq_true rfl) ⟨Nat.le_of_ble_eq_true rfl, Nat.le_of_ble_eq_true rfl⟩ ⟨Nat.le_of_ble_eq_true rfl, Nat.le_of_ble_eq_true rfl⟩ ?_
    refine r_ifb_ne (tgt := 30) C dX5_thing_21 (by decide) (fun h21 => ?_) (fun h21 => ?_)
    · exact absurd h21 (by omega)
    · refine r_aload_n C dX5_thing_24 rfl rfl ?_
      refine r_iconst C dX5_thing_25 ?_
      refine r_cV C cwX5_44 (c_X5_fails hm) dX5_thing_26 rfl (by omega) mput_0 rfl rfl rfl (Nat.le_of_ble_eq_true rfl) ⟨Nat.le_of_ble_eq_true rfl, Nat.le_of_ble_eq_true rfl⟩ ⟨Nat.le_of_ble_eq_true rfl, Nat.le_of_ble_eq_true rfl⟩ ?_
      exact r_iretD C dX5_thing_29 rfl (by rw [up_up])

set_option maxRecDepth 100000 in
set_option maxHeartbeats 4000000 in
theorem c_X5_things {l : Launch} {D : va_G} {ty : Nat → ClassId} {ad : Int → Nat} {N : Int} {σ : Int → va_E} {m : Int} {v s t p x q : Int → Int} (hm : 0 ≤ m ∧ m + 6 ≤ N) (hs : okS s)  : gM0 l yX5_things cX5_things 3 (some .int) 1 22 [.ref (ad m)] D ty ad N (mput ad ty σ m (v) (s) (t) (p) (x) (q)) (some (.int (gI (thg s)))) (mput ad ty σ m (v) (s) (t) (p) (x) (q)) := by
  refine gMet_of [some (.ref (ad m)), none, none] (by decide +kernel) rfl (Nat.le_of_ble_eq_true rfl) rfl ?_
  intro X hl hD hty C hini
  subst hl hD hty
  refine r_iconst C dX5_things_0 ?_
  refine r_istore_n C dX5_things_1 rfl (Nat.le_of_ble_eq_true rfl) rfl ?_
  dsimp only [List.set]
  refine r_iconst C dX5_things_2 ?_
  refine r_istore_n C dX5_things_3 rfl (Nat.le_of_ble_eq_true rfl) rfl ?_
  dsimp only [List.set]
  have lp : ∀ (n : Nat) (i g : Int), (0 ≤ i) → (i + n = 6) → (g + sumF (fun r => rm s r 6) n i = thg s) → V X 0 0 (gQ X (gD (some (.int (gI (thg s)))) ad N (mput ad (gty X) σ m (v) (s) (t) (p) (x) (q))) 0 0) 4 [some (.ref (ad m)), some (.int (gI g)), some (.int (gI i))] [] ad N (mput ad (gty X) σ m (v) (s) (t) (p) (x) (q)) := by
    intro n
    induction n with
    | zero =>
      intro i g hp hpn e
      refine r_iload_n C dX5_things_4 rfl rfl ?_
      refine r_bipush C dX5_things_5 (by decide) ?_
      refine r_icmp_ge (tgt := 29) C dX5_things_7 (by decide) (by omega) (by omega) (fun h7 => ?_) (fun h7 => ?_)
      · refine r_iload_n C dX5_things_29 rfl rfl ?_
        exact r_iretD C dX5_things_30 (by rw [← e]; simp only [sumF]; omega) rfl
      · exact absurd h7 (by omega)
    | succ n ih =>
      intro i g hp hpn e
      refine r_iload_n C dX5_things_4 rfl rfl ?_
      refine r_bipush C dX5_things_5 (by decide) ?_
      refine r_icmp_ge (tgt := 29) C dX5_things_7 (by decide) (by omega) (by omega) (fun h7 => ?_) (fun h7 => ?_)
      · exact absurd h7 (by omega)
      · refine r_iload_n C dX5_things_10 rfl rfl ?_
        refine r_aload_n C dX5_things_11 rfl rfl ?_
        refine mm_get C flX5_7 dX5_things_12 hm rfl ?_
        refine r_iload_n C dX5_things_15 rfl rfl ?_
        refine r_bipush C dX5_things_16 (by decide) ?_
        refine r_cS C cwX5_33 (c_X5_of (by omega) mput_1 (by omega) (by omega)) dX5_things_18 rfl rfl rfl (Nat.le_of_ble_eq_true rfl) ⟨Nat.le_of_ble_eq_true rfl, Nat.le_of_ble_eq_true rfl⟩ ⟨Nat.le_of_ble_eq_true rfl, Nat.le_of_ble_eq_true rfl⟩ ?_
        refine r_iadd C dX5_things_21 ?_
        refine r_istore_n C dX5_things_22 rfl (Nat.le_of_ble_eq_true rfl) rfl ?_
        dsimp only [List.set]
        refine r_iinc C dX5_things_23 rfl rfl ?_
        dsimp only [List.set]
        refine r_goto (tgt := 4) C dX5_things_26 (by decide) ?_
        exact ih _ _ (by omega) (by omega) (by rw [← e]; simp only [sumF]; omega)
  exact lp 6 0 0 (by omega) (by omega) (by unfold thg; omega)

