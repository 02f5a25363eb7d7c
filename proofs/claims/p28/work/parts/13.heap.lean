/-! rows over V that read and write the world; calls -/
section HEAP
variable {X : gT} {cc : ByteArray} {nL : Nat} {own : String} {R : Room} {ret : Option FieldType} {kc kn : Nat} {Q : State → Prop} {pc : Nat} {L : List (Option Value)} {st : List Value} {ad : Int → Nat} {N : Int} {σ : Int → va_E}
theorem r_get (C : gOk X cc nL own R ret) {idx ci f n : Nat} {CN : String} {T : u_T} {ty : Nat → FieldType} (fl : gFL own idx ci f CN T n ty) (hd : decode cc pc = .ok (.getfield idx, 3)) {a : Int} (ha : 0 ≤ a ∧ a < N) {fs : List Value} {v : Value} (hσ : σ a = .inr (ci, fs)) (hv : fs[f]? = some v)
    (k : V X kc kn Q (pc + 3) L (v :: st) ad N σ) : V X kc kn Q pc L (.ref (ad a) :: st) ad N σ := fun ls H locs hl hw =>
  va_get C.1 C.2.1 (Ts := WS) C.2.2.2.2.1 fl.1 C.2.2.2.1 C.2.2.2.2.2.2.2.2.1 hw.1 a.toNat (by rw [gl_at ha, hσ]) fl.2.1 f fl.2.2.1 (C.2.2.2.2.1 _ fl.2.2.2.1) (fun _ h => h) hv hd (k ls H locs hl hw)
theorem r_put (C : gOk X cc nL own R ret) {idx ci f n : Nat} {CN : String} {T : u_T} {ty : Nat → FieldType} (fl : gFL own idx ci f CN T n ty) (hd : decode cc pc = .ok (.putfield idx, 3)) {a : Int} (ha : 0 ≤ a ∧ a < N) {fs : List Value} {v : Value} (hσ : σ a = .inr (ci, fs)) (hfin : (T f).2.2.2 = false) (hn : narrow (ty f) v = v) (hfit : fits (ty f) v = true) (hlen : f < fs.length)
    (k : V X kc kn Q (pc + 3) L st ad N (up σ a (.inr (ci, fs.set f v)))) : V X kc kn Q pc L (v :: .ref (ad a) :: st) ad N σ := fun ls H locs hl hw =>
  va_put C.1 C.2.1 (Ts := WS) C.2.2.2.2.1 fl.1 ty fl.2.2.2.2.1 fl.2.2.2.2.2 C.2.2.2.1 C.2.2.2.2.2.2.2.2.1 hw.1 hw.2.1 hw.2.2 a.toNat (by rw [gl_at ha, hσ]) fl.2.1 f fl.2.2.1 (C.2.2.2.2.1 _ fl.2.2.2.1) (fun _ h => h) hfin (fl.2.2.2.2.1 f fl.2.2.1) hn hfit hlen hd
    (fun H1 locs1 hP hD hS => k ls H1 locs1 hl ⟨by rw [gl_set ha] at hP; exact hP, by rw [gl_set ha] at hD; exact hD, hS⟩)
theorem r_putF (C : gOk X cc nL own R ret) (hini : (gme X).name = "<init>") {idx ci f n : Nat} {CN : String} {T : u_T} {ty : Nat → FieldType} (fl : gFL own idx ci f CN T n ty) (hd : decode cc pc = .ok (.putfield idx, 3)) {a : Int} (ha : 0 ≤ a ∧ a < N) {fs : List Value} {v : Value} (hσ : σ a = .inr (ci, fs)) (hfin : (T f).2.2.2 = true) (hdecl : (T f).1 = own) (hn : narrow (ty f) v = v) (hfit : fits (ty f) v = true) (hlen : f < fs.length)
    (k : V X kc kn Q (pc + 3) L st ad N (up σ a (.inr (ci, fs.set f v)))) : V X kc kn Q pc L (v :: .ref (ad a) :: st) ad N σ := fun ls H locs hl hw =>
  va_putF C.1 C.2.1 (Ts := WS) C.2.2.2.2.1 fl.1 ty fl.2.2.2.2.1 fl.2.2.2.2.2 C.2.2.2.1 C.2.2.2.2.2.2.2.2.1 hw.1 hw.2.1 hw.2.2 a.toNat (by rw [gl_at ha, hσ]) fl.2.1 f fl.2.2.1 (C.2.2.2.2.1 _ fl.2.2.2.1) (fun _ h => h) hfin hini hdecl (fl.2.2.2.2.1 f fl.2.2.1) hn hfit hlen hd
    (fun H1 locs1 hP hD hS => k ls H1 locs1 hl ⟨by rw [gl_set ha] at hP; exact hP, by rw [gl_set ha] at hD; exact hD, hS⟩)
/-- an array of ints (chars) that holds g -/
def gAr (c : ClassId) (n : Nat) (g : Int → Int) : va_E := .inl (c, n, .inl (fun j => if j < n then gI (g (j : Int)) else 0))
theorem gAr_ext {c : ClassId} {n : Nat} {g g' : Int → Int} (h : ∀ j : Int, 0 ≤ j → j < n → g j = g' j) : gAr c n g = gAr c n g' := by
  unfold gAr
  have e : (fun j : Nat => if j < n then gI (g (j : Int)) else 0) = (fun j : Nat => if j < n then gI (g' (j : Int)) else 0) := by
    funext j
    by_cases hj : j < n
    · rw [if_pos hj, if_pos hj, h j (by omega) (by omega)]
    · rw [if_neg hj, if_neg hj]
  rw [e]
theorem gAr_at {n : Nat} {g : Int → Int} {i : Int} (hi : 0 ≤ i ∧ i < n) : (if i.toNat < n then gI (g (i.toNat : Int)) else 0) = gI (g i) := by
  rw [if_pos (by omega), Int.toNat_of_nonneg hi.1]
theorem gAr_upd (g : Int → Int) {n : Nat} {i : Int} (hi : 0 ≤ i ∧ i < n) (z : Int) : upd (fun j : Nat => if j < n then gI (g (j : Int)) else 0) i.toNat (gI z) = fun j : Nat => if j < n then gI (up g i z (j : Int)) else 0 := by
  funext j
  unfold upd up
  by_cases h : j = i.toNat
  · rw [if_pos h, if_pos (by omega), if_pos (by omega)]
  · rw [if_neg h, if_neg (show ¬ (j : Int) = i by omega)]
theorem r_iald (C : gOk X cc nL own R ret) (hd : decode cc pc = .ok (.iaload, 1)) {a i : Int} {n : Nat} {g : Int → Int} (ha : 0 ≤ a ∧ a < N) (hσ : σ a = gAr (gty X 0) n g) (hi : 0 ≤ i ∧ i < n) (hn : n < 2147483648)
    (k : V X kc kn Q (pc + 1) L (.int (gI (g i)) :: st) ad N σ) : V X kc kn Q pc L (.int (gI i) :: .ref (ad a) :: st) ad N σ := fun ls H locs hl hw =>
  va_iald C.1 C.2.1 C.2.2.2.2.2.2.2.2.1 hw.1 a.toNat 0 (by rw [gl_at ha, hσ]; rfl) rfl (gI_in hi hn) hd (by rw [gI_clamp (by omega), gAr_at hi]; exact k ls H locs hl hw)
theorem r_iast (C : gOk X cc nL own R ret) (hd : decode cc pc = .ok (.iastore, 1)) {a i z : Int} {n : Nat} {g : Int → Int} (ha : 0 ≤ a ∧ a < N) (hσ : σ a = gAr (gty X 0) n g) (hi : 0 ≤ i ∧ i < n) (hn : n < 2147483648)
    (k : V X kc kn Q (pc + 1) L st ad N (up σ a (gAr (gty X 0) n (up g i z)))) : V X kc kn Q pc L (.int (gI z) :: .int (gI i) :: .ref (ad a) :: st) ad N σ := fun ls H locs hl hw =>
  va_iast C.1 C.2.1 C.2.2.2.2.2.2.2.2.1 hw.1 hw.2.1 hw.2.2 a.toNat 0 (by rw [gl_at ha, hσ]; rfl) rfl (gI_in hi hn) hd (fun H1 locs1 hP hD hS => by
    rw [gI_clamp (by omega), gAr_upd g hi, gl_set ha] at hP hD
    exact k ls H1 locs1 hl ⟨hP, hD, hS⟩)
theorem r_cald (C : gOk X cc nL own R ret) (hd : decode cc pc = .ok (.caload, 1)) {a i : Int} {n : Nat} {g : Int → Int} (ha : 0 ≤ a ∧ a < N) (hσ : σ a = gAr (gty X 1) n g) (hi : 0 ≤ i ∧ i < n) (hn : n < 2147483648)
    (k : V X kc kn Q (pc + 1) L (.int (gI (g i)) :: st) ad N σ) : V X kc kn Q pc L (.int (gI i) :: .ref (ad a) :: st) ad N σ := fun ls H locs hl hw =>
  va_cald C.1 C.2.1 C.2.2.2.2.2.2.2.2.1 hw.1 a.toNat 1 (by rw [gl_at ha, hσ]; rfl) rfl (gI_in hi hn) hd (by rw [gI_clamp (by omega), gAr_at hi]; exact k ls H locs hl hw)
theorem gI_char {z : Int} (h : 0 ≤ z ∧ z < 65536) : ((gI z).toUInt32 % 65536).toInt32 = gI z := lg_i2c_word (by rw [gI_toInt (by omega)]; exact h.1) (by rw [gI_toInt (by omega)]; exact h.2)
theorem gI_nar {z : Int} (h : 0 ≤ z ∧ z < 65536) : vp_nar .char (gI z) = gI z := by
  rw [vp_nar_char, ← lg_i2c_nf, gI_char h]
theorem r_cast (C : gOk X cc nL own R ret) (hd : decode cc pc = .ok (.castore, 1)) {a i z : Int} {n : Nat} {g : Int → Int} (ha : 0 ≤ a ∧ a < N) (hσ : σ a = gAr (gty X 1) n g) (hi : 0 ≤ i ∧ i < n) (hn : n < 2147483648) (hz : 0 ≤ z ∧ z < 65536)
    (k : V X kc kn Q (pc + 1) L st ad N (up σ a (gAr (gty X 1) n (up g i z)))) : V X kc kn Q pc L (.int (gI z) :: .int (gI i) :: .ref (ad a) :: st) ad N σ := fun ls H locs hl hw =>
  va_cast C.1 C.2.1 C.2.2.2.2.2.2.2.2.1 hw.1 hw.2.1 hw.2.2 a.toNat 1 (by rw [gl_at ha, hσ]; rfl) rfl (gI_in hi hn) hd (fun H1 locs1 hP hD hS => by
    rw [gI_nar hz, gI_clamp (by omega), gAr_upd g hi, gl_set ha] at hP hD
    exact k ls H1 locs1 hl ⟨hP, hD, hS⟩)
/-- an array of references -/
def gRA (c : ClassId) (n : Nat) (f : Nat → Option Nat) : va_E := .inl (c, n, .inr (.inr (.inr (.inr f))))
theorem r_aald (C : gOk X cc nL own R ret) (hd : decode cc pc = .ok (.aaload, 1)) {a i : Int} {n t : Nat} {f : Nat → Option Nat} {c : ClassId} {CN : String} {q : Nat} (ha : 0 ≤ a ∧ a < N) (hσ : σ a = gRA c n f) (ht : (gtys (gty X))[t]? = some (c, .object CN)) (hi : 0 ≤ i ∧ i < n) (hn : n < 2147483648) (hf : f i.toNat = some q)
    (k : V X kc kn Q (pc + 1) L (.ref q :: st) ad N σ) : V X kc kn Q pc L (.int (gI i) :: .ref (ad a) :: st) ad N σ := fun ls H locs hl hw =>
  va_aldq C.1 C.2.1 C.2.2.2.2.2.2.2.2.1 hw.1 a.toNat t (by rw [gl_at ha, hσ]; rfl) ht (gI_in hi hn) hd (by rw [gI_clamp (by omega), hf]; exact k ls H locs hl hw)
theorem r_aast (C : gOk X cc nL own R ret) (hd : decode cc pc = .ok (.aastore, 1)) {a b i : Int} {n t ci : Nat} {f : Nat → Option Nat} {c : ClassId} {r : vw_C} {vs : List Value} (ha : 0 ≤ a ∧ a < N) (hσ : σ a = gRA c n f) (ht : (gtys (gty X))[t]? = some (c, .object r.1)) (hi : 0 ≤ i ∧ i < n) (hn : n < 2147483648) (hb : 0 ≤ b ∧ b < N) (hσb : σ b = .inr (ci, vs)) (hci : vwCl[ci]? = some r)
    (k : V X kc kn Q (pc + 1) L st ad N (up σ a (gRA c n (va_up f i.toNat (some (ad b)))))) : V X kc kn Q pc L (.ref (ad b) :: .int (gI i) :: .ref (ad a) :: st) ad N σ := fun ls H locs hl hw =>
  va_astq C.1 C.2.1 C.2.2.2.2.2.2.2.2.1 hw.1 hw.2.1 hw.2.2 a.toNat t b.toNat ci (by rw [gl_at ha, hσ]; rfl) ht (by rw [gl_at hb, hσb]) hci (gI_in hi hn) hd (fun H1 locs1 hP hD hS => by
    rw [gI_clamp (by omega), gl_set ha] at hP hD
    exact k ls H1 locs1 hl ⟨hP, hD, hS⟩)
/-- an array of longs -/
def gLA (c : ClassId) (n : Nat) (f : Nat → Int64) : va_E := .inl (c, n, .inr (.inl f))
/-- System.arraycopy of ints -/
def gcpy (f g : Int → Int) (sp dp n : Int) : Int → Int := fun j => if dp ≤ j ∧ j < dp + n then f (sp + (j - dp)) else g j
theorem r_copy (C : gOk X cc nL own R ret) {idx : Nat} (hk : Cond.methodLink own idx arraycopyName ∈ WS ∧ Cond.native arraycopyName ∈ WS ∧ Cond.static arraycopyName ∈ WS ∧ Cond.initialized "java/lang/System" ∈ WS) (hd : decode cc pc = .ok (.invokestatic idx, 3)) {a b sp dp m : Int} {n0 n1 : Nat} {f g : Int → Int} (ha : 0 ≤ a ∧ a < N) (hb : 0 ≤ b ∧ b < N) (hσa : σ a = gAr (gty X 0) n0 f) (hσb : σ b = gAr (gty X 0) n1 g) (h1 : 0 ≤ sp) (h2 : 0 ≤ dp) (h3 : 0 ≤ m) (h4 : sp + m ≤ n0) (h5 : dp + m ≤ n1) (hn : n0 < 2147483648 ∧ n1 < 2147483648) (hL : L.length = nL) (hf : 1 ≤ R.frames) (hlo : (st.map fun v => v.category).sum + (nativeFrameWords "java/lang/System" "arraycopy" 5 + 11) ≤ R.locals)
    (k : V X kc kn Q (pc + 3) L st ad N (up σ b (gAr (gty X 0) n1 (gcpy f g sp dp m)))) : V X kc kn Q pc L (.int (gI m) :: .int (gI dp) :: .ref (ad b) :: .int (gI sp) :: .ref (ad a) :: st) ad N σ := fun ls H locs hl hw => by
  have hR := C.2.2.2.2.2.2.2.1
  have e1 := gI_clamp (z := sp) (by omega)
  have e2 := gI_clamp (z := dp) (by omega)
  have e3 := gI_clamp (z := m) (by omega)
  have nn : ∀ z : Int, 0 ≤ z → z < 2147483648 → ¬ gI z < 0 := fun z h h' => by rw [← gI_0, gI_lt (by omega) (by omega)]; omega
  refine va_copyi C.1 C.2.1 (by rw [C.2.2.1, hl.1, hL]) C.2.2.2.1 (C.2.2.2.2.1 _ hk.1) (C.2.2.2.2.1 _ hk.2.1) (C.2.2.2.2.1 _ hk.2.2.1) (C.2.2.2.2.1 _ hk.2.2.2) C.2.2.2.2.2.2.2.2.1 hw.1 hw.2.1 hw.2.2 a.toNat b.toNat 0 0 (by rw [gl_at ha, hσa]; rfl) (by rw [gl_at hb, hσb]; rfl) rfl rfl rfl (nn _ h1 (by omega)) (nn _ h2 (by omega)) (nn _ h3 (by omega)) (by rw [e1, e3]; omega) (by rw [e2, e3]; omega) (fun _ _ => rfl) (by rw [hR]; exact hf) (by rw [hR]; exact hlo) hd (fun H1 locs1 hP hD hS => ?_)
  have e : va_cpy (fun j : Nat => if j < n0 then gI (f (j : Int)) else 0) (fun j : Nat => if j < n1 then gI (g (j : Int)) else 0) (gI sp).toNatClampNeg (gI dp).toNatClampNeg (gI m).toNatClampNeg = fun j : Nat => if j < n1 then gI (gcpy f g sp dp m (j : Int)) else 0 := by
    rw [e1, e2, e3]
    funext j
    unfold va_cpy gcpy
    by_cases h : dp.toNat ≤ j ∧ j < dp.toNat + m.toNat
    · rw [if_pos h]
      show (if sp.toNat + (j - dp.toNat) < n0 then gI (f ((sp.toNat + (j - dp.toNat) : Nat) : Int)) else 0) = _
      rw [if_pos (by omega), if_pos (by omega), if_pos (by omega)]
      rw [show ((sp.toNat + (j - dp.toNat) : Nat) : Int) = sp + ((j : Int) - dp) by omega]
    · rw [if_neg h, if_neg (show ¬ (dp ≤ (j : Int) ∧ (j : Int) < dp + m) by omega)]
  rw [e, gl_set hb] at hP hD
  exact k ls H1 locs1 hl ⟨hP, hD, hS⟩
/-- Math.max, Math.min -/
theorem r_max (C : gOk X cc nL own R ret) {idx : Nat} (hk : Cond.methodLink own idx Lib.Math.max.name ∈ WS ∧ Cond.static Lib.Math.max.name ∈ WS ∧ Cond.initialized "java/lang/Math" ∈ WS ∧ Cond.code Lib.Math.max.name Lib.Math.max.code 2 (some .int) ∈ WS) (hd : decode cc pc = .ok (.invokestatic idx, 3)) {a b : Int} (ha : -2147483648 ≤ a ∧ a < 2147483648) (hb : -2147483648 ≤ b ∧ b < 2147483648) (hL : L.length = nL) (hR : 1 ≤ R.frames ∧ (st.map fun v => v.category).sum + 13 ≤ R.locals) (hc : kc ≤ R.cells ∧ kn ≤ R.slots)
    (k : V X kc kn Q (pc + 3) L (.int (gI (max a b)) :: st) ad N σ) : V X kc kn Q pc L (.int (gI b) :: .int (gI a) :: st) ad N σ := fun ls H locs hl hw => by
  have hR' := C.2.2.2.2.2.2.2.1
  refine va_mmax C.1 C.2.1 (by rw [C.2.2.1, hl.1, hL]) C.2.2.2.1 (C.2.2.2.2.1 _ hk.1) (C.2.2.2.2.1 _ hk.2.1) (C.2.2.2.2.1 _ hk.2.2.1) (C.2.2.2.2.1 _ hk.2.2.2) (by rw [hR']; exact hR.1) (by rw [hR']; exact hR.2) (by rw [hR']; exact hc.1) (by rw [hR']; exact hc.2) hd ?_
  have e : (if gI a < gI b then gI b else gI a) = gI (max a b) := by
    by_cases h : a < b
    · rw [if_pos ((gI_lt ha hb).mpr h), Int.max_eq_right (by omega)]
    · rw [if_neg (mt (gI_lt ha hb).mp h), Int.max_eq_left (by omega)]
  rw [e]
  exact k ls H locs hl hw
theorem r_min (C : gOk X cc nL own R ret) {idx : Nat} (hk : Cond.methodLink own idx Lib.Math.min.name ∈ WS ∧ Cond.static Lib.Math.min.name ∈ WS ∧ Cond.initialized "java/lang/Math" ∈ WS ∧ Cond.code Lib.Math.min.name Lib.Math.min.code 2 (some .int) ∈ WS) (hd : decode cc pc = .ok (.invokestatic idx, 3)) {a b : Int} (ha : -2147483648 ≤ a ∧ a < 2147483648) (hb : -2147483648 ≤ b ∧ b < 2147483648) (hL : L.length = nL) (hR : 1 ≤ R.frames ∧ (st.map fun v => v.category).sum + 13 ≤ R.locals) (hc : kc ≤ R.cells ∧ kn ≤ R.slots)
    (k : V X kc kn Q (pc + 3) L (.int (gI (min a b)) :: st) ad N σ) : V X kc kn Q pc L (.int (gI b) :: .int (gI a) :: st) ad N σ := fun ls H locs hl hw => by
  have hR' := C.2.2.2.2.2.2.2.1
  refine va_mmin C.1 C.2.1 (by rw [C.2.2.1, hl.1, hL]) C.2.2.2.1 (C.2.2.2.2.1 _ hk.1) (C.2.2.2.2.1 _ hk.2.1) (C.2.2.2.2.1 _ hk.2.2.1) (C.2.2.2.2.1 _ hk.2.2.2) (by rw [hR']; exact hR.1) (by rw [hR']; exact hR.2) (by rw [hR']; exact hc.1) (by rw [hR']; exact hc.2) hd ?_
  have e : (if gI b < gI a then gI b else gI a) = gI (min a b) := by
    by_cases h : b < a
    · rw [if_pos ((gI_lt hb ha).mpr h), Int.min_eq_right (by omega)]
    · rw [if_neg (mt (gI_lt hb ha).mp h), Int.min_eq_left (by omega)]
  rw [e]
  exact k ls H locs hl hw
/-- Object.<init> -/
theorem r_objInit (C : gOk X cc nL own R ret) {idx : Nat} (hk : Cond.methodLink own idx objectInit ∈ WS ∧ Cond.instanceMethod objectInit ∈ WS ∧ Cond.code objectInit ⟨#[0xb1]⟩ 1 none ∈ WS) (hd : decode cc pc = .ok (.invokespecial idx, 3)) {q : Nat} (hL : L.length = nL) (hR : 1 ≤ R.frames ∧ (st.map fun v => v.category).sum + 12 ≤ R.locals)
    (k : V X kc kn Q (pc + 3) L st ad N σ) : V X kc kn Q pc L (.ref q :: st) ad N σ := fun ls H locs hl hw => by
  have hR' := C.2.2.2.2.2.2.2.1
  refine W.objInit C.1 C.2.1 C.2.2.2.1 (C.2.2.2.2.1 _ hk.1) (C.2.2.2.2.1 _ hk.2.1) (C.2.2.2.2.1 _ hk.2.2) rfl (by rw [C.2.2.1]; exact hl.1.trans hL) rfl hd (by rw [hR']; exact hR.1) ?_ (k ls H locs hl hw)
  rw [hR', show 2 * (F0 (gmi X) pc ls (.ref q :: st)).monitorRoom = 0 from rfl, Nat.zero_add]
  exact hR.2
/-- behind a call -/
theorem g_back (C : gOk X cc nL own R ret) {post : gPost} {mc ms : Nat} {rest : List Value} {a : Array Value} {ls : Array Slot} {H : Heap} {locs : List Loc}
    (hr : va_Run (gpr X) (gln X) (gev X) (gRm X) (gst X) (gmi X) (gar X) (gbl X) (gme X) (gco X) H locs kc kn mc ms (F0 (gmi X) pc ls st) rest (gQc (gDD X) (gty X) (gA ad N H.size) post a) (gA ad N H.size)) (hl : lv_has ls L.length (lpos 0 L)) (hw : gWd X ad N σ H locs)
    (kk : ∀ (rv : Option Value) (ad' : Int → Nat) (N' : Int) (σ' : Int → va_E), post rv ad' N' σ' → V X (kc + mc) (kn + ms) Q (pc + 3) L (rv.toList ++ rest) ad' N' σ') : gW X H locs kc kn Q (F0 (gmi X) pc ls st) := by
  intro T hT X0
  obtain ⟨v, st₀, t, T', L1, h0, X', hL, e1, e2, ⟨⟨rv, ad', N', σ', hv, hp, hg, hin⟩, hz, hk⟩, stp⟩ := hr T hT X0
  cases hv
  rw [h0] at hz hk
  have hf := gA_free C.2.2.2.2.2.2.2.2.2.1 hw
  obtain ⟨t2, a1, b1⟩ := kk v ad' N' σ' hp ls T'.heap (locs ++ L1) hl
    ⟨by rw [e1]; exact hg.1, ⟨hg.2.2.1.1, fun k q hq => by
      obtain ⟨g1, g2⟩ := gl_of hq
      rw [g2]
      exact hf _ (hin k g1)⟩, ⟨Nat.le_trans hw.2.2.1 (by rw [e1]; exact hz), fun q h1 h2 => by rw [e1, hk q (Nat.lt_of_lt_of_le h1 hw.2.2.1) (fun z => h2 (hf q z))]; exact hw.2.2.2.1 q h1 h2, fun q hq => by
      rcases List.mem_append.mp hq with h | h
      · exact hw.2.2.2.2 q h
      · exact hf _ (hL q h)⟩⟩ T' rfl X'
  exact ⟨t2, stp t2 a1, b1⟩
theorem g_blind {av : List Value} {sz : Nat} {D : va_G} {ty : Nat → ClassId} : FrameBlind (va_Pc av (fun U => U.heap.size = sz ∧ gw D ty ad N σ U)) := fun a U g mk q => by
  obtain ⟨q0, q1, qP, qK, qD, qO, qO3, qN⟩ := q
  exact ⟨q0, q1, qP, va_K.moved (u := U) (U := U.calling g mk a) (Vm.Alike.refl U.vm) qK, qD, qO.moved (U := U.calling g mk a) (Vm.Alike.refl U.vm), qO3.moved (U := U.calling g mk a) (Vm.Alike.refl U.vm), gNs.same (U := U.calling g mk a) rfl qN⟩
theorem g_good {y : MethodName} {b : ByteArray} {n : Nat} {r : Option FieldType} (h : Cond.code y b n r ∈ WS) : GoodIn WS (Cond.code y b n r :: WS) := fun w hw => (List.mem_cons.mp hw).elim (fun e => by subst e; exact WS_good _ h) (WS_good w)
theorem g_pre {s U : State} {D : va_G} {ty : Nat → ClassId} {H : Heap} (hP : va_P D vwCl (gl ad N σ) H) (hD : ∃ A, va_D A (gl ad N σ)) (hK : va_K D vwCl (gtys ty) s) (hO : va_AO RX1 s ∧ va_AO RX3 s ∧ gNs s) (hU : U.heap = H) (hW : s.WarmedH U.vm) : U.heap.size = H.size ∧ gw D ty ad N σ U := by
  obtain ⟨A, hD⟩ := hD
  exact ⟨by rw [hU], by rw [hU]; exact hP, va_K.moved hW.alike hK, ⟨hD.1, fun _ _ _ => trivial⟩, hO.1.moved hW.alike, hO.2.1.moved hW.alike, hO.2.2.warm hW⟩
variable {idx nY np ci f0 lo : Nat} {y : MethodName} {cY : ByteArray} {rY : Option FieldType} {RY : Room} {As rest : List Value} {post : gPost} {fs : List Value}
theorem r_callV (C : gOk X cc nL own R ret) {CY : String} (w : gCV own idx CY y cY nY rY np) {b : Int} (hM : gMet (gln X) y cY nY rY RY (.ref (ad b) :: As) (gDD X) (gty X) ad N σ post) (hd : decode cc pc = .ok (.invokevirtual idx, 3)) (hst : st = As.reverse ++ .ref (ad b) :: rest) (hb : 0 ≤ b ∧ b < N) (hσ : σ b = .inr (ci, fs)) {T : u_T} {n : Nat} (hci : vwCl[ci]? = some (CY, T, n)) (hn : As.length = np) (hL : L.length = nL) (hW : (rest.map fun v => v.category).sum ≤ 8) (hR : RY.frames + 1 ≤ R.frames ∧ 8 + (nY + 11) + RY.locals ≤ R.locals) (hc : kc + RY.cells ≤ R.cells ∧ kn + RY.slots ≤ R.slots)
    (kk : ∀ (rv : Option Value) (ad' : Int → Nat) (N' : Int) (σ' : Int → va_E), post rv ad' N' σ' → V X (kc + RY.cells) (kn + RY.slots) Q (pc + 3) L (rv.toList ++ rest) ad' N' σ') : V X kc kn Q pc L st ad N σ := fun ls H locs hl hw => by
  have hR' := C.2.2.2.2.2.2.2.1
  have hts := C.2.2.2.2.1
  subst hst
  obtain ⟨w1, w2, w3, w4, w5, rfl, w7, w8, w9⟩ := w
  refine g_back C (va_runV (As := As) (rest := rest) ⟨C.1, C.2.1, C.2.2.1, C.2.2.2.1, hts⟩ (hM H.size) ⟨callB_of np hts (g_good w5) rfl rfl rfl (hts _ w4) (hts _ w1) ⟨w7, w8, w9⟩ (by rw [hR']; exact hR), hts _ w2, hts _ w3⟩ ⟨g_blind, ?_, fun U hU hW => ⟨rfl, g_pre hw.1 ⟨_, hw.2.1⟩ C.2.2.2.2.2.2.2.2.1 C.2.2.2.2.2.2.2.2.2.2 hU hW⟩⟩ rfl hn (hl.1.trans hL) rfl (lv_room hW) hd (by rw [hR']; exact hc)) hl hw kk
  exact va_recv (ci := ci) (q0 := b.toNat) C.2.2.2.2.2.2.2.2.1 hw.1 hci (by rw [gl_at hb, hσ])
theorem r_callS (C : gOk X cc nL own R ret) (w : gCS own idx y cY nY rY np) (hM : gMet (gln X) y cY nY rY RY As (gDD X) (gty X) ad N σ post) (hd : decode cc pc = .ok (.invokestatic idx, 3)) (hst : st = As.reverse ++ rest) (hn : As.length = np) (hL : L.length = nL) (hW : (rest.map fun v => v.category).sum ≤ 8) (hR : RY.frames + 1 ≤ R.frames ∧ 8 + (nY + 11) + RY.locals ≤ R.locals) (hc : kc + RY.cells ≤ R.cells ∧ kn + RY.slots ≤ R.slots)
    (kk : ∀ (rv : Option Value) (ad' : Int → Nat) (N' : Int) (σ' : Int → va_E), post rv ad' N' σ' → V X (kc + RY.cells) (kn + RY.slots) Q (pc + 3) L (rv.toList ++ rest) ad' N' σ') : V X kc kn Q pc L st ad N σ := fun ls H locs hl hw => by
  have hR' := C.2.2.2.2.2.2.2.1
  have hts := C.2.2.2.2.1
  subst hst
  obtain ⟨w1, w2, w4, w5, w7, w8, w9⟩ := w
  exact g_back C (va_runS (As := As) (rest := rest) ⟨C.1, C.2.1, C.2.2.1, C.2.2.2.1, hts⟩ (hM H.size) ⟨callB_of np hts (g_good w5) rfl rfl rfl (hts _ w4) (hts _ w1) ⟨w7, w8, w9⟩ (by rw [hR']; exact hR), hts _ w2⟩ ⟨g_blind, fun U hU hW => ⟨rfl, g_pre hw.1 ⟨_, hw.2.1⟩ C.2.2.2.2.2.2.2.2.1 C.2.2.2.2.2.2.2.2.2.2 hU hW⟩⟩ rfl hn (hl.1.trans hL) rfl (lv_room hW) hd (by rw [hR']; exact hc)) hl hw kk
theorem r_callI (C : gOk X cc nL own R ret) (w : gCI own idx y cY nY np) {q : Nat} (hM : gMet (gln X) y cY nY none RY (.ref q :: As) (gDD X) (gty X) ad N σ post) (hd : decode cc pc = .ok (.invokespecial idx, 3)) (hst : st = As.reverse ++ .ref q :: rest) (hn : As.length = np) (hL : L.length = nL) (hW : (rest.map fun v => v.category).sum ≤ 8) (hR : RY.frames + 1 ≤ R.frames ∧ 8 + (nY + 11) + RY.locals ≤ R.locals) (hc : kc + RY.cells ≤ R.cells ∧ kn + RY.slots ≤ R.slots)
    (kk : ∀ (rv : Option Value) (ad' : Int → Nat) (N' : Int) (σ' : Int → va_E), post rv ad' N' σ' → V X (kc + RY.cells) (kn + RY.slots) Q (pc + 3) L (rv.toList ++ rest) ad' N' σ') : V X kc kn Q pc L st ad N σ := fun ls H locs hl hw => by
  have hR' := C.2.2.2.2.2.2.2.1
  have hts := C.2.2.2.2.1
  subst hst
  obtain ⟨w1, w2, w4, w5, w6, w7, w8, w9⟩ := w
  exact g_back C (va_runI (As := As) (rest := rest) ⟨C.1, C.2.1, C.2.2.1, C.2.2.2.1, hts⟩ (hM H.size) ⟨callB_of np hts (g_good w5) rfl rfl rfl (hts _ w4) (hts _ w1) ⟨w7, w8, w9⟩ (by rw [hR']; exact hR), w6, hts _ w2⟩ ⟨g_blind, fun U hU hW => ⟨rfl, g_pre hw.1 ⟨_, hw.2.1⟩ C.2.2.2.2.2.2.2.2.1 C.2.2.2.2.2.2.2.2.2.2 hU hW⟩⟩ rfl hn (hl.1.trans hL) rfl (lv_room hW) hd (by rw [hR']; exact hc)) hl hw kk
/-- calls of methods that make nothing, with one answer -/
theorem r_cV (C : gOk X cc nL own R ret) {CY : String} (w : gCV own idx CY y cY nY rY np) {b : Int} {v : Value} {σ' : Int → va_E} (hM : gM0 (gln X) y cY nY rY f0 lo (.ref (ad b) :: As) (gDD X) (gty X) ad N σ (some v) σ') (hd : decode cc pc = .ok (.invokevirtual idx, 3)) (hst : st = As.reverse ++ .ref (ad b) :: rest) (hb : 0 ≤ b ∧ b < N) (hσ : σ b = .inr (ci, fs)) {T : u_T} {n : Nat} (hci : vwCl[ci]? = some (CY, T, n)) (hn : As.length = np) (hL : L.length = nL) (hW : (rest.map fun v => v.category).sum ≤ 8) (hR : f0 + 1 ≤ R.frames ∧ 8 + (nY + 11) + lo ≤ R.locals) (hc : kc ≤ R.cells ∧ kn ≤ R.slots)
    (k : V X kc kn Q (pc + 3) L (v :: rest) ad N σ') : V X kc kn Q pc L st ad N σ :=
  r_callV C w hM hd hst hb hσ hci hn hL hW hR hc (fun rv ad' N' σ2 h => by obtain ⟨rfl, rfl, rfl, rfl⟩ := h; exact k)
theorem r_cVv (C : gOk X cc nL own R ret) {CY : String} (w : gCV own idx CY y cY nY rY np) {b : Int} {σ' : Int → va_E} (hM : gM0 (gln X) y cY nY rY f0 lo (.ref (ad b) :: As) (gDD X) (gty X) ad N σ none σ') (hd : decode cc pc = .ok (.invokevirtual idx, 3)) (hst : st = As.reverse ++ .ref (ad b) :: rest) (hb : 0 ≤ b ∧ b < N) (hσ : σ b = .inr (ci, fs)) {T : u_T} {n : Nat} (hci : vwCl[ci]? = some (CY, T, n)) (hn : As.length = np) (hL : L.length = nL) (hW : (rest.map fun v => v.category).sum ≤ 8) (hR : f0 + 1 ≤ R.frames ∧ 8 + (nY + 11) + lo ≤ R.locals) (hc : kc ≤ R.cells ∧ kn ≤ R.slots)
    (k : V X kc kn Q (pc + 3) L rest ad N σ') : V X kc kn Q pc L st ad N σ :=
  r_callV C w hM hd hst hb hσ hci hn hL hW hR hc (fun rv ad' N' σ2 h => by obtain ⟨rfl, rfl, rfl, rfl⟩ := h; exact k)
theorem r_cS (C : gOk X cc nL own R ret) (w : gCS own idx y cY nY rY np) {v : Value} {σ' : Int → va_E} (hM : gM0 (gln X) y cY nY rY f0 lo As (gDD X) (gty X) ad N σ (some v) σ') (hd : decode cc pc = .ok (.invokestatic idx, 3)) (hst : st = As.reverse ++ rest) (hn : As.length = np) (hL : L.length = nL) (hW : (rest.map fun v => v.category).sum ≤ 8) (hR : f0 + 1 ≤ R.frames ∧ 8 + (nY + 11) + lo ≤ R.locals) (hc : kc ≤ R.cells ∧ kn ≤ R.slots)
    (k : V X kc kn Q (pc + 3) L (v :: rest) ad N σ') : V X kc kn Q pc L st ad N σ :=
  r_callS C w hM hd hst hn hL hW hR hc (fun rv ad' N' σ2 h => by obtain ⟨rfl, rfl, rfl, rfl⟩ := h; exact k)
theorem r_cSv (C : gOk X cc nL own R ret) (w : gCS own idx y cY nY rY np) {σ' : Int → va_E} (hM : gM0 (gln X) y cY nY rY f0 lo As (gDD X) (gty X) ad N σ none σ') (hd : decode cc pc = .ok (.invokestatic idx, 3)) (hst : st = As.reverse ++ rest) (hn : As.length = np) (hL : L.length = nL) (hW : (rest.map fun v => v.category).sum ≤ 8) (hR : f0 + 1 ≤ R.frames ∧ 8 + (nY + 11) + lo ≤ R.locals) (hc : kc ≤ R.cells ∧ kn ≤ R.slots)
    (k : V X kc kn Q (pc + 3) L rest ad N σ') : V X kc kn Q pc L st ad N σ :=
  r_callS C w hM hd hst hn hL hW hR hc (fun rv ad' N' σ2 h => by obtain ⟨rfl, rfl, rfl, rfl⟩ := h; exact k)
/-- the static method of the nest's host -/
theorem r_cSN (C : gOk X cc nL own R ret) {host : String} (hk : va_Nw (.methodLinkNest own idx y host) (gst X)) (w : Cond.static y ∈ WS ∧ Cond.initialized y.cls ∈ WS ∧ Cond.code y cY nY rY ∈ WS ∧ y.cls ≠ "java/lang/invoke/MethodHandle" ∧ y.cls ≠ "java/lang/invoke/VarHandle" ∧ (parseMethodDescriptor y.desc).map (fun d => d.parameters.length) = some np) {v : Value} {σ' : Int → va_E} (hM : gM0 (gln X) y cY nY rY f0 lo As (gDD X) (gty X) ad N σ (some v) σ') (hd : decode cc pc = .ok (.invokestatic idx, 3)) (hst : st = As.reverse ++ rest) (hn : As.length = np) (hL : L.length = nL) (hW : (rest.map fun v => v.category).sum ≤ 8) (hR : f0 + 1 ≤ R.frames ∧ 8 + (nY + 11) + lo ≤ R.locals) (hc : kc ≤ R.cells ∧ kn ≤ R.slots)
    (k : V X kc kn Q (pc + 3) L (v :: rest) ad N σ') : V X kc kn Q pc L st ad N σ := fun ls H locs hl hw => by
  have hR' := C.2.2.2.2.2.2.2.1
  have hts := C.2.2.2.2.1
  subst hst
  obtain ⟨w2, w4, w5, w7, w8, w9⟩ := w
  exact g_back C (va_runSN (host := host) (As := As) (rest := rest) ⟨C.1, C.2.1, C.2.2.1, C.2.2.2.1, hts⟩ (hM H.size) ⟨va_cnB np hts (g_good w5) rfl rfl rfl hk (hts _ w4) ⟨w7, w8, w9⟩ (by rw [hR']; exact hR), hts _ w2, trivial⟩ ⟨g_blind, fun U hU hW => ⟨rfl, g_pre hw.1 ⟨_, hw.2.1⟩ C.2.2.2.2.2.2.2.2.1 C.2.2.2.2.2.2.2.2.2.2 hU hW⟩⟩ rfl hn (hl.1.trans hL) rfl (lv_room hW) hd (by rw [hR']; exact hc)) hl hw (fun rv ad' N' σ2 h => by obtain ⟨rfl, rfl, rfl, rfl⟩ := h; exact k)
/-- making -/
theorem r_new (C : gOk X cc nL own R ret) {idx ci n : Nat} {CN : String} {T : u_T} {ty : Nat → FieldType} (hin : ∀ w ∈ u_ws CN T n, w ∈ WS) (hty : ∀ k, k < n → parseFieldDescriptor (T k).2.2.1 = some (ty k)) (hk : Cond.classLink own idx CN ∈ WS ∧ Cond.instantiable CN n ∈ WS ∧ Cond.initialized CN ∈ WS) (hci : vwCl[ci]? = some (CN, T, n)) (hd : decode cc pc = .ok (.new idx, 3)) {fs : List Value} (hfs : ∀ j, j < n → defaultValue (ty j) = vp_V fs j) (hN : 0 ≤ N) (hc : kc + 1 ≤ R.cells ∧ kn + n ≤ R.slots)
    (k : ∀ q : Nat, V X (kc + 1) (kn + n) Q (pc + 3) L (.ref q :: st) (up ad N q) (N + 1) (up σ N (.inr (ci, fs)))) : V X kc kn Q pc L st ad N σ := fun ls H locs hl hw => by
  have hR' := C.2.2.2.2.2.2.2.1
  have hts := C.2.2.2.2.1
  refine va_new C.1 C.2.1 (Ts := WS) hts hin ty hty C.2.2.2.1 (hts _ hk.1) (hts _ hk.2.1) (hts _ hk.2.2) C.2.2.2.2.2.2.2.2.1 hw.1 hw.2.1 hw.2.2 C.2.2.2.2.2.2.2.2.2.1 hci hfs (by rw [hR']; exact hc.1) (by rw [hR']; exact hc.2) hd (fun q H1 hP hD hS => ?_)
  rw [gl_push hN] at hP hD
  exact k q ls H1 locs hl ⟨hP, hD, hS⟩
theorem r_newI (C : gOk X cc nL own R ret) (hk : Cond.arrayClass .int ∈ WS) (hd : decode cc pc = .ok (.newarray .int, 2)) {n : Nat} (hn : n < 100000) (hN : 0 ≤ N) (hc : kc + 1 ≤ R.cells ∧ kn + n ≤ R.slots)
    (k : ∀ q : Nat, V X (kc + 1) (kn + n) Q (pc + 2) L (.ref q :: st) (up ad N q) (N + 1) (up σ N (gAr (gty X 0) n (fun _ => 0)))) : V X kc kn Q pc L (.int (gI n) :: st) ad N σ := fun ls H locs hl hw => by
  have hR' := C.2.2.2.2.2.2.2.1
  have hts := C.2.2.2.2.1
  have hK := C.2.2.2.2.2.2.2.2.1
  refine va_newa (atype := .int) (ty := .int) (N' := n) (a0 := (n, .inl (fun j => if j < n then gI 0 else 0))) C.1 C.2.1 (hts _ hk) rfl hK hw.1 hw.2.1 hw.2.2 C.2.2.2.2.2.2.2.2.2.1 (fun cA => by rw [vp_cell_i, gI_0]; simp only [ite_self]; rfl) (by rw [← gI_0, gI_lt (by omega) (by omega)]; omega) (by rw [gI_clamp (by omega)]; rfl) (by show n * 4 ≤ _; omega) (by rw [hR']; exact hc.1) (by rw [hR']; exact hc.2) hd (fun q cA H1 hK1 hP hD hS => ?_)
  have e : cA = gty X 0 := by
    have h1 := (hK.2 0 _ rfl).2
    have h2 := (hK1.2 5 (cA, .int) rfl).2
    exact Option.some.inj (h2.symm.trans h1)
  rw [gl_push hN, e] at hP hD
  exact k q ls H1 locs hl ⟨hP, hD, hS⟩
theorem r_newC (C : gOk X cc nL own R ret) (hk : Cond.arrayClass .char ∈ WS) (hd : decode cc pc = .ok (.newarray .char, 2)) {n : Nat} (hn : n < 100000) (hN : 0 ≤ N) (hc : kc + 1 ≤ R.cells ∧ kn + n ≤ R.slots)
    (k : ∀ q : Nat, V X (kc + 1) (kn + n) Q (pc + 2) L (.ref q :: st) (up ad N q) (N + 1) (up σ N (gAr (gty X 1) n (fun _ => 0)))) : V X kc kn Q pc L (.int (gI n) :: st) ad N σ := fun ls H locs hl hw => by
  have hR' := C.2.2.2.2.2.2.2.1
  have hts := C.2.2.2.2.1
  have hK := C.2.2.2.2.2.2.2.2.1
  refine va_newa (atype := .char) (ty := .char) (N' := n) (a0 := (n, .inl (fun j => if j < n then gI 0 else 0))) C.1 C.2.1 (hts _ hk) rfl hK hw.1 hw.2.1 hw.2.2 C.2.2.2.2.2.2.2.2.2.1 (fun cA => by rw [vp_cell_i, gI_0]; simp only [ite_self]; rfl) (by rw [← gI_0, gI_lt (by omega) (by omega)]; omega) (by rw [gI_clamp (by omega)]; rfl) (by show n * 2 ≤ _; omega) (by rw [hR']; exact hc.1) (by rw [hR']; exact hc.2) hd (fun q cA H1 hK1 hP hD hS => ?_)
  have e : cA = gty X 1 := by
    have h1 := (hK.2 1 _ rfl).2
    have h2 := (hK1.2 5 (cA, .char) rfl).2
    exact Option.some.inj (h2.symm.trans h1)
  rw [gl_push hN, e] at hP hD
  exact k q ls H1 locs hl ⟨hP, hD, hS⟩
theorem r_newRooms (C : gOk X cc nL own R ret) {idx : Nat} (hk : Cond.classLink own idx RX1 ∈ WS) (hd : decode cc pc = .ok (.anewarray idx, 3)) {n : Nat} (hn : n < 100000) (hN : 0 ≤ N) (hc : kc + 1 ≤ R.cells ∧ kn + n ≤ R.slots)
    (k : ∀ q : Nat, V X (kc + 1) (kn + n) Q (pc + 3) L (.ref q :: st) (up ad N q) (N + 1) (up σ N (gRA (gty X 3) n (fun _ => none)))) : V X kc kn Q pc L (.int (gI n) :: st) ad N σ := fun ls H locs hl hw => by
  have hR' := C.2.2.2.2.2.2.2.1
  have hts := C.2.2.2.2.1
  have hK := C.2.2.2.2.2.2.2.2.1
  refine va_newq (C := RX1) (N' := n) C.1 C.2.1 C.2.2.2.1 (hts _ hk) C.2.2.2.2.2.2.2.2.2.2.1 hK hw.1 hw.2.1 hw.2.2 C.2.2.2.2.2.2.2.2.2.1 (by rw [← gI_0, gI_lt (by omega) (by omega)]; omega) (by rw [gI_clamp (by omega)]; rfl) (by omega) (by rw [hR']; exact hc.1) (by rw [hR']; exact hc.2) hd (fun q cA H1 hK1 hP hD hS => ?_)
  have e : cA = gty X 3 := by
    obtain ⟨-, -, -, -, -, h1⟩ := (hK.2 3 _ rfl).2
    obtain ⟨-, -, -, -, -, h2⟩ := (hK1.2 5 (cA, .object RX1) rfl).2
    exact Option.some.inj (h2.symm.trans h1)
  rw [gl_push hN, e] at hP hD
  exact k q ls H1 locs hl ⟨hP, hD, hS⟩
theorem r_newStores (C : gOk X cc nL own R ret) {idx : Nat} (hk : Cond.classLink own idx RX3 ∈ WS) (hd : decode cc pc = .ok (.anewarray idx, 3)) {n : Nat} (hn : n < 100000) (hN : 0 ≤ N) (hc : kc + 1 ≤ R.cells ∧ kn + n ≤ R.slots)
    (k : ∀ q : Nat, V X (kc + 1) (kn + n) Q (pc + 3) L (.ref q :: st) (up ad N q) (N + 1) (up σ N (gRA (gty X 4) n (fun _ => none)))) : V X kc kn Q pc L (.int (gI n) :: st) ad N σ := fun ls H locs hl hw => by
  have hR' := C.2.2.2.2.2.2.2.1
  have hts := C.2.2.2.2.1
  have hK := C.2.2.2.2.2.2.2.2.1
  refine va_newq (C := RX3) (N' := n) C.1 C.2.1 C.2.2.2.1 (hts _ hk) C.2.2.2.2.2.2.2.2.2.2.2.1 hK hw.1 hw.2.1 hw.2.2 C.2.2.2.2.2.2.2.2.2.1 (by rw [← gI_0, gI_lt (by omega) (by omega)]; omega) (by rw [gI_clamp (by omega)]; rfl) (by omega) (by rw [hR']; exact hc.1) (by rw [hR']; exact hc.2) hd (fun q cA H1 hK1 hP hD hS => ?_)
  have e : cA = gty X 4 := by
    obtain ⟨-, -, -, -, -, h1⟩ := (hK.2 4 _ rfl).2
    obtain ⟨-, -, -, -, -, h2⟩ := (hK1.2 5 (cA, .object RX3) rfl).2
    exact Option.some.inj (h2.symm.trans h1)
  rw [gl_push hN, e] at hP hD
  exact k q ls H1 locs hl ⟨hP, hD, hS⟩
end HEAP
