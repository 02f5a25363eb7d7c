/-! what one act of the law does (pure), a call of a method with the script and one answer -/
def okI (t : Int) (s : Int → Int) (n : Int) (u : Int → Int → Int) : Prop := ok2 t s ∧ (0 ≤ n ∧ n ≤ 6) ∧ ∀ i, 0 ≤ i → i < 6 → ok2 t (u i)
theorem okX_I {t : Int} {s : Int → Int} {n : Int} {u : Int → Int → Int} {len : Int} {tx : Int → Int} (h : okI t s n u) (hT : okT len tx) : okX s n u len tx := ⟨h.1.1, h.2.1, fun i a b => (h.2.2 i a b).1, hT⟩
theorem okI_le {t t' : Int} {s : Int → Int} {n : Int} {u : Int → Int → Int} (h : okI t s n u) (ht : t ≤ t') : okI t' s n u := ⟨ok2_le h.1 ht, h.2.1, fun i a b => ok2_le (h.2.2 i a b) ht⟩
theorem okI_push {t t' : Int} {s s' : Int → Int} {n k : Int} {u : Int → Int → Int} (h : okI t s n u) (ht : t ≤ t') (h' : ok2 t' s') : okI t' s' (pshN n) (pshU n k u s) := by
  refine ⟨h', pshN_rng h.2.1, fun i h1 h2 => ?_⟩
  unfold pshU
  by_cases e : i = (pshN n - 1 + pshK n k) % 6
  · rw [e, up_s]; exact ok2_le h.1 ht
  · rw [up_n e]; exact ok2_le (h.2.2 i h1 h2) ht
theorem okI_undo {t t' : Int} {s : Int → Int} {n k : Int} {u : Int → Int → Int} (h : okI t s n u) (ht : t ≤ t') (hn : 1 ≤ n) : okI t' (u ((n - 1 + k) % 6)) (n - 1) u :=
  ⟨ok2_le (h.2.2 _ (by omega) (by omega)) ht, by have := h.2.1; omega, fun i a b => ok2_le (h.2.2 i a b) ht⟩
/-- what the law looks at behind an act c: the answer z, the store behind it -/
def actP (c key : Int) (s : Int → Int) (n : Int) (z : Int) (s' : Int → Int) (n' : Int) : Prop :=
  (-3 ≤ z ∧ z ≤ 2000) ∧ (z = -3 → s' = s ∧ n' = n) ∧
  (c = 17 ∨ c = 18 → z = rof s key ∧ s' 4 = s 4 + (if rof s key = -1 then 0 else 1) ∧ s' 5 = s 5 + (if rof s key = -1 then 0 else if rm s (rof s key) 1 = 1 then 0 else 1) ∧ s' 2 = s 2 + (if rof s key = -1 then 0 else if rm s (rof s key) 1 = 1 then 1 else 3)) ∧
  (20 < c → (s 2 + 1 ≤ s' 2 ∧ s' 2 ≤ s 2 + 20) ∧ s' 3 = s 3 + z ∧ thg s' = thg s - z ∧ cb s' ≤ cb s ∧ aft s') ∧
  (c ≤ 2 → z < 0 ∨ (cb s' = 1 ∧ cb s = 0)) ∧ (3 ≤ c → c ≤ 6 → z < 0 ∨ cb s' = cb s + 1)
section ACTS
variable {c key : Int} {s s' : Int → Int} {n n' z : Int}
theorem act_bad (hc : c ≤ 16 ∨ c = 19) : actP c key s n (-3) s n := ⟨by omega, fun _ => ⟨rfl, rfl⟩, fun h => by omega, fun h => by omega, fun _ => Or.inl (by omega), fun _ _ => Or.inl (by omega)⟩
theorem act_any (hc : 7 ≤ c ∧ c ≤ 20 ∧ c ≠ 17 ∧ c ≠ 18) (hz : 0 ≤ z ∧ z ≤ 2000) : actP c key s n z s' n' := ⟨by omega, fun h => by omega, fun h => by omega, fun h => by omega, fun h => by omega, fun h h2 => by omega⟩
theorem act_strike (hs : okS s) {q : Int} (hq : 0 ≤ q ∧ q < 6) (hc : 0 ≤ c ∧ c ≤ 2) (hm : mayS s q) : actP c key s n (rm s q 0) (light1 s q) n' := by
  have h1 := (hs.rm hq).len
  refine ⟨by omega, fun h => by omega, fun h => by omega, fun h => by omega, fun _ => Or.inr ⟨?_, hm.1⟩, fun h h2 => by omega⟩
  rw [cb_light hq (cb_0 hs hm.1 hq), hm.1]; rfl
theorem act_light (hs : okS s) {q o : Int} (hq : 0 ≤ q ∧ q < 6) (hc : 3 ≤ c ∧ c ≤ 6) (hm : mayL s q o) : actP c key s n (rm s q 0) (light1 s q) n' := by
  have h1 := (hs.rm hq).len
  exact ⟨by omega, fun h => by omega, fun h => by omega, fun h => by omega, fun h => by omega, fun _ _ => Or.inr (cb_light hq hm.1)⟩
theorem act_read (hs : okS s) (hc : c = 17 ∨ c = 18) : actP c key s n (rof s key) (rdS s key) n' := by
  have h1 := rof_rng s key
  obtain ⟨a, b, d⟩ := read_n hs key
  exact ⟨by omega, fun h => by omega, fun _ => ⟨rfl, a, b, d⟩, fun h => by omega, fun h => by omega, fun h h2 => by omega⟩
theorem act_pass (hs : okS s) {w : Int} (hw : 1 ≤ w ∧ w ≤ 20) (hc : 20 < c) : actP c key s n (bts w.toNat s 0).2 (bts w.toNat s 0).1 n' := by
  obtain ⟨h2, h3, -, -, ht, hcb, hg, hg2, -⟩ := bts_all w.toNat s 0 hs
  have ha := bts_aft (n := w.toNat) (g := 0) hs (by omega)
  exact ⟨by omega, fun h => by omega, fun h => by omega, fun _ => ⟨by omega, by omega, by omega, hcb, ha⟩, fun h => by omega, fun h h2 => by omega⟩
theorem cbF_rng {s : Int → Int} (hs : okS s) {f c : Int} (hc : 0 ≤ c ∧ c ≤ 6) : 0 ≤ cbF s f c ∧ cbF s f c ≤ 6 := by
  have h := sumF_rng (f := fun p => rm s ((f + p) % 6) 1) (m := 1) c.toNat 0 (fun i h1 h2 => by
    have := (hs.rm (r := (f + i) % 6) (by omega)).bur
    show 0 ≤ rm s ((f + i) % 6) 1 ∧ rm s ((f + i) % 6) 1 ≤ 1
    omega)
  unfold cbF; omega
end ACTS
section CALLP
variable {X : gT} {cc : ByteArray} {nL : Nat} {own : String} {R : Room} {ret : Option FieldType} {kc kn : Nat} {Q : State → Prop} {pc : Nat} {L : List (Option Value)} {st : List Value} {ad : Int → Nat} {N : Int} {σ : Int → va_E} {b Ls : Nat} {xz : Int → Int}
variable {idx nY np : Nat} {y : MethodName} {cY : ByteArray} {rY : Option FieldType} {As rest : List Value}
theorem r_cP0 (C : gOk X cc nL own R ret) (hX : gXk X) (hS : gSc X b Ls xz) (w : gCS own idx y cY nY rY np) {v : Value} {σ' : Int → va_E} (hM : gMetP (gln X) y cY nY rY { frames := 0, cells := 0, slots := 0, locals := 0 } As (gDD X) (gty X) ad N σ b Ls xz (gD (some v) ad N σ')) (hd : decode cc pc = .ok (.invokestatic idx, 3)) (hst : st = As.reverse ++ rest) (hn : As.length = np) (hL : L.length = nL) (hW : (rest.map fun v => v.category).sum ≤ 8) (hR : 1 ≤ R.frames ∧ 8 + (nY + 11) ≤ R.locals) (hc : kc ≤ R.cells ∧ kn ≤ R.slots)
    (k : V X kc kn Q (pc + 3) L (v :: rest) ad N σ') : V X kc kn Q pc L st ad N σ :=
  r_callP (RY := { frames := 0, cells := 0, slots := 0, locals := 0 }) C hX hS w hM hd hst hn hL hW hR hc (fun rv ad' N' σ2 h => by obtain ⟨rfl, rfl, rfl, rfl⟩ := h; exact k)
end CALLP
section TOLD2
variable {l : Launch} {D : va_G} {ty : Nat → ClassId} {ad : Int → Nat} {N : Int} {σ : Int → va_E} {b Ls : Nat} {xz : Int → Int}
theorem q_cell {k z : Int} (hst : l.stackTraces = false) (hLs : Ls ≤ 260) (hk : 0 ≤ k ∧ k ≤ 1000) (hz : cellF Ls xz k = z) : gMetP l yL_cell cL_cell 2 (some .int) { frames := 0, cells := 0, slots := 0, locals := 0 } [.ref b, .int (gI k)] D ty ad N σ b Ls xz (gD (some (.int (gI z))) ad N σ) := by
  rw [← hz]; exact c_L_cell hst hLs hk
theorem q_low {v n z : Int} (hn : 0 < n ∧ n < 1000) (hz : low31 v % n = z) : gM0 l yL_low cL_low 2 (some .int) 0 0 [.int (gI v), .int (gI n)] D ty ad N σ (some (.int (gI z))) σ := by
  rw [← hz]; exact c_L_low hn
end TOLD2
