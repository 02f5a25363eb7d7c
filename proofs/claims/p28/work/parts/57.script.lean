/-! the script, carried through the calls; words of the law's own methods; rows that the law needs besides -/
def gScr (A : Nat → Prop) (b Ls : Nat) (xz : Int → Int) (U : State) (H : Heap) : Prop := ∃ xs : Nat → Int32, va_X b Ls xs U H ∧ b < H.size ∧ ¬ A b ∧ ∀ j : Nat, xs j = gI (xz j)
def gSc (X : gT) (b Ls : Nat) (xz : Int → Int) : Prop := gScr (gAA X) b Ls xz (gst X) (gst X).heap
/-- the contract of a method that reads the script -/
def gMetP (l : Launch) (y : MethodName) (cc : ByteArray) (nL : Nat) (ret : Option FieldType) (R : Room) (av : List Value) (D : va_G) (ty : Nat → ClassId) (ad : Int → Nat) (N : Int) (σ : Int → va_E) (b Ls : Nat) (xz : Int → Int) (post : gPost) : Prop :=
  ∀ sz : Nat, Met l y (.code y cc nL ret :: WS) R (va_Pc av (fun U => U.heap.size = sz ∧ gw D ty ad N σ U ∧ gE (gA ad N sz) U U.heap ∧ gScr (gA ad N sz) b Ls xz U U.heap)) (gQc D ty (gA ad N sz) post) R.cells R.slots (gA ad N sz)
theorem gMetP_of {l : Launch} {y : MethodName} {cc : ByteArray} {nL : Nat} {ret : Option FieldType} {R : Room} {av : List Value} {D : va_G} {ty : Nat → ClassId} {ad : Int → Nat} {N : Int} {σ : Int → va_E} {b Ls : Nat} {xz : Int → Int} {post : gPost} (L : List (Option Value)) (hst : l.stackTraces = false)
    (hy : plainFor y = true) (hL : gent av ++ List.replicate (nL - (gent av).length) none = L) (hn : (lg_sl av).length ≤ nL) (hn2 : L.length = nL)
    (body : ∀ X : gT, gln X = l → gDD X = D → gty X = ty → gOk X cc nL y.cls R ret → gXk X → gSc X b Ls xz → V X 0 0 (gQ X post R.cells R.slots) 0 L [] ad N σ) : gMetP l y cc nL ret R av D ty ad N σ b Ls xz post := by
  intro sz
  refine Met_ofF (cc := cc) (maxL := nL) (ret := ret) hy rfl ?_
  intro p e s m args below meth c s₁ B hml hv
  obtain ⟨rfl, hsz, ⟨hP, hK, hD0, hO1, hO3, hNs⟩, hE, hS⟩ := hv
  have hts := atoms_spec (ws := .code y cc nL ret :: WS) B.pre
  subst hsz
  have hb := body (p, l, e, R, s, m, av.toArray, below, meth, c, D, ty, gA ad N s.heap.size) rfl rfl rfl
    ⟨B.exec, B.bytes, hml, findClass_of_methodNamed B.named, fun w hw => hts w (List.mem_cons_of_mem _ hw), B.notSynchronized, B.returns, rfl, hK, fun q h => Or.inr h, hO1, hO3, hNs⟩ ⟨hst, hE⟩ hS
  have hl := lv_entry av (n := nL) hn
  rw [lg_entry_eq]
  generalize (lg_sl av ++ List.replicate (nL - (lg_sl av).length) Slot.unset).toArray = ls at hl ⊢
  refine hb ls s.heap [] ?_ ⟨hP, ⟨hD0.1, fun k q hq => ?_⟩, va_S.rf⟩
  · rw [← hL, gent_args, hL, hn2]; exact hl
  · obtain ⟨h1, h2⟩ := gl_of hq
    exact Or.inl ⟨k, h1, by rw [h2]⟩
section SCR
variable {X : gT} {cc : ByteArray} {nL : Nat} {own : String} {R : Room} {ret : Option FieldType} {kc kn : Nat} {Q : State → Prop} {pc : Nat} {L : List (Option Value)} {st : List Value} {ad : Int → Nat} {N : Int} {σ : Int → va_E} {b Ls : Nat} {xz : Int → Int}
theorem gScr_pre (C : gOk X cc nL own R ret) (hS : gSc X b Ls xz) {H : Heap} {locs : List Loc} (hw : gWd X ad N σ H locs) {U : State} (hU : U.heap = H) (hW : (gst X).WarmedH U.vm) : gScr (gA ad N H.size) b Ls xz U U.heap := by
  obtain ⟨xs, h1, h2, h3, h4⟩ := hS
  rw [hU]
  exact ⟨xs, (h1.kept (hw.2.2.2.1 b h2 h3)).moved hW.alike, Nat.lt_of_lt_of_le h2 hw.2.2.1, fun h => h3 (gA_free C.2.2.2.2.2.2.2.2.2.1 hw b h), h4⟩
theorem gP_blind {av : List Value} {sz : Nat} {D : va_G} {ty : Nat → ClassId} : FrameBlind (va_Pc av (fun U => U.heap.size = sz ∧ gw D ty ad N σ U ∧ gE (gA ad N sz) U U.heap ∧ gScr (gA ad N sz) b Ls xz U U.heap)) := fun a U g mk q => by
  obtain ⟨q0, q1, ⟨qP, qK, qD, qO, qO3, qN⟩, qE, xs, x1, x2, x3, x4⟩ := q
  exact ⟨q0, q1, ⟨qP, va_K.moved (u := U) (U := U.calling g mk a) (Vm.Alike.refl U.vm) qK, qD, qO.moved (U := U.calling g mk a) (Vm.Alike.refl U.vm), qO3.moved (U := U.calling g mk a) (Vm.Alike.refl U.vm), gNs.same (U := U.calling g mk a) rfl qN⟩, gE.same (s := U) (U := U.calling g mk a) rfl qE, xs, x1.moved (U := U.calling g mk a) (Vm.Alike.refl U.vm), x2, x3, x4⟩
variable {idx nY np : Nat} {y : MethodName} {cY : ByteArray} {rY : Option FieldType} {As rest : List Value} {RY : Room} {post : gPost}
theorem r_callP (C : gOk X cc nL own R ret) (hX : gXk X) (hS : gSc X b Ls xz) (w : gCS own idx y cY nY rY np) (hM : gMetP (gln X) y cY nY rY RY As (gDD X) (gty X) ad N σ b Ls xz post) (hd : decode cc pc = .ok (.invokestatic idx, 3)) (hst : st = As.reverse ++ rest) (hn : As.length = np) (hL : L.length = nL) (hW : (rest.map fun v => v.category).sum ≤ 8) (hR : RY.frames + 1 ≤ R.frames ∧ 8 + (nY + 11) + RY.locals ≤ R.locals) (hc : kc + RY.cells ≤ R.cells ∧ kn + RY.slots ≤ R.slots)
    (kk : ∀ (rv : Option Value) (ad' : Int → Nat) (N' : Int) (σ' : Int → va_E), post rv ad' N' σ' → V X (kc + RY.cells) (kn + RY.slots) Q (pc + 3) L (rv.toList ++ rest) ad' N' σ') : V X kc kn Q pc L st ad N σ := fun ls H locs hl hw => by
  have hR' := C.2.2.2.2.2.2.2.1
  have hts := C.2.2.2.2.1
  subst hst
  obtain ⟨w1, w2, w4, w5, w7, w8, w9⟩ := w
  exact g_back C (va_runS (As := As) (rest := rest) ⟨C.1, C.2.1, C.2.2.1, C.2.2.2.1, hts⟩ (hM H.size) ⟨callB_of np hts (g_good w5) rfl rfl rfl (hts _ w4) (hts _ w1) ⟨w7, w8, w9⟩ (by rw [hR']; exact hR), hts _ w2⟩ ⟨gP_blind, fun U hU hW => ⟨rfl, (gX_pre C hX.2 hw hU hW).1, (gX_pre C hX.2 hw hU hW).2.1, (gX_pre C hX.2 hw hU hW).2.2, gScr_pre C hS hw hU hW⟩⟩ rfl hn (hl.1.trans hL) rfl (lv_room hW) hd (by rw [hR']; exact hc)) hl hw kk
theorem r_sld (C : gOk X cc nL own R ret) (hsc : gSc X b Ls xz) (hLs : Ls ≤ 260) (hd : decode cc pc = .ok (.iaload, 1)) {i : Int} (hi : 0 ≤ i ∧ i < Ls)
    (k : V X kc kn Q (pc + 1) L (.int (gI (xz i)) :: st) ad N σ) : V X kc kn Q pc L (.int (gI i) :: .ref b :: st) ad N σ := fun ls H locs hl hw => by
  obtain ⟨xs, h1, h2, h3, h4⟩ := hsc
  refine va_sld C.1 C.2.1 h1 h2 h3 hw.2.2 (gI_in hi (by omega)) hd ?_
  rw [gI_clamp (by omega), h4, Int.toNat_of_nonneg hi.1]
  exact k ls H locs hl hw
theorem r_slen (C : gOk X cc nL own R ret) (hsc : gSc X b Ls xz) (hd : decode cc pc = .ok (.arraylength, 1))
    (k : V X kc kn Q (pc + 1) L (.int (gI (Ls : Int)) :: st) ad N σ) : V X kc kn Q pc L (.ref b :: st) ad N σ := fun ls H locs hl hw => by
  obtain ⟨xs, h1, h2, h3, h4⟩ := hsc
  refine va_slen C.1 C.2.1 h1 h2 h3 hw.2.2 hd ?_
  rw [show Int32.ofNat Ls = gI (Ls : Int) from (Int32.ofInt_eq_ofNat).symm]
  exact k ls H locs hl hw
theorem r_ldc (C : gOk X cc nL own R ret) {ix : Nat} {v : Int32} {z : Int} (hd : decode cc pc = .ok (.ldc ix, 2)) (hw0 : Cond.constant own ix v ∈ WS) (hz : v = gI z) (k : V X kc kn Q (pc + 2) L (.int (gI z) :: st) ad N σ) : V X kc kn Q pc L st ad N σ := fun ls H locs hl hw => lv_ldc C.1 C.2.1 C.2.2.2.1 (C.2.2.2.2.1 _ hw0) hd (by rw [hz]; exact k ls H locs hl hw)
theorem r_ishr (C : gOk X cc nL own R ret) {x y : Int32} (hd : decode cc pc = .ok (.ishr, 1)) (k : V X kc kn Q (pc + 1) L (.int (gI (x >>> (y &&& 31)).toInt) :: st) ad N σ) : V X kc kn Q pc L (.int y :: .int x :: st) ad N σ := fun ls H locs hl hw => lv_ishr C.1 C.2.1 hd (by have h := k ls H locs hl hw; rw [gI_of] at h; exact h)
theorem r_icmp_neD {a b off : Int} {tgt : Nat} (C : gOk X cc nL own R ret) (hd : decode cc pc = .ok (.if_icmp .ne off, 3)) (ht : (pc : Int) + off = (tgt : Int)) (h8 : a - b < 4294967296) (h9 : b - a < 4294967296) (kt : a ≠ b → V X kc kn Q tgt L st ad N σ) (kf : a = b → V X kc kn Q (pc + 3) L st ad N σ) : V X kc kn Q pc L (.int (gI b) :: .int (gI a) :: st) ad N σ := fun ls H locs hl hw =>
  lv_icmp_ne C.1 C.2.1 hd ht (fun h2 => kt (fun e => h2 ((gI_eqd ⟨h8, h9⟩).mpr e)) ls H locs hl hw) (fun h2 => kf ((gI_eqd ⟨h8, h9⟩).mp h2) ls H locs hl hw)
theorem r_dcmpT (C : gOk X cc nL own R ret) {a b : UInt64} {op : CmpOp} (hd : decode cc pc = .ok (.dcmp op, 1)) (k : V X kc kn Q (pc + 1) L (.int (gI (cmpT a b op)) :: st) ad N σ) : V X kc kn Q pc L (.double b :: .double a :: st) ad N σ := r_dcmp C hd (by rw [cmpT_I]; exact k)
end SCR
theorem kcL_7 : Cond.constant RL 7 2147483647 ∈ WS := gws 391 (by decide +kernel) (by decide +kernel)
theorem kcL_8 : Cond.constant RL 8 40503 ∈ WS := gws 395 (by decide +kernel) (by decide +kernel)
theorem klL_15 : Cond.classLink RL 15 eS ∈ WS := gws 466 (by decide +kernel) (by decide +kernel)
theorem cwL_68 : gCW RL 68 yL_strike cL_strike 3 (some .int) [(0, 5, 6, 15)] 2 := ⟨gws 463 (by decide +kernel) (by decide +kernel), gws 464 (by decide +kernel) (by decide +kernel), kiRL, gws 465 (by decide +kernel) (by decide +kernel), by decide +kernel, by decide +kernel, by decide +kernel⟩
theorem cwL_71 : gCW RL 71 yL_light cL_light 4 (some .int) [(0, 6, 7, 15)] 3 := ⟨gws 495 (by decide +kernel) (by decide +kernel), gws 496 (by decide +kernel) (by decide +kernel), kiRL, gws 497 (by decide +kernel) (by decide +kernel), by decide +kernel, by decide +kernel, by decide +kernel⟩
theorem cwL_74 : gCW RL 74 yL_fresh cL_fresh 3 (some .int) [(0, 5, 6, 15)] 2 := ⟨gws 507 (by decide +kernel) (by decide +kernel), gws 508 (by decide +kernel) (by decide +kernel), kiRL, gws 509 (by decide +kernel) (by decide +kernel), by decide +kernel, by decide +kernel, by decide +kernel⟩
theorem cwL_86 : gCW RL 86 yL_keep cL_keep 4 (some .int) [(0, 6, 7, 15)] 3 := ⟨gws 546 (by decide +kernel) (by decide +kernel), gws 547 (by decide +kernel) (by decide +kernel), kiRL, gws 548 (by decide +kernel) (by decide +kernel), by decide +kernel, by decide +kernel, by decide +kernel⟩
theorem cwL_91 : gCW RL 91 yL_undo cL_undo 2 (some .int) [(0, 4, 5, 15)] 1 := ⟨gws 575 (by decide +kernel) (by decide +kernel), gws 576 (by decide +kernel) (by decide +kernel), kiRL, gws 577 (by decide +kernel) (by decide +kernel), by decide +kernel, by decide +kernel, by decide +kernel⟩
/-! low -/
def low31 (v : Int) : Int := (gI v &&& gI 2147483647).toInt
theorem low31_0 (v : Int) : 0 ≤ low31 v ∧ low31 v < 2147483648 := by
  refine ⟨?_, (gI_rng _).2⟩
  have h : (gI v &&& gI 2147483647).toBitVec.msb = false := by
    rw [Int32.toBitVec_and, BitVec.msb_and]
    have e : (gI 2147483647).toBitVec.msb = false := by decide +kernel
    rw [e, Bool.and_false]
  have h2 : 0 ≤ (gI v &&& gI 2147483647).toBitVec.toInt := by
    rw [BitVec.msb_eq_toInt] at h
    exact Int.not_lt.mp (of_decide_eq_false h)
  exact h2
