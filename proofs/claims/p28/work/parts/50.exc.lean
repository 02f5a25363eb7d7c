/-! exceptions: what throwing needs of the world, contracts that throw, rows -/
def eI : String := "java/lang/IndexOutOfBoundsException"
def eA : String := "java/lang/IllegalArgumentException"
def eS : String := "java/lang/IllegalStateException"
def eNs : List String := ["java/lang/RuntimeException", "java/lang/Exception"]
def gStr : List (Nat × String) := [(214, "there is no such room"), (40, "some candle burns, or this one is burnt down"), (57, "this candle cannot be lit from that one"), (63, "the box is empty"), (73, "there is no such door"), (95, "strength is 1 to 6"), (102, "the setting is 1 to 50"), (216, "a key is 0 to 99"), (114, "a thing has this key, or the room is full"), (122, "1 to 60 beats pass"), (156, "no state is saved"), (218, "there is no such number")]
def gDcl : List MethodName := [⟨"java/lang/RuntimeException", "<init>", "(Ljava/lang/String;)V"⟩, ⟨"java/lang/Exception", "<init>", "(Ljava/lang/String;)V"⟩, ⟨"java/lang/Throwable", "<init>", "(Ljava/lang/String;)V"⟩]
def gE (A : Nat → Prop) (U : State) (H : Heap) : Prop :=
  (vx_Zq Bundle.tN "UNASSIGNED_STACK" Bundle.steD A U H ∧ vx_Zq Bundle.tN "SUPPRESSED_SENTINEL" Bundle.listD A U H) ∧ (va_Nw (.castable eI eI) U ∧ va_Nw (.castable eA eA) U ∧ va_Nw (.castable eS eS) U) ∧ (va_Nc eI eS U ∧ va_Nc eA eS U ∧ va_Nc eA eS U) ∧ (∀ q ∈ gStr, ∃ sa : Nat, vk_R RX4 q.1 q.2 sa U) ∧ ∀ y ∈ gDcl, va_Nw (.declares y) U
theorem gE.warm {A : Nat → Prop} {s U : State} {H : Heap} (hW : s.WarmedH U.vm) (h : gE A s H) : gE A U H :=
  ⟨⟨h.1.1.moved hW.alike, h.1.2.moved hW.alike⟩, ⟨va_Nw.warmC hW h.2.1.1, va_Nw.warmC hW h.2.1.2.1, va_Nw.warmC hW h.2.1.2.2⟩, ⟨h.2.2.1.1.moved hW.alike, h.2.2.1.2.1.moved hW.alike, h.2.2.1.2.2.moved hW.alike⟩, fun q hq => by obtain ⟨sa, h9⟩ := h.2.2.2.1 q hq; exact ⟨sa, vk_R.warm hW h9⟩, fun y hy => va_Nw.warmD hW (h.2.2.2.2 y hy)⟩
theorem gE.same {A : Nat → Prop} {s U : State} {H : Heap} (e : U.vm = s.vm) (h : gE A s H) : gE A U H := by
  have hal : s.vm.Alike U.vm := by rw [e]; exact Vm.Alike.refl _
  exact ⟨⟨h.1.1.moved hal, h.1.2.moved hal⟩, ⟨va_Nw.same rfl e.symm h.2.1.1, va_Nw.same rfl e.symm h.2.1.2.1, va_Nw.same rfl e.symm h.2.1.2.2⟩, ⟨h.2.2.1.1.moved hal, h.2.2.1.2.1.moved hal, h.2.2.1.2.2.moved hal⟩, fun q hq => by obtain ⟨sa, h9⟩ := h.2.2.2.1 q hq; exact ⟨sa, vk_R.same e h9⟩, fun y hy => va_Nw.same rfl e.symm (h.2.2.2.2 y hy)⟩
theorem gE.kept {A : Nat → Prop} {s : State} {H H1 : Heap} (h : gE A s H) (hq : ∀ a : Nat, a < H.size → ¬ A a → H1[a]? = H[a]?) : gE A s H1 := ⟨⟨h.1.1.kept hq, h.1.2.kept hq⟩, h.2⟩
theorem gE.narrow {A B : Nat → Prop} {s : State} {H : Heap} (h : gE A s H) (hAB : ∀ q, B q → A q) : gE B s H := ⟨⟨h.1.1.narrow hAB, h.1.2.narrow hAB⟩, h.2⟩
/-- what a throw leaves -/
def gXC (D : va_G) (ad : Int → Nat) (N : Int) (σ : Int → va_E) (A : Nat → Prop) (E : String) : String → State → State → Prop := vx_X (fun _ : Unit => True) (fun E' _ t => E' = E ∧ va_P D vwCl (gl ad N σ) t.heap) A
def gNo : Array Value → State → Outcome → State → Prop := fun _ _ _ _ => False
/-- the contract of a method that throws E and changes nothing -/
def gThr (l : Launch) (y : MethodName) (cc : ByteArray) (nL : Nat) (ret : Option FieldType) (f lo : Nat) (av : List Value) (D : va_G) (ty : Nat → ClassId) (ad : Int → Nat) (N : Int) (σ : Int → va_E) (E : String) : Prop :=
  ∀ sz : Nat, vx_Met l y (.code y cc nL ret :: WS) { frames := f, cells := 1, slots := 6, locals := lo } (va_Pc av (fun U => U.heap.size = sz ∧ gw D ty ad N σ U ∧ gE (gA ad N sz) U U.heap)) gNo (gXC D ad N σ (gA ad N sz) E) 1 6 (gA ad N sz)
def gXQ (X : gT) (E : String) (ad : Int → Nat) (N : Int) (σ : Int → va_E) : State → Prop := vx_MQ (gbl X) gNo (gXC (gDD X) ad N σ (gAA X) E) (gar X) (gst X) 1 6 (gAA X)
/-- what a walk that throws knows besides -/
def gXk (X : gT) : Prop := (gln X).stackTraces = false ∧ gE (gAA X) (gst X) (gst X).heap
def gXt (X : gT) : Prop := ∀ x ∈ (gco X).exceptionTable.toList, False
theorem gThr_of {l : Launch} {y : MethodName} {cc : ByteArray} {nL : Nat} {ret : Option FieldType} {f lo : Nat} {av : List Value} {D : va_G} {ty : Nat → ClassId} {ad : Int → Nat} {N : Int} {σ : Int → va_E} {E : String} (L : List (Option Value)) (hst : l.stackTraces = false)
    (hy : plainName y.cls = true) (hL : gent av ++ List.replicate (nL - (gent av).length) none = L) (hn : (lg_sl av).length ≤ nL) (hn2 : L.length = nL)
    (body : ∀ X : gT, gln X = l → gDD X = D → gty X = ty → gOk X cc nL y.cls { frames := f, cells := 1, slots := 6, locals := lo } ret → gXk X → gXt X → V X 0 0 (gXQ X E ad N σ) 0 L [] ad N σ) : gThr l y cc nL ret f lo av D ty ad N σ E := by
  intro sz
  refine vx_ofW (cc := cc) (maxL := nL) (ret := ret) hy rfl ?_
  intro p e s m args below meth c s₁ B hml htab hv
  obtain ⟨rfl, hsz, ⟨hP, hK, hD0, hO1, hO3, hNs⟩, hE⟩ := hv
  have hts := atoms_spec (ws := .code y cc nL ret :: WS) B.pre
  subst hsz
  have hb := body (p, l, e, { frames := f, cells := 1, slots := 6, locals := lo }, s, m, av.toArray, below, meth, c, D, ty, gA ad N s.heap.size) rfl rfl rfl
    ⟨B.exec, B.bytes, hml, findClass_of_methodNamed B.named, fun w hw => hts w (List.mem_cons_of_mem _ hw), B.notSynchronized, B.returns, rfl, hK, fun q h => Or.inr h, hO1, hO3, hNs⟩ ⟨hst, hE⟩ htab
  have hl := lv_entry av (n := nL) hn
  rw [lg_entry_eq]
  generalize (lg_sl av ++ List.replicate (nL - (lg_sl av).length) Slot.unset).toArray = ls at hl ⊢
  refine hb ls s.heap [] ?_ ⟨hP, ⟨hD0.1, fun k q hq => ?_⟩, va_S.rf⟩
  · rw [← hL, gent_args, hL, hn2]; exact hl
  · obtain ⟨h1, h2⟩ := gl_of hq
    exact Or.inl ⟨k, h1, by rw [h2]⟩
theorem thw_I : ∀ w ∈ vx_atS RX4 75 eI eNs, w ∈ WS ∨ w ∈ Cond.castable eI eI :: gDcl.map Cond.declares := by
  have h : ∀ w ∈ vx_atS RX4 75 eI eNs, (w ∈ lw_tbl ∧ goodWord w = true) ∨ w ∈ Cond.castable eI eI :: gDcl.map Cond.declares := by decide +kernel
  exact fun w hw => (h w hw).imp (fun z => List.mem_filter.mpr z) id
theorem thw_A : ∀ w ∈ vx_atS RX4 97 eA eNs, w ∈ WS ∨ w ∈ Cond.castable eA eA :: gDcl.map Cond.declares := by
  have h : ∀ w ∈ vx_atS RX4 97 eA eNs, (w ∈ lw_tbl ∧ goodWord w = true) ∨ w ∈ Cond.castable eA eA :: gDcl.map Cond.declares := by decide +kernel
  exact fun w hw => (h w hw).imp (fun z => List.mem_filter.mpr z) id
theorem thw_S : ∀ w ∈ vx_atS RX4 42 eS eNs, w ∈ WS ∨ w ∈ Cond.castable eS eS :: gDcl.map Cond.declares := by
  have h : ∀ w ∈ vx_atS RX4 42 eS eNs, (w ∈ lw_tbl ∧ goodWord w = true) ∨ w ∈ Cond.castable eS eS :: gDcl.map Cond.declares := by decide +kernel
  exact fun w hw => (h w hw).imp (fun z => List.mem_filter.mpr z) id
/-- what 'throw new E(text)' needs of the tables -/
def gTW (E : String) (ik ic : Nat) : Prop := Cond.classLink RX4 ik E ∈ WS ∧ Cond.initialized E ∈ WS ∧ (∀ w ∈ vx_atS RX4 ic E eNs, w ∈ WS ∨ w ∈ Cond.castable E E :: gDcl.map Cond.declares) ∧ (∀ w ∈ Cond.classLink RX4 ik E :: Cond.initialized E :: vx_atS RX4 ic E eNs, vx_ot w = true) ∧ Bundle.fit E = true ∧ (E = eI ∨ E = eA ∨ E = eS)
theorem gTW_I : gTW eI 71 75 := ⟨gws 303 (by decide +kernel) (by decide +kernel), kiIndexOutOfBoundsException, thw_I, by decide +kernel, by decide +kernel, Or.inl rfl⟩
theorem gTW_A : gTW eA 93 97 := ⟨gws 158 (by decide +kernel) (by decide +kernel), kiIllegalArgumentException, thw_A, by decide +kernel, by decide +kernel, Or.inr (Or.inl rfl)⟩
theorem gTW_S : gTW eS 38 42 := ⟨gws 475 (by decide +kernel) (by decide +kernel), kiIllegalStateException, thw_S, by decide +kernel, by decide +kernel, Or.inr (Or.inr rfl)⟩
section EXC
variable {X : gT} {cc : ByteArray} {nL : Nat} {own : String} {R : Room} {ret : Option FieldType} {kc kn : Nat} {Q : State → Prop} {pc : Nat} {L : List (Option Value)} {st : List Value} {ad : Int → Nat} {N : Int} {σ : Int → va_E} {E : String}
theorem r_throw (C : gOk X cc nL RX4 R ret) (hX : gXk X) (hT : gXt X) {text : String} {ik is ic : Nat} (w : gTW E ik ic) (hs : (is, text) ∈ gStr) (d0 : decode cc pc = .ok (.new ik, 3)) (d3 : decode cc (pc + 3) = .ok (.dup, 1)) (d4 : decode cc (pc + 4) = .ok (.ldc is, 2)) (d6 : decode cc (pc + 6) = .ok (.invokespecial ic, 3)) (d9 : decode cc (pc + 9) = .ok (.athrow, 1)) (hL : L.length = nL) (hR : 5 < R.frames ∧ (st.map fun v => v.category).sum + 82 ≤ R.locals ∧ 1 ≤ R.cells ∧ 6 ≤ R.slots) : V X 0 0 (gXQ X E ad N σ) pc L st ad N σ := fun ls H locs hl hw => by
  obtain ⟨w1, w2, w3, w4, w5, w6⟩ := w
  obtain ⟨sa, hsa⟩ := hX.2.2.2.2.1 (is, text) hs
  have hR' := C.2.2.2.2.2.2.2.1
  have hts := C.2.2.2.2.1
  have hcs : (Cond.castable E E).before (gar X) (gst X) = true := by
    rcases w6 with rfl | rfl | rfl
    · exact va_Nw.use rfl hX.2.2.1.1
    · exact va_Nw.use rfl hX.2.2.1.2.1
    · exact va_Nw.use rfl hX.2.2.1.2.2
  refine vx_throwS C.1 C.2.1 hX.1 (names := eNs) (text := text) (sa := sa) (A := gAA X) C.2.2.2.1 w5 (by decide +kernel) (hts _ w1) (hts _ w2) hsa (fun w hw => (w3 w hw).elim (hts w) (fun e => (List.mem_cons.mp e).elim (fun e => by rw [e]; exact hcs) (fun e => by obtain ⟨y, hy, rfl⟩ := List.mem_map.mp e; exact va_Nw.use rfl (hX.2.2.2.2.2 y hy)))) w4 hX.2.1.1 hX.2.1.2 hw.2.2 (by rw [C.2.2.1, hl.1, hL]) d0 d3 d4 d6 d9 (fun x hx => (hT x hx).elim) (by rw [hR']; exact hR.1) (by rw [hR']; exact hR.2.1) (by rw [hR']; exact hR.2.2.1) (by rw [hR']; exact hR.2.2.2) C.2.2.2.2.2.1 (fun t hvm hz hk => ?_) hw.2.2.2.2 (Nat.le_refl _) (Nat.le_refl _)
  exact ⟨(), trivial, ⟨rfl, hw.1.kept fun k q hk9 => hk q.1 (vx_lt hw.1 hk9)⟩, Nat.le_trans hw.2.2.1 hz, fun q h1 h2 => by rw [hk q (Nat.lt_of_lt_of_le h1 hw.2.2.1)]; exact hw.2.2.2.1 q h1 h2⟩
/-- behind a call that throws -/
theorem g_backX (C : gOk X cc nL own R ret) {rest : List Value} {ls : Array Slot} {H : Heap} {locs : List Loc} {Qa : State → Outcome → State → Prop} (hQa : ∀ a b c, ¬ Qa a b c)
    (hr : vx_Run (gpr X) (gln X) (gev X) (gRm X) (gst X) (gmi X) (gar X) (gbl X) (gme X) (gco X) H locs kc kn 1 6 (F0 (gmi X) pc ls st) rest Qa (gXC (gDD X) ad N σ (gA ad N H.size) E) (gA ad N H.size)) (hw : gWd X ad N σ H locs)
    (kx : ∀ (q : Nat) (ce : Cell) (H1 : Heap) (locs1 : List Loc), gWd X ad N σ H1 locs1 → H1[q]? = some ce → ce.vm = .none → (gst X).vm.findClass E = some ce.cls → vx_W (gpr X) (gln X) (gev X) (gRm X) (gst X) (gmi X) (gar X) (gbl X) (gme X) (gco X) H1 locs1 (kc + 1) (kn + 6) Q (F0 (gmi X) pc ls rest) q) : gW X H locs kc kn Q (F0 (gmi X) pc ls st) := by
  intro T hT X0
  rcases hr T hT X0 with ⟨v, st₀, t, T', L1, h0, X', hL, e1, e2, hq, stp⟩ | ⟨q, st₀, t, T', L1, E', ce, h0, X', hL, e1, e2, ⟨u, hp, ⟨rfl, hP⟩, hz, hk⟩, hce, hcv, hcl, stp⟩
  · exact (hQa _ _ _ hq).elim
  · rw [h0] at hz hk
    have hf := gA_free C.2.2.2.2.2.2.2.2.2.1 hw
    obtain ⟨t2, a1, b1⟩ := kx q ce T'.heap (locs ++ L1)
      ⟨by rw [e1]; exact hP, hw.2.1, ⟨Nat.le_trans hw.2.2.1 (by rw [e1]; exact hz), fun q h1 h2 => by rw [e1, hk q (Nat.lt_of_lt_of_le h1 hw.2.2.1) (fun z => h2 (hf q z))]; exact hw.2.2.2.1 q h1 h2, fun q hq => by
        rcases List.mem_append.mp hq with h | h
        · exact hw.2.2.2.2 q h
        · exact hf _ (hL q h)⟩⟩ (by rw [e1]; exact hce) hcv hcl T' rfl X'
    exact ⟨t2, stp.trans a1, b1⟩
theorem gX_blind {av : List Value} {sz : Nat} {D : va_G} {ty : Nat → ClassId} : FrameBlind (va_Pc av (fun U => U.heap.size = sz ∧ gw D ty ad N σ U ∧ gE (gA ad N sz) U U.heap)) := fun a U g mk q => by
  obtain ⟨q0, q1, ⟨qP, qK, qD, qO, qO3, qN⟩, qE⟩ := q
  exact ⟨q0, q1, ⟨qP, va_K.moved (u := U) (U := U.calling g mk a) (Vm.Alike.refl U.vm) qK, qD, qO.moved (U := U.calling g mk a) (Vm.Alike.refl U.vm), qO3.moved (U := U.calling g mk a) (Vm.Alike.refl U.vm), gNs.same (U := U.calling g mk a) rfl qN⟩, gE.same (s := U) (U := U.calling g mk a) rfl qE⟩
theorem gX_pre (C : gOk X cc nL own R ret) (hE : gE (gAA X) (gst X) (gst X).heap) {H : Heap} {locs : List Loc} (hw : gWd X ad N σ H locs) {U : State} (hU : U.heap = H) (hW : (gst X).WarmedH U.vm) : U.heap.size = H.size ∧ gw (gDD X) (gty X) ad N σ U ∧ gE (gA ad N H.size) U U.heap := by
  obtain ⟨h1, h2⟩ := g_pre hw.1 ⟨_, hw.2.1⟩ C.2.2.2.2.2.2.2.2.1 C.2.2.2.2.2.2.2.2.2.2 hU hW
  refine ⟨h1, h2, ?_⟩
  rw [hU]
  exact (gE.warm hW (hE.kept hw.2.2.2.1)).narrow (gA_free C.2.2.2.2.2.2.2.2.2.1 hw)
variable {idx nY np ci f0 lo : Nat} {y : MethodName} {cY : ByteArray} {rY : Option FieldType} {As rest : List Value} {fs : List Value}
/-- it is thrown on -/
theorem r_thrS (C : gOk X cc nL own R ret) (hX : gXk X) (hT : gXt X) (w : gCS own idx y cY nY rY np) (hM : gThr (gln X) y cY nY rY f0 lo As (gDD X) (gty X) ad N σ E) (hd : decode cc pc = .ok (.invokestatic idx, 3)) (hst : st = As.reverse ++ rest) (hn : As.length = np) (hL : L.length = nL) (hW : (rest.map fun v => v.category).sum ≤ 8) (hR : f0 + 1 ≤ R.frames ∧ 8 + (nY + 11) + lo ≤ R.locals) (hc : 1 ≤ R.cells ∧ 6 ≤ R.slots) : V X 0 0 (gXQ X E ad N σ) pc L st ad N σ := fun ls H locs hl hw => by
  have hR' := C.2.2.2.2.2.2.2.1
  have hts := C.2.2.2.2.1
  subst hst
  obtain ⟨w1, w2, w4, w5, w7, w8, w9⟩ := w
  refine g_backX C (E := E) (rest := rest) (fun _ _ _ h => h) (vx_runS (As := As) (rest := rest) ⟨C.1, C.2.1, C.2.2.1, C.2.2.2.1, hts⟩ (hM H.size) ⟨callB_of np hts (g_good w5) rfl rfl rfl (hts _ w4) (hts _ w1) ⟨w7, w8, w9⟩ (by rw [hR']; exact hR), hts _ w2⟩ ⟨gX_blind, fun U hU hW => ⟨rfl, gX_pre C hX.2 hw hU hW⟩⟩ rfl hn (hl.1.trans hL) rfl (lv_room hW) hd (by rw [hR', Nat.zero_add, Nat.zero_add]; exact hc)) hw (fun q ce H1 locs1 hw1 hce hcv hcl => ?_)
  exact vx_out (fun x hx => (hT x hx).elim) C.2.2.2.2.2.1 hce hcv hcl (fun t ht hvm => ⟨(), trivial, ⟨rfl, by rw [ht]; exact hw1.1⟩, by rw [ht]; exact hw1.2.2.1, fun q h1 h2 => by rw [ht]; exact hw1.2.2.2.1 q h1 h2⟩) hw1.2.2.2.2 (Nat.le_refl _) (Nat.le_refl _)
end EXC
