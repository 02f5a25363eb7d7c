/-! methods with handlers: words, contracts, rows -/
def gCW (own : String) (idx : Nat) (y : MethodName) (cc : ByteArray) (nL : Nat) (ret : Option FieldType) (hh : List (Nat × Nat × Nat × Nat)) (np : Nat) : Prop := Cond.methodLink own idx y ∈ WS ∧ Cond.static y ∈ WS ∧ Cond.initialized y.cls ∈ WS ∧ Cond.codeWith y cc nL ret hh ∈ WS ∧ y.cls ≠ "java/lang/invoke/MethodHandle" ∧ y.cls ≠ "java/lang/invoke/VarHandle" ∧ (parseMethodDescriptor y.desc).map (fun d => d.parameters.length) = some np
theorem Met_ofFW {y : MethodName} {ws ws' : List Cond} {l : Launch} {rm : Room} {Pc : Array Value → State → Prop} {Qc : Array Value → State → Outcome → State → Prop} {mc ms : Nat} {free : Addr → Prop} {cc : ByteArray} {maxL : Nat} {ret : Option FieldType} {hh : List (Nat × Nat × Nat × Nat)}
    (hy : plainName y.cls = true) (hw : ws = Cond.codeWith y cc maxL ret hh :: ws')
    (body : ∀ p e s m args below meth c s₁, BodyLoose p l y (headSpec ws rm) cc maxL ret e s m args below meth c s₁ → c.maxLocals = maxL → Pc args s →
      W p l e (headSpec ws rm).room s m args below meth c s.heap [] 0 0 (MQ below Qc args s mc ms free) (entryFrame m args maxL)) : Met l y ws rm Pc Qc mc ms free := by
  refine MetFree.of_bodyS (code := cc) (maxLocals := maxL) (ret := ret) hy ?_ ?_
  · intro args s m h hn
    obtain ⟨m9, meth, c, hn9, h1, h2, h3, h4, -, h5, h6, -⟩ := Cond.codeWith_spec (atoms_spec (ws := ws) h _ (by rw [hw]; exact List.mem_cons_self))
    cases hn.symm.trans hn9
    exact ⟨meth, c, h1, h2, h3, h4, h5, h6⟩
  · intro p e s m args below meth c s₁ B hml hP _
    have hh0 : s₁.heap = s.heap := by rw [B.state]; rfl
    obtain ⟨t, a1, o, b1, b2, b3⟩ := body p e s m args below meth c s₁ B hml hP s₁ hh0 (Stand.of_body B)
    exact ⟨t, o, a1, b1, b2, ⟨b3.1, b3.2⟩⟩
/-- the contract of a method with handlers -/
def gMetW (l : Launch) (y : MethodName) (cc : ByteArray) (nL : Nat) (ret : Option FieldType) (hh : List (Nat × Nat × Nat × Nat)) (R : Room) (av : List Value) (D : va_G) (ty : Nat → ClassId) (ad : Int → Nat) (N : Int) (σ : Int → va_E) (post : gPost) : Prop :=
  ∀ sz : Nat, Met l y (.codeWith y cc nL ret hh :: WS) R (va_Pc av (fun U => U.heap.size = sz ∧ gw D ty ad N σ U ∧ gE (gA ad N sz) U U.heap)) (gQc D ty (gA ad N sz) post) R.cells R.slots (gA ad N sz)
theorem gMetW_of {l : Launch} {y : MethodName} {cc : ByteArray} {nL : Nat} {ret : Option FieldType} {hh : List (Nat × Nat × Nat × Nat)} {R : Room} {av : List Value} {D : va_G} {ty : Nat → ClassId} {ad : Int → Nat} {N : Int} {σ : Int → va_E} {post : gPost} (L : List (Option Value)) (hst : l.stackTraces = false)
    (hy : plainName y.cls = true) (hL : gent av ++ List.replicate (nL - (gent av).length) none = L) (hn : (lg_sl av).length ≤ nL) (hn2 : L.length = nL)
    (body : ∀ X : gT, gln X = l → gDD X = D → gty X = ty → gOk X cc nL y.cls R ret → gXk X → (gco X).exceptionTable.toList = tableOf hh → V X 0 0 (gQ X post R.cells R.slots) 0 L [] ad N σ) : gMetW l y cc nL ret hh R av D ty ad N σ post := by
  intro sz
  refine Met_ofFW (cc := cc) (maxL := nL) (ret := ret) hy rfl ?_
  intro p e s m args below meth c s₁ B hml hv
  obtain ⟨rfl, hsz, ⟨hP, hK, hD0, hO1, hO3, hNs⟩, hE⟩ := hv
  have hts := atoms_spec (ws := .codeWith y cc nL ret hh :: WS) B.pre
  have htab := vx_table (x := y) B (hts _ List.mem_cons_self)
  subst hsz
  have hb := body (p, l, e, R, s, m, av.toArray, below, meth, c, D, ty, gA ad N s.heap.size) rfl rfl rfl
    ⟨B.exec, B.bytes, hml, findClass_of_methodNamed B.named, fun w hw => hts w (List.mem_cons_of_mem _ hw), B.notSynchronized, B.returns, rfl, hK, fun q h => Or.inr h, hO1, hO3, hNs⟩ ⟨hst, hE⟩ htab
  have hl := lv_entry av (n := nL) hn
  rw [lg_entry_eq]
  generalize (lg_sl av ++ List.replicate (nL - (lg_sl av).length) Slot.unset).toArray = ls at hl ⊢
  refine hb ls s.heap [] ?_ ⟨hP, ⟨hD0.1, fun k q hq => ?_⟩, va_S.rf⟩
  · rw [← hL, gent_args, hL, hn2]; exact hl
  · obtain ⟨h1, h2⟩ := gl_of hq
    exact Or.inl ⟨k, h1, by rw [h2]⟩
section WRAP
variable {X : gT} {cc : ByteArray} {nL : Nat} {own : String} {R : Room} {ret : Option FieldType} {kc kn : Nat} {Q : State → Prop} {pc : Nat} {L : List (Option Value)} {st : List Value} {ad : Int → Nat} {N : Int} {σ : Int → va_E} {E : String}
variable {idx nY np f0 lo : Nat} {y : MethodName} {cY : ByteArray} {rY : Option FieldType} {As rest : List Value} {fs : List Value} {hh : List (Nat × Nat × Nat × Nat)}
/-- thrown by the callee, caught here -/
theorem r_catV (C : gOk X cc nL RL R ret) (hX : gXk X) (hT : (gco X).exceptionTable.toList = tableOf hh) (w : gCV RL idx RX4 y cY nY rY np) {b : Int} (hM : gThr (gln X) y cY nY rY f0 lo (.ref (ad b) :: As) (gDD X) (gty X) ad N σ E) (hd : decode cc pc = .ok (.invokevirtual idx, 3)) (hst : st = As.reverse ++ .ref (ad b) :: rest) (hb : 0 ≤ b ∧ b < N) (hσ : σ b = .inr (4, fs)) (hn : As.length = np) (hL : L.length = nL) (hW : (rest.map fun v => v.category).sum ≤ 8) (hR : f0 + 1 ≤ R.frames ∧ 8 + (nY + 11) + lo ≤ R.locals) (hc : kc + 1 ≤ R.cells ∧ kn + 6 ≤ R.slots)
    (pre : List ExceptionTableEntry) (x : ExceptionTableEntry) (suf : List ExceptionTableEntry) (hsplit : tableOf hh = pre ++ x :: suf) (hpass : ∀ z ∈ pre, covers z pc = false ∨ (z.catchType ≠ 0 ∧ ∃ nm : String, Cond.classLink RL z.catchType nm ∈ WS ∧ va_Nc E nm (gst X))) (hx : covers x pc = true) (h0 : x.catchType ≠ 0) (hlink : Cond.classLink RL x.catchType E ∈ WS) (hcast : va_Nw (.castable E E) (gst X))
    (kk : ∀ q : Nat, V X (kc + 1) (kn + 6) Q x.handlerPc L [.ref q] ad N σ) : V X kc kn Q pc L st ad N σ := fun ls H locs hl hw => by
  have hR' := C.2.2.2.2.2.2.2.1
  have hts := C.2.2.2.2.1
  subst hst
  obtain ⟨w1, w2, w3, w4, w5, w6, w7, w8, w9⟩ := w
  refine g_backX C (E := E) (rest := rest) (fun _ _ _ h => h) (vx_runV (As := As) (rest := rest) ⟨C.1, C.2.1, C.2.2.1, C.2.2.2.1, hts⟩ (hM H.size) ⟨callB_of np hts (g_good w5) rfl rfl rfl (by rw [w6]; exact hts _ w4) (hts _ w1) ⟨w7, w8, w9⟩ (by rw [hR']; exact hR), hts _ w2, hts _ w3⟩ ⟨gX_blind, ?_, fun U hU hW => ⟨rfl, gX_pre C hX.2 hw hU hW⟩⟩ rfl hn (hl.1.trans hL) rfl (lv_room hW) hd (by rw [hR']; exact hc)) hw (fun q ce H1 locs1 hw1 hce hcv hcl => ?_)
  · exact va_recv (ci := 4) (q0 := b.toNat) C.2.2.2.2.2.2.2.2.1 hw.1 rfl (by rw [gl_at hb, hσ])
  · exact vx_catch C.2.2.2.1 pre x suf (hT.trans hsplit) (fun z hz => (hpass z hz).imp id (fun h => ⟨h.1, h.2.imp fun nm h2 => ⟨hts _ h2.1, h2.2⟩⟩)) hx h0 (hts _ hlink) (va_Nw.use rfl hcast) hce hcv hcl (kk q ls H1 locs1 hl hw1)
/-- a call of a method with handlers -/
theorem r_cW {RY : Room} (C : gOk X cc nL own R ret) (hE : gE (gAA X) (gst X) (gst X).heap) (w : gCW own idx y cY nY rY hh np) {v : Value} {σ' : Int → va_E} (hM : gMetW (gln X) y cY nY rY hh RY As (gDD X) (gty X) ad N σ (gD (some v) ad N σ')) (hd : decode cc pc = .ok (.invokestatic idx, 3)) (hst : st = As.reverse ++ rest) (hn : As.length = np) (hL : L.length = nL) (hW : (rest.map fun v => v.category).sum ≤ 8) (hR : RY.frames + 1 ≤ R.frames ∧ 8 + (nY + 11) + RY.locals ≤ R.locals) (hc : kc + RY.cells ≤ R.cells ∧ kn + RY.slots ≤ R.slots)
    (k : V X (kc + RY.cells) (kn + RY.slots) Q (pc + 3) L (v :: rest) ad N σ') : V X kc kn Q pc L st ad N σ := fun ls H locs hl hw => by
  have hR' := C.2.2.2.2.2.2.2.1
  have hts := C.2.2.2.2.1
  subst hst
  obtain ⟨w1, w2, w4, w5, w7, w8, w9⟩ := w
  have hG : GoodIn WS (va_wsS own idx y (Cond.codeWith y cY nY rY hh :: WS)) := by
    intro z hz
    unfold va_wsS at hz
    rcases List.mem_append.mp hz with h | h
    · rcases List.mem_cons.mp h with h | h
      · rw [h]; exact WS_good _ w1
      · rcases List.mem_cons.mp h with h | h
        · rw [h]; exact WS_good _ w2
        · rw [List.mem_singleton.mp h]; exact WS_good _ w4
    · rcases List.mem_cons.mp h with h | h
      · rw [h]; exact WS_good _ w5
      · exact WS_good _ h
  exact g_back C (vx_runSW (As := As) (rest := rest) ⟨C.1, C.2.1, C.2.2.1, C.2.2.2.1, hts⟩ (hM H.size) (vx_cwSW np hts hG rfl rfl rfl ⟨w7, w8, w9⟩ (by rw [hR']; exact hR)) ⟨gX_blind, fun U hU hW => ⟨rfl, gX_pre C hE hw hU hW⟩⟩ rfl hn (hl.1.trans hL) rfl (lv_room hW) hd (by rw [hR']; exact hc)) hl hw (fun rv ad' N' σ2 h => by obtain ⟨rfl, rfl, rfl, rfl⟩ := h; exact k)
end WRAP
