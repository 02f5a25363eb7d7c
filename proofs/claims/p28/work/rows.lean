section
/-! the tables' words, the rows on exceptions (out of the skeleton and the printed names) -/
-- ===== PART A: goes FIRST, ahead of the names: the tables' words, and 'selects' of the private methods out of them =====
/-- a private method of a class that the tables say can be made, by its rows of tables_1 -/
def lw_okq (q : MethodName × Nat) : Prop := (q.1.cls ≠ "java/lang/invoke/MethodHandle" ∧ q.1.cls ≠ "java/lang/invoke/VarHandle") ∧ Cond.instantiable q.1.cls q.2 ∈ tables_1 ∧ Cond.privateMethod q.1 ∈ tables_1 ∧ Cond.instanceMethod q.1 ∈ tables_1
theorem lw_p0 : lw_okq (⟨"java/lang/Throwable", "fillInStackTrace", "(I)Ljava/lang/Throwable;"⟩, 6) := ⟨⟨by decide +kernel, by decide +kernel⟩, List.mem_of_getElem? (i := 195) (by decide +kernel), List.mem_of_getElem? (i := 193) (by decide +kernel), List.mem_of_getElem? (i := 194) (by decide +kernel)⟩
theorem lw_p1 : lw_okq (⟨"CandleRooms", "countNumber", "(I)I"⟩, 3) := ⟨⟨by decide +kernel, by decide +kernel⟩, List.mem_of_getElem? (i := 15) (by decide +kernel), List.mem_of_getElem? (i := 359) (by decide +kernel), List.mem_of_getElem? (i := 360) (by decide +kernel)⟩
def lw_privs_1 : List (MethodName × Nat) := [(⟨"java/lang/Throwable", "fillInStackTrace", "(I)Ljava/lang/Throwable;"⟩, 6), (⟨"CandleRooms", "countNumber", "(I)I"⟩, 3)]
theorem lw_r1 : ∀ q ∈ lw_privs_1, lw_okq q := List.forall_mem_cons.mpr ⟨lw_p0, List.forall_mem_cons.mpr ⟨lw_p1, fun _ h => absurd h List.not_mem_nil⟩⟩
def lw_privs : List (MethodName × Nat) := lw_privs_1
def lw_tbl : List Cond := k2_sels lw_privs ++ tables_1
theorem lw_privs_ok : ∀ q ∈ lw_privs, lw_okq q := lw_r1
/-- the streams that the claim lets the run draw from -/
abbrev lw_cs : List Choice := [Jvm.Choice.named "NaN.bits"]
theorem lw_bits : nanBits ∈ lw_cs := by first | decide | exact List.mem_cons_self | simp [lw_cs, nanBits]
-- ===== end of PART A; then your names; then what follows =====
/-! ===== BEGIN words of one list among another's, by their places ===== -/
theorem goodIn_r {big : List Cond} (ws : List Cond) (ps : List Nat) (hp : ws = ps.filterMap (fun i => big[i]?)) (h : ws.all goodWord = true) : GoodIn big ws := by
  intro w hw
  have h1 := List.all_eq_true.mp h w hw
  rw [hp] at hw
  obtain ⟨i, -, hi⟩ := List.mem_filterMap.mp hw
  have hm : w ∈ big := by first | exact List.mem_of_getElem? hi | exact List.getElem?_mem hi
  exact ⟨hm, good_of_word h1⟩
theorem goodIn_app {big a b : List Cond} (ha : GoodIn big a) (hb : GoodIn big b) : GoodIn big (a ++ b) := fun w h => (List.mem_append.mp h).elim (ha w) (hb w)
theorem goodIn_ca {big a b : List Cond} {c : Cond} (ha : GoodIn big (c :: a)) (hb : GoodIn big b) : GoodIn big (c :: (a ++ b)) := fun w h => (List.mem_cons.mp h).elim (fun e => ha w (List.mem_cons.mpr (Or.inl e))) (fun h => (List.mem_append.mp h).elim (fun h => ha w (List.mem_cons.mpr (Or.inr h))) (hb w))
theorem goodIn_sub {big ws : List Cond} (hm : ∀ w ∈ ws, w ∈ big) (h : ws.all goodWord = true) : GoodIn big ws := fun w hw => ⟨hm w hw, good_of_word (List.all_eq_true.mp h w hw)⟩
/-! ===== END ===== -/

/-! ===== BEGIN exceptions that leave a method, and their catching by the caller (launches without stack traces) ===== -/
section VXA
/-! The laws vx_back, vx_callV, vx_callS, vx_callSW, vx_throw0, vx_throwS follow proofs of the library, with one case more: JvmDerived/Free/Laws.lean (Back.of_free), Shelf42/LK1.lean (callV, callS), Shelf/KitTraced.lean (throwNew0V, throwNewS). -/
/-- where a method has thrown q: the class by its name, the cell, what was written, the world -/
def vx_T (XC : String → State → State → Prop) (st : State) (q : Addr) (t : State) (mc ms : Nat) (free : Addr → Prop) : Prop :=
  ∃ (E : String) (ce : Cell) (L : List Loc), XC E st t ∧ t.heap[q]? = some ce ∧ ce.vm = .none ∧ st.vm.findClass E = some ce.cls ∧ st.WarmedH t.vm ∧ st.sameButNew ({ t with vm := st.vm } : State) L mc ms ∧ ∀ z ∈ L, free z.base
def vx_Q (Qc : Array Value → State → Outcome → State → Prop) (XC : String → State → State → Prop) (mc ms : Nat) (free : Addr → Prop) : Array Value → State → Outcome → State → Prop := fun a st o t =>
  (Qc a st o t ∧ ∃ L, FrameEnd st o t L mc ms ∧ ∀ q ∈ L, free q.base) ∨ ∃ q, o = .threw q ∧ vx_T XC st q t mc ms free
/-- a callee that returns or throws -/
def vx_Met (l : Launch) (y : MethodName) (ws : List Cond) (rm : Room) (Pc : Array Value → State → Prop) (Qc : Array Value → State → Outcome → State → Prop) (XC : String → State → State → Prop) (mc ms : Nat) (free : Addr → Prop) : Prop :=
  MetFree l y (headSpec ws rm) Pc (fun _ _ _ _ _ => True) (vx_Q Qc XC mc ms free)
def vx_Post (XC : String → State → State → Prop) (mc ms : Nat) (free : Addr → Prop) : Pt → Array Value → Addr → Pt → Prop := fun A a q B =>
  ∃ (g : JFrame) (mk : MethodId) (t : State) (L : List Loc) (E : String) (ce : Cell), B.U.heap = t.heap ∧ B.U.vm = t.vm ∧ XC E (A.U.calling g mk a) t ∧ t.heap[q]? = some ce ∧ ce.vm = .none ∧ A.U.vm.findClass E = some ce.cls ∧ B.locs = A.locs ++ L ∧ (∀ z ∈ L, free z.base) ∧ B.cells = A.cells + mc ∧ B.slots = A.slots + ms
def vx_Back (l : Launch) (R : Room) (p : Program) (e : Env) (below : List Frame) (s : State) (sargs : Array Value) (y : MethodName) (len W9 : Nat)
    (Pre : Pt → Array Value → Prop) (Post : Pt → Array Value → Option Value → Pt → Prop) (PostX : Pt → Array Value → Addr → Pt → Prop) : Prop :=
  ∀ (m : MethodId) (meth : Method) (c : Code) (A : Pt) (g : JFrame) (ig : Instr) (mk : MethodId) (a : Array Value),
    Stand p l e R s m sargs below meth c A.U A.locs A.cells A.slots → g.method = m → g.locals.size = c.maxLocals → decode c.code g.pc = .ok (ig, len) →
    2 * g.monitorRoom + (g.stack.map fun v => v.category).sum ≤ W9 → A.U.methodNamed? y = some mk → Pre A a →
    (∃ (v : Option Value) (B : Pt), Stand p l e R s m sargs below meth c B.U B.locs B.cells B.slots ∧ Post A a v B ∧
      Steps p.tables e below (doInvoke e (A.U.setTop g) [] mk a).1 (B.U.setTop { g with pc := g.pc + len, stack := v.toList ++ g.stack })) ∨
    (∃ (q : Addr) (B : Pt), Stand p l e R s m sargs below meth c B.U B.locs B.cells B.slots ∧ PostX A a q B ∧
      Steps p.tables e below (doInvoke e (A.U.setTop g) [] mk a).1 ((B.U.setTop g).pushFrame (.throwing q)))
section Payer
variable {l : Launch} {R : Room} {p : Program} {e : Env} {below : List Frame} {s : State} {sargs : Array Value} {y : MethodName} {len W9 : Nat}
theorem vx_back {ws : List Cond} {rm : Room} {Pc : Array Value → State → Prop} {Qc : Array Value → State → Outcome → State → Prop} {XC : String → State → State → Prop} {mc ms : Nat} {free : Addr → Prop} {bytes : ByteArray} {maxL : Nat} {ret : Option FieldType}
    (hM : vx_Met l y ws rm Pc Qc XC mc ms free) (hblind : FrameBlind Pc) (hrc : rm.cells = mc) (hrs : rm.slots = ms)
    (hframes : rm.frames + 1 ≤ R.frames) (hlocals : W9 + (maxL + 11) + rm.locals ≤ R.locals)
    (hws : ∀ w ∈ ws, ∀ a' U, s.WarmedH U.vm → w.before a' U = true) (hcode : Cond.code y bytes maxL ret ∈ ws) (hinit : ∀ a' U, s.WarmedH U.vm → (Cond.initialized y.cls).before a' U = true) :
    vx_Back l R p e below s sargs y len W9 (PreOf R mc ms Pc) (PostOf Qc mc ms free) (vx_Post XC mc ms free) := by
  intro m meth c A g ig mk a X hg hsize hdg hW hn hp
  have h1 : (headSpec ws rm).pre.before a A.U = true := atoms_intro fun w hw => hws w hw _ _ X.warmed
  have h2 : (Cond.code y bytes maxL ret).before a A.U = true := hws _ hcode _ _ X.warmed
  have h3 : (Cond.initialized y.cls).before a A.U = true := hinit _ _ X.warmed
  have h4 : A.cells + (headSpec ws rm).room.cells ≤ R.cells := by rw [show (headSpec ws rm).room.cells = mc from hrc]; exact hp.1
  have h5 : A.slots + (headSpec ws rm).room.slots ≤ R.slots := by rw [show (headSpec ws rm).room.slots = ms from hrs]; exact hp.2.1
  have hPc : Pc a (A.U.calling g mk a) := hblind _ _ _ _ hp.2.2
  obtain ⟨U, Ls, c0, s0⟩ := A
  dsimp only [Pt.U, Pt.locs, Pt.cells, Pt.slots] at h1 h2 h3 h4 h5 X hn hPc ⊢
  obtain ⟨methY, cY, hmY, hcY, -, hlY, -, -, -, -⟩ := Cond.code_spec hn h2
  obtain ⟨kY, hkY, -⟩ := className_of_methodNamed hn
  have hinitY : kY.init = .initialized := Cond.initialized_spec (findClass_of_methodNamed hn) hkY h3
  have h : At U g.method c below := by rw [hg]; exact X.here
  have hlocals9 : W9 + (maxL + 11) + (headSpec ws rm).room.locals ≤ R.locals := hlocals
  have happ : (headSpec ws rm).appliesLoose y e.platform (U.calling g mk a) = true :=
    Spec.appliesLoose_calling (g := g) h hdg hn hkY hinitY
      (X.room_calling (g := g) (R' := (headSpec ws rm).room) hsize hmY hcY hframes (by rw [hlY]; omega) h4 h5) h1
  obtain ⟨mid, hmid⟩ := h.above
  have hfr : (U.setTop g).frames = (.java g :: mid) ++ below := by rw [State.frames_setTop' g h.top, hmid]; rfl
  obtain ⟨o, s₂, hsteps, -, hend, hq⟩ := Steps.callFree hM p X.admits X.cas X.clock (acts := []) hfr happ hPc trivial
  have hq' : vx_Q Qc XC mc ms free a (U.calling g mk a) o s₂ := hq
  rw [State.frames_setTop' g h.top] at hend
  obtain ⟨g₀, hg0⟩ := Option.isSome_iff_exists.mp h.top
  obtain ⟨r, hr⟩ := State.topJava?_eq_some.mp hg0
  have hr' : (({ U with heap := s₂.heap, slotsUsed := s₂.slotsUsed } : State).setVm s₂.vm).frames = .java g₀ :: r := hr
  rcases hq' with ⟨hqc, L, hfe, hL⟩ | ⟨q, rfl, E, ce, L, hx, hce, hcv, hcl, hW₂, hsm, hL⟩
  · obtain ⟨⟨v, rfl⟩, hW₂, e2, q2, q3, q4, q5, q6⟩ := id hfe
    have e3 : s₂ = ({ (U.calling g mk a).setFrames s₂.frames with heap := s₂.heap, slotsUsed := s₂.slotsUsed } : State).setVm s₂.vm := by
      have : s₂ = ({ s₂ with vm := (U.calling g mk a).vm } : State).setVm s₂.vm := rfl
      rw [e2] at this
      exact this
    obtain ⟨c₂, i₂, len₂, hc₂, hd₂, hf₂⟩ := hend
    have hW' : U.WarmedH s₂.vm := hW₂
    have hcc : c₂ = c := by
      have h1 : s₂.code? g.method = U.code? g.method := by
        rw [State.code?_eq, State.code?_eq, hW'.alike.method?]
      exact Option.some.inj (hc₂.symm.trans (h1.trans h.code))
    subst hcc
    have hlen : len₂ = len := by rw [hdg] at hd₂; cases hd₂; rfl
    subst hlen
    have hs₂ : s₂ = (({ U with heap := s₂.heap, slotsUsed := s₂.slotsUsed } : State).setVm s₂.vm).setTop { g with pc := g.pc + len₂, stack := v.toList ++ g.stack } := by
      refine e3.trans ?_
      rw [hf₂, State.calling_eq h.top, State.setFrames_setFrames, State.setTop_of_frames _ hr', hr]
      rfl
    have hsame : U.sameButNew ({ U with heap := s₂.heap, slotsUsed := s₂.slotsUsed } : State) L mc ms := by
      refine ⟨?_, q2, q3, q4, q5, q6⟩
      obtain ⟨t, ht, -⟩ := State.frames_cons hr
      show ({ U with heap := s₂.heap, slotsUsed := s₂.slotsUsed } : State) = { U.setFrames U.frames with heap := s₂.heap, slotsUsed := s₂.slotsUsed }
      rw [State.setFrames_self ht]
    subst hg
    refine Or.inl ⟨v, ⟨(({ U with heap := s₂.heap, slotsUsed := s₂.slotsUsed } : State).setVm s₂.vm), Ls ++ L, c0 + mc, s0 + ms⟩,
      ⟨X.admits, X.cas, X.clock, X.frames, X.room, X.hears, X.method, X.code, (X.here.setHeapUsed s₂.heap s₂.slotsUsed).setVm hW'.alike, X.tail, State.WarmedH.trans X.warmed hW', X.limits, X.bytes, X.same.trans (hsame.setVm s.vm)⟩,
      ⟨g, mk, s₂, L, rfl, rfl, hqc, rfl, hL, rfl, rfl⟩, ?_⟩
    show Steps p.tables e below _ ((({ U with heap := s₂.heap, slotsUsed := s₂.slotsUsed } : State).setVm s₂.vm).setTop { g with pc := g.pc + len₂, stack := v.toList ++ g.stack })
    rw [← hs₂]
    exact hsteps
  · obtain ⟨e2, q2, q3, q4, q5, q6⟩ := id hsm
    have e3 : s₂ = ({ (U.calling g mk a).setFrames s₂.frames with heap := s₂.heap, slotsUsed := s₂.slotsUsed } : State).setVm s₂.vm := by
      have : s₂ = ({ s₂ with vm := (U.calling g mk a).vm } : State).setVm s₂.vm := rfl
      rw [e2] at this
      exact this
    have hf₂ : s₂.frames = .throwing q :: .java g :: U.frames.tail := hend
    have hW' : U.WarmedH s₂.vm := hW₂
    have hs₂ : s₂ = ((({ U with heap := s₂.heap, slotsUsed := s₂.slotsUsed } : State).setVm s₂.vm).setTop g).pushFrame (.throwing q) := by
      refine e3.trans ?_
      rw [hf₂, State.calling_eq h.top, State.setFrames_setFrames, State.pushFrame, State.frames_setTop _ hr', State.setTop_of_frames _ hr', State.setFrames_setFrames, hr]
      rfl
    have hsame : U.sameButNew ({ U with heap := s₂.heap, slotsUsed := s₂.slotsUsed } : State) L mc ms := by
      refine ⟨?_, q2, q3, q4, q5, q6⟩
      obtain ⟨t, ht, -⟩ := State.frames_cons hr
      show ({ U with heap := s₂.heap, slotsUsed := s₂.slotsUsed } : State) = { U.setFrames U.frames with heap := s₂.heap, slotsUsed := s₂.slotsUsed }
      rw [State.setFrames_self ht]
    subst hg
    refine Or.inr ⟨q, ⟨(({ U with heap := s₂.heap, slotsUsed := s₂.slotsUsed } : State).setVm s₂.vm), Ls ++ L, c0 + mc, s0 + ms⟩,
      ⟨X.admits, X.cas, X.clock, X.frames, X.room, X.hears, X.method, X.code, (X.here.setHeapUsed s₂.heap s₂.slotsUsed).setVm hW'.alike, X.tail, State.WarmedH.trans X.warmed hW', X.limits, X.bytes, X.same.trans (hsame.setVm s.vm)⟩,
      ⟨g, mk, s₂, L, E, ce, rfl, rfl, hx, hce, hcv, hcl, rfl, hL, rfl, rfl⟩, ?_⟩
    show Steps p.tables e below _ (((({ U with heap := s₂.heap, slotsUsed := s₂.slotsUsed } : State).setVm s₂.vm).setTop g).pushFrame (.throwing q))
    rw [← hs₂]
    exact hsteps
end Payer
section Calls
variable {p : Program} {l : Launch} {e : Env} {R : Room} {s : State} {m : MethodId} {args : Array Value} {below : List Frame} {meth : Method} {c : Code} {T : State} {locs : List Loc} {cells slots : Nat}
theorem vx_callV (X : Stand p l e R s m args below meth c T locs cells slots) (hexec : p.tables.exec = Jvm.exec) {own C : String} {index : Nat} {y : MethodName} {bytes : ByteArray} {maxL : Nat} {ret : Option FieldType}
    (hown : s.vm.findClass own = some m.cls) (hlink : (Cond.methodLink own index y).before args s = true) (hinst : (Cond.instanceMethod y).before args s = true) (hsel : (Cond.selects C y y).before args s = true)
    (hcode : (Cond.code y bytes maxL ret).before args s = true) (hy : y.cls ≠ "java/lang/invoke/MethodHandle" ∧ y.cls ≠ "java/lang/invoke/VarHandle")
    {W9 : Nat} {Pre : Pt → Array Value → Prop} {Post : Pt → Array Value → Option Value → Pt → Prop} {PostX : Pt → Array Value → Addr → Pt → Prop} (hK : vx_Back l R p e below s args y 3 W9 Pre Post PostX)
    {b : Addr} {cellB : Cell} (hcell : T.heap[b]? = some cellB) (hobj : cellB.vm.isStatics = false) (hcls : s.vm.findClass C = some cellB.cls)
    {g : JFrame} (hg : g.method = m) (hsize : g.locals.size = c.maxLocals) {argsL rest : List Value} (hlen : ∀ sig, parseMethodDescriptor y.desc = some sig → argsL.length = sig.parameters.length)
    (hstack : g.stack = argsL.reverse ++ .ref b :: rest) (hW : 2 * g.monitorRoom + (rest.map fun v => v.category).sum ≤ W9) (hdg : decode c.code g.pc = .ok (.invokevirtual index, 3))
    (hpre : ∀ vm₁, s.WarmedH vm₁ → Pre ⟨T.setVm vm₁, locs, cells, slots⟩ (Value.ref b :: argsL).toArray) :
    (∃ (v : Option Value) (vm₁ : Vm) (B : Pt), s.WarmedH vm₁ ∧ Stand p l e R s m args below meth c B.U B.locs B.cells B.slots ∧ Post ⟨T.setVm vm₁, locs, cells, slots⟩ (Value.ref b :: argsL).toArray v B ∧
      ∀ target, Steps p.tables e below (B.U.setTop { g with pc := g.pc + 3, stack := v.toList ++ rest }) target → Steps p.tables e below (T.setTop g) target) ∨
    (∃ (q : Addr) (vm₁ : Vm) (B : Pt), s.WarmedH vm₁ ∧ Stand p l e R s m args below meth c B.U B.locs B.cells B.slots ∧ PostX ⟨T.setVm vm₁, locs, cells, slots⟩ (Value.ref b :: argsL).toArray q B ∧
      Steps p.tables e below (T.setTop g) ((B.U.setTop { g with stack := rest }).pushFrame (.throwing q))) := by
  obtain ⟨mk, methM, hnamed, hmethM, hstM, habM⟩ := Cond.instanceMethod_spec hinst
  obtain ⟨methM', cM, hmethM', -, -, -, -, -, -, hsigM⟩ := Cond.code_spec hnamed hcode
  cases hmethM.symm.trans hmethM'
  obtain ⟨c2, r2, m2, q1, q2, q3, q4, kP, hkP, hkPi⟩ := Cond.selects_spec hsel
  cases hcls.symm.trans q1
  cases (State.methodFound?_of_named hnamed hy).symm.trans q2
  cases hnamed.symm.trans q3
  have hselP : selectMethod e.platform s.vm cellB.cls mk = .method mk := by rw [Launch.admits_selectMethod X.admits]; exact q4
  obtain ⟨vm₁, X₁, hstep₁⟩ := X.invokevirtual hexec hown hlink hnamed hmethM hstM hkP hkPi hy (a := b) (cell := cellB) hcell
    (fun z h => by rw [h] at hobj; cases hobj) hselP hmethM habM hkP hkPi (g := g) hg (argsL := argsL) (rest := rest) (hlen _ hsigM) hstack hdg
  rcases hK m meth c ⟨T.setVm vm₁, locs, cells, slots⟩ { g with stack := rest } (.invokevirtual index) mk (Value.ref b :: argsL).toArray X₁ hg hsize hdg hW (X₁.named hnamed) (hpre vm₁ X₁.warmed) with ⟨v, B, X', hpost, hsteps⟩ | ⟨q, B, X', hpost, hsteps⟩
  · exact Or.inl ⟨v, vm₁, B, X₁.warmed, X', hpost, fun target h => hstep₁ _ fun acts => by rw [doInvoke_state]; exact hsteps.trans h⟩
  · exact Or.inr ⟨q, vm₁, B, X₁.warmed, X', hpost, hstep₁ _ fun acts => by rw [doInvoke_state]; exact hsteps⟩
theorem vx_callS (X : Stand p l e R s m args below meth c T locs cells slots) (hexec : p.tables.exec = Jvm.exec) {own : String} {index : Nat} {y : MethodName} {bytes : ByteArray} {maxL : Nat} {ret : Option FieldType}
    (hown : s.vm.findClass own = some m.cls) (hlink : (Cond.methodLink own index y).before args s = true) (hstat : (Cond.static y).before args s = true) (hinit : (Cond.initialized y.cls).before args s = true)
    (hcode : (Cond.code y bytes maxL ret).before args s = true) (hy : y.cls ≠ "java/lang/invoke/MethodHandle" ∧ y.cls ≠ "java/lang/invoke/VarHandle")
    {W9 : Nat} {Pre : Pt → Array Value → Prop} {Post : Pt → Array Value → Option Value → Pt → Prop} {PostX : Pt → Array Value → Addr → Pt → Prop} (hK : vx_Back l R p e below s args y 3 W9 Pre Post PostX)
    {g : JFrame} (hg : g.method = m) (hsize : g.locals.size = c.maxLocals) {argsL rest : List Value} (hlen : ∀ sig, parseMethodDescriptor y.desc = some sig → argsL.length = sig.parameters.length)
    (hstack : g.stack = argsL.reverse ++ rest) (hW : 2 * g.monitorRoom + (rest.map fun v => v.category).sum ≤ W9) (hdg : decode c.code g.pc = .ok (.invokestatic index, 3))
    (hpre : ∀ vm₁, s.WarmedH vm₁ → Pre ⟨T.setVm vm₁, locs, cells, slots⟩ argsL.toArray) :
    (∃ (v : Option Value) (vm₁ : Vm) (B : Pt), s.WarmedH vm₁ ∧ Stand p l e R s m args below meth c B.U B.locs B.cells B.slots ∧ Post ⟨T.setVm vm₁, locs, cells, slots⟩ argsL.toArray v B ∧
      ∀ target, Steps p.tables e below (B.U.setTop { g with pc := g.pc + 3, stack := v.toList ++ rest }) target → Steps p.tables e below (T.setTop g) target) ∨
    (∃ (q : Addr) (vm₁ : Vm) (B : Pt), s.WarmedH vm₁ ∧ Stand p l e R s m args below meth c B.U B.locs B.cells B.slots ∧ PostX ⟨T.setVm vm₁, locs, cells, slots⟩ argsL.toArray q B ∧
      Steps p.tables e below (T.setTop g) ((B.U.setTop { g with stack := rest }).pushFrame (.throwing q))) := by
  obtain ⟨mk, hnamed⟩ := Cond.code_named hcode
  obtain ⟨methM, cM, hmethM, -, -, -, -, -, -, hsigM⟩ := Cond.code_spec hnamed hcode
  have hstatic : methM.isStatic = true := Cond.static_spec hnamed hmethM hstat
  obtain ⟨kP, hkP, -⟩ := className_of_methodNamed hnamed
  have hinitP : kP.init = .initialized := Cond.initialized_spec (findClass_of_methodNamed hnamed) hkP hinit
  obtain ⟨vm₁, X₁, hstep₁⟩ := X.invokestatic hexec hown hlink hnamed hmethM hstatic hkP hinitP hy (g := g) hg (argsL := argsL) (rest := rest) (hlen _ hsigM) hstack hdg
  rcases hK m meth c ⟨T.setVm vm₁, locs, cells, slots⟩ { g with stack := rest } (.invokestatic index) mk argsL.toArray X₁ hg hsize hdg hW (X₁.named hnamed) (hpre vm₁ X₁.warmed) with ⟨v, B, X', hpost, hsteps⟩ | ⟨q, B, X', hpost, hsteps⟩
  · exact Or.inl ⟨v, vm₁, B, X₁.warmed, X', hpost, fun target h => hstep₁ _ fun acts => by rw [doInvoke_state]; exact hsteps.trans h⟩
  · exact Or.inr ⟨q, vm₁, B, X₁.warmed, X', hpost, hstep₁ _ fun acts => by rw [doInvoke_state]; exact hsteps⟩
end Calls
theorem vx_cls {s : State} {T : State} {vm₁ : Vm} {E : String} {k : ClassId} (hW : s.WarmedH vm₁) (h : (T.setVm vm₁).vm.findClass E = some k) : s.vm.findClass E = some k := by
  have h1 : vm₁.findClass E = some k := h
  rw [hW.alike.findClass] at h1
  exact h1
/-- the method's frame g, with q thrown over it -/
def vx_W (p : Program) (l : Launch) (e : Env) (R : Room) (s : State) (m : MethodId) (args : Array Value) (below : List Frame) (meth : Method) (c : Code) (H : Heap) (locs : List Loc) (cells slots : Nat) (Q : State → Prop) (g : JFrame) (q : Addr) : Prop :=
  ∀ T : State, T.heap = H → Stand p l e R s m args below meth c T locs cells slots → ∃ t, Steps p.tables e below ((T.setTop g).pushFrame (.throwing q)) t ∧ Q t
def vx_Run (p : Program) (l : Launch) (e : Env) (R : Room) (s : State) (m : MethodId) (args : Array Value) (below : List Frame) (meth : Method) (c : Code) (H : Heap) (locs : List Loc) (cells slots mc ms : Nat) (g : JFrame) (rest : List Value) (Qa : State → Outcome → State → Prop) (XC : String → State → State → Prop) (free : Addr → Prop) : Prop :=
  ∀ T : State, T.heap = H → Stand p l e R s m args below meth c T locs cells slots →
    (∃ (v : Option Value) (st₀ t T' : State) (L : List Loc), st₀.heap = H ∧ Stand p l e R s m args below meth c T' (locs ++ L) (cells + mc) (slots + ms) ∧ (∀ q ∈ L, free q.base) ∧ T'.heap = t.heap ∧ T'.vm = t.vm ∧ Qa st₀ (.returned v) t ∧
      Goes p e below T g T' { g with pc := g.pc + 3, stack := v.toList ++ rest }) ∨
    (∃ (q : Addr) (st₀ t T' : State) (L : List Loc) (E : String) (ce : Cell), st₀.heap = H ∧ Stand p l e R s m args below meth c T' (locs ++ L) (cells + mc) (slots + ms) ∧ (∀ z ∈ L, free z.base) ∧ T'.heap = t.heap ∧ T'.vm = t.vm ∧ XC E st₀ t ∧ t.heap[q]? = some ce ∧ ce.vm = .none ∧ s.vm.findClass E = some ce.cls ∧
      Steps p.tables e below (T.setTop g) ((T'.setTop { g with stack := rest }).pushFrame (.throwing q)))
def vx_X {S : Type} (px : S → Prop) (B : String → S → State → Prop) (A : Nat → Prop) : String → State → State → Prop := fun E st t => ∃ u : S, px u ∧ B E u t ∧ va_F A st t
section Runs
variable {p : Program} {l : Launch} {e : Env} {R : Room} {s : State} {m : MethodId} {args : Array Value} {below : List Frame} {meth : Method} {c : Code} {H : Heap} {locs : List Loc} {cells slots : Nat}
variable {y : MethodName} {bytes cc : ByteArray} {maxL nL mc ms n index : Nat} {ret : Option FieldType} {ws : List Cond} {rm : Room} {Pc : Array Value → State → Prop} {Qc : Array Value → State → Outcome → State → Prop} {XC : String → State → State → Prop} {free : Addr → Prop} {Ts : List Cond} {own C : String} {b : Addr} {As rest : List Value} {g : JFrame}
theorem vx_callBack (cb : CallB R s args own index y bytes maxL ret ws rm mc ms n) (hM : vx_Met l y ws rm Pc Qc XC mc ms free) (hbl : FrameBlind Pc) : vx_Back l R p e below s args y 3 8 (PreOf R mc ms Pc) (PostOf Qc mc ms free) (vx_Post XC mc ms free) := by
  obtain ⟨hrc, hrs, hfr, hlo, hws, hcw, -, hini, -⟩ := cb
  exact vx_back (bytes := bytes) (maxL := maxL) (ret := ret) hM hbl hrc hrs hfr hlo hws hcw (fun a' U hW => word_at hW (Or.inl (by first | rfl | simp [Cond.onTables, Cond.keeps, Cond.steady])) hini)
theorem vx_runV (S : CallFix p m c cc nL s args Ts own) (hM : vx_Met l y ws rm Pc Qc XC mc ms free) (cw : CallW R s args own C index y bytes maxL ret ws rm mc ms n) (hp : PreV s H C b Pc As)
    (hg : g.method = m) (hn : As.length = n) (hsize : g.locals.size = nL) (hstack : g.stack = As.reverse ++ .ref b :: rest) (hW : 2 * g.monitorRoom + (rest.map fun v => v.category).sum ≤ 8) (hdg : decode cc g.pc = .ok (.invokevirtual index, 3)) (hf : cells + mc ≤ R.cells ∧ slots + ms ≤ R.slots) :
    vx_Run p l e R s m args below meth c H locs cells slots mc ms g rest (Qc (Value.ref b :: As).toArray) XC free := by
  have hK : vx_Back l R p e below s args y 3 8 (PreOf R mc ms Pc) (PostOf Qc mc ms free) (vx_Post XC mc ms free) := vx_callBack cw.1 hM hp.1
  obtain ⟨⟨-, -, -, -, -, -, hcode, -, hy, hlen, hl⟩, hin, hse⟩ := cw
  obtain ⟨hx, hb, hml, ho, -⟩ := S
  obtain ⟨-, ⟨cellB, hcB, hoB, hclB⟩, hPc⟩ := hp
  intro T hT X
  rcases vx_callV X hx (C := C) (bytes := bytes) (maxL := maxL) (ret := ret) ho hl hin hse hcode hy hK (by rw [hT]; exact hcB) hoB hclB hg (hsize.trans hml.symm) (argsL := As) (rest := rest) (fun sig h => hn.trans (hlen sig h)) hstack hW (by rw [hb]; exact hdg)
    (fun vm₁ hW₁ => ⟨hf.1, hf.2, hPc (T.setVm vm₁) hT hW₁⟩) with ⟨v, vm₁, ⟨U', l2, c2, s2⟩, hW₁, X', ⟨g', mk, t, L, e1, e2, hq, h1, hL, h2, h3⟩, st⟩ | ⟨q, vm₁, ⟨U', l2, c2, s2⟩, hW₁, X', ⟨g', mk, t, L, E, ce, e1, e2, hq, hce, hcv, hcl, h1, hL, h2, h3⟩, st⟩
  · dsimp only [Pt.U, Pt.locs, Pt.cells, Pt.slots] at X' e1 e2 h1 h2 h3 st
    subst h1; subst h2; subst h3
    exact Or.inl ⟨v, (T.setVm vm₁).calling g' mk (Value.ref b :: As).toArray, t, U', L, hT, X', hL, e1, e2, hq, st⟩
  · dsimp only [Pt.U, Pt.locs, Pt.cells, Pt.slots] at X' e1 e2 h1 h2 h3 st hcl
    subst h1; subst h2; subst h3
    exact Or.inr ⟨q, (T.setVm vm₁).calling g' mk (Value.ref b :: As).toArray, t, U', L, E, ce, hT, X', hL, e1, e2, hq, hce, hcv, vx_cls hW₁ hcl, st⟩
theorem vx_runS (S : CallFix p m c cc nL s args Ts own) (hM : vx_Met l y ws rm Pc Qc XC mc ms free) (cw : CallB R s args own index y bytes maxL ret ws rm mc ms n ∧ (Cond.static y).before args s = true) (hp : PreS s H Pc As)
    (hg : g.method = m) (hn : As.length = n) (hsize : g.locals.size = nL) (hstack : g.stack = As.reverse ++ rest) (hW : 2 * g.monitorRoom + (rest.map fun v => v.category).sum ≤ 8) (hdg : decode cc g.pc = .ok (.invokestatic index, 3)) (hf : cells + mc ≤ R.cells ∧ slots + ms ≤ R.slots) :
    vx_Run p l e R s m args below meth c H locs cells slots mc ms g rest (Qc As.toArray) XC free := by
  have hK : vx_Back l R p e below s args y 3 8 (PreOf R mc ms Pc) (PostOf Qc mc ms free) (vx_Post XC mc ms free) := vx_callBack cw.1 hM hp.1
  obtain ⟨⟨-, -, -, -, -, -, hcode, hini, hy, hlen, hl⟩, hstt⟩ := cw
  obtain ⟨hx, hb, hml, ho, -⟩ := S
  intro T hT X
  rcases vx_callS X hx (bytes := bytes) (maxL := maxL) (ret := ret) ho hl hstt hini hcode hy hK hg (hsize.trans hml.symm) (argsL := As) (rest := rest) (fun sig h => hn.trans (hlen sig h)) hstack hW (by rw [hb]; exact hdg)
    (fun vm₁ hW₁ => ⟨hf.1, hf.2, hp.2 (T.setVm vm₁) hT hW₁⟩) with ⟨v, vm₁, ⟨U', l2, c2, s2⟩, hW₁, X', ⟨g', mk, t, L, e1, e2, hq, h1, hL, h2, h3⟩, st⟩ | ⟨q, vm₁, ⟨U', l2, c2, s2⟩, hW₁, X', ⟨g', mk, t, L, E, ce, e1, e2, hq, hce, hcv, hcl, h1, hL, h2, h3⟩, st⟩
  · dsimp only [Pt.U, Pt.locs, Pt.cells, Pt.slots] at X' e1 e2 h1 h2 h3 st
    subst h1; subst h2; subst h3
    exact Or.inl ⟨v, (T.setVm vm₁).calling g' mk As.toArray, t, U', L, hT, X', hL, e1, e2, hq, st⟩
  · dsimp only [Pt.U, Pt.locs, Pt.cells, Pt.slots] at X' e1 e2 h1 h2 h3 st hcl
    subst h1; subst h2; subst h3
    exact Or.inr ⟨q, (T.setVm vm₁).calling g' mk As.toArray, t, U', L, E, ce, hT, X', hL, e1, e2, hq, hce, hcv, vx_cls hW₁ hcl, st⟩
end Runs
section Rows
variable {p : Program} {l : Launch} {e : Env} {R : Room} {s : State} {m : MethodId} {args : Array Value} {below : List Frame} {meth : Method} {c : Code} {H : Heap} {locs : List Loc} {cells slots : Nat} {Q : State → Prop}
variable {mc ms : Nat} {free : Addr → Prop} {A0 A1 : Nat → Prop} {H0 : Heap} {a : Array Value} {pc : Nat} {ls : Array Slot} {st0 rest : List Value}
theorem vx_keep {st₀ t T' : State} {L : List Loc} (h0 : st₀.heap = H) (e1 : T'.heap = t.heap) (hS : va_S A0 H0 H locs) (hA : ∀ q, q < H.size → A1 q → A0 q) (hf : ∀ q, free q → A0 q) (hL : ∀ q ∈ L, free q.base) (hF : va_F A1 st₀ t) :
    H.size ≤ T'.heap.size ∧ (∀ q : Nat, q < H.size → ¬ A1 q → T'.heap[q]? = H[q]?) ∧ va_S A0 H0 T'.heap (locs ++ L) := by
  obtain ⟨hz, hk⟩ := hF
  rw [h0] at hz hk
  exact ⟨by rw [e1]; exact hz, fun q h1 h2 => by rw [e1]; exact hk q h1 h2,
    ⟨Nat.le_trans hS.1 (by rw [e1]; exact hz), fun q h1 h2 => by rw [e1, hk q (Nat.lt_of_lt_of_le h1 hS.1) (fun z => h2 (hA q (Nat.lt_of_lt_of_le h1 hS.1) z))]; exact hS.2.1 q h1 h2, fun q hq => by
      rcases List.mem_append.mp hq with h | h
      · exact hS.2.2 q h
      · exact hf _ (hL q h)⟩⟩
theorem vx_calli {S SX : Type} {post : Int32 → S → Prop} {px : SX → Prop} {B : S → State → Prop} {BX : String → SX → State → Prop} {AX : Nat → Prop} (hr : vx_Run p l e R s m args below meth c H locs cells slots mc ms (F0 m pc ls st0) rest (va_Qi post B A1 a) (vx_X px BX AX) free) (hS : va_S A0 H0 H locs) (hA : ∀ q, q < H.size → A1 q → A0 q) (hf : ∀ q, free q → A0 q) (hAX : ∀ q, q < H.size → AX q → A0 q)
    (kx : ∀ (E : String) (ce : Cell) (q9 : Addr) (u : SX) (t : State) (H1 : Heap) (locs1 : List Loc), t.heap = H1 → s.vm.Alike t.vm → px u → BX E u t → H.size ≤ H1.size → (∀ q : Nat, q < H.size → ¬ AX q → H1[q]? = H[q]?) → va_S A0 H0 H1 locs1 → H1[q9]? = some ce → ce.vm = .none → s.vm.findClass E = some ce.cls → vx_W p l e R s m args below meth c H1 locs1 (cells + mc) (slots + ms) Q (F0 m pc ls rest) q9)
    (kk : ∀ (r : Int32) (u : S) (t : State) (H1 : Heap) (locs1 : List Loc), t.heap = H1 → s.vm.Alike t.vm → post r u → B u t → H.size ≤ H1.size → (∀ q : Nat, q < H.size → ¬ A1 q → H1[q]? = H[q]?) → va_S A0 H0 H1 locs1 → W p l e R s m args below meth c H1 locs1 (cells + mc) (slots + ms) Q (F0 m (pc + 3) ls (.int r :: rest))) : W p l e R s m args below meth c H locs cells slots Q (F0 m pc ls st0) := by
  intro T hT X
  rcases hr T hT X with ⟨v, st₀, t, T', L, h0, X', hL, e1, e2, ⟨⟨r, u, hv, hp, hb⟩, hF⟩, st⟩ | ⟨q, st₀, t, T', L, E, ce, h0, X', hL, e1, e2, ⟨u, hp, hb, hF⟩, hce, hcv, hcl, st⟩
  · cases hv
    obtain ⟨k1, k2, k3⟩ := vx_keep h0 e1 hS hA hf hL hF
    obtain ⟨t2, a1, b1⟩ := kk r u t T'.heap (locs ++ L) e1.symm (by rw [← e2]; exact X'.warmed.alike) hp hb k1 k2 k3 T' rfl X'
    exact ⟨t2, st t2 a1, b1⟩
  · obtain ⟨k1, k2, k3⟩ := vx_keep h0 e1 hS hAX hf hL hF
    obtain ⟨t2, a1, b1⟩ := kx E ce q u t T'.heap (locs ++ L) e1.symm (by rw [← e2]; exact X'.warmed.alike) hp hb k1 k2 k3 (by rw [e1]; exact hce) hcv hcl T' rfl X'
    exact ⟨t2, st.trans a1, b1⟩
theorem vx_calll {S SX : Type} {post : Int64 → S → Prop} {px : SX → Prop} {B : S → State → Prop} {BX : String → SX → State → Prop} {AX : Nat → Prop} (hr : vx_Run p l e R s m args below meth c H locs cells slots mc ms (F0 m pc ls st0) rest (va_Ql post B A1 a) (vx_X px BX AX) free) (hS : va_S A0 H0 H locs) (hA : ∀ q, q < H.size → A1 q → A0 q) (hf : ∀ q, free q → A0 q) (hAX : ∀ q, q < H.size → AX q → A0 q)
    (kx : ∀ (E : String) (ce : Cell) (q9 : Addr) (u : SX) (t : State) (H1 : Heap) (locs1 : List Loc), t.heap = H1 → s.vm.Alike t.vm → px u → BX E u t → H.size ≤ H1.size → (∀ q : Nat, q < H.size → ¬ AX q → H1[q]? = H[q]?) → va_S A0 H0 H1 locs1 → H1[q9]? = some ce → ce.vm = .none → s.vm.findClass E = some ce.cls → vx_W p l e R s m args below meth c H1 locs1 (cells + mc) (slots + ms) Q (F0 m pc ls rest) q9)
    (kk : ∀ (r : Int64) (u : S) (t : State) (H1 : Heap) (locs1 : List Loc), t.heap = H1 → s.vm.Alike t.vm → post r u → B u t → H.size ≤ H1.size → (∀ q : Nat, q < H.size → ¬ A1 q → H1[q]? = H[q]?) → va_S A0 H0 H1 locs1 → W p l e R s m args below meth c H1 locs1 (cells + mc) (slots + ms) Q (F0 m (pc + 3) ls (.long r :: rest))) : W p l e R s m args below meth c H locs cells slots Q (F0 m pc ls st0) := by
  intro T hT X
  rcases hr T hT X with ⟨v, st₀, t, T', L, h0, X', hL, e1, e2, ⟨⟨r, u, hv, hp, hb⟩, hF⟩, st⟩ | ⟨q, st₀, t, T', L, E, ce, h0, X', hL, e1, e2, ⟨u, hp, hb, hF⟩, hce, hcv, hcl, st⟩
  · cases hv
    obtain ⟨k1, k2, k3⟩ := vx_keep h0 e1 hS hA hf hL hF
    obtain ⟨t2, a1, b1⟩ := kk r u t T'.heap (locs ++ L) e1.symm (by rw [← e2]; exact X'.warmed.alike) hp hb k1 k2 k3 T' rfl X'
    exact ⟨t2, st t2 a1, b1⟩
  · obtain ⟨k1, k2, k3⟩ := vx_keep h0 e1 hS hAX hf hL hF
    obtain ⟨t2, a1, b1⟩ := kx E ce q u t T'.heap (locs ++ L) e1.symm (by rw [← e2]; exact X'.warmed.alike) hp hb k1 k2 k3 (by rw [e1]; exact hce) hcv hcl T' rfl X'
    exact ⟨t2, st.trans a1, b1⟩
theorem vx_callf {S SX : Type} {post : UInt32 → S → Prop} {px : SX → Prop} {B : S → State → Prop} {BX : String → SX → State → Prop} {AX : Nat → Prop} (hr : vx_Run p l e R s m args below meth c H locs cells slots mc ms (F0 m pc ls st0) rest (va_Qf post B A1 a) (vx_X px BX AX) free) (hS : va_S A0 H0 H locs) (hA : ∀ q, q < H.size → A1 q → A0 q) (hf : ∀ q, free q → A0 q) (hAX : ∀ q, q < H.size → AX q → A0 q)
    (kx : ∀ (E : String) (ce : Cell) (q9 : Addr) (u : SX) (t : State) (H1 : Heap) (locs1 : List Loc), t.heap = H1 → s.vm.Alike t.vm → px u → BX E u t → H.size ≤ H1.size → (∀ q : Nat, q < H.size → ¬ AX q → H1[q]? = H[q]?) → va_S A0 H0 H1 locs1 → H1[q9]? = some ce → ce.vm = .none → s.vm.findClass E = some ce.cls → vx_W p l e R s m args below meth c H1 locs1 (cells + mc) (slots + ms) Q (F0 m pc ls rest) q9)
    (kk : ∀ (r : UInt32) (u : S) (t : State) (H1 : Heap) (locs1 : List Loc), t.heap = H1 → s.vm.Alike t.vm → post r u → B u t → H.size ≤ H1.size → (∀ q : Nat, q < H.size → ¬ A1 q → H1[q]? = H[q]?) → va_S A0 H0 H1 locs1 → W p l e R s m args below meth c H1 locs1 (cells + mc) (slots + ms) Q (F0 m (pc + 3) ls (.float r :: rest))) : W p l e R s m args below meth c H locs cells slots Q (F0 m pc ls st0) := by
  intro T hT X
  rcases hr T hT X with ⟨v, st₀, t, T', L, h0, X', hL, e1, e2, ⟨⟨r, u, hv, hp, hb⟩, hF⟩, st⟩ | ⟨q, st₀, t, T', L, E, ce, h0, X', hL, e1, e2, ⟨u, hp, hb, hF⟩, hce, hcv, hcl, st⟩
  · cases hv
    obtain ⟨k1, k2, k3⟩ := vx_keep h0 e1 hS hA hf hL hF
    obtain ⟨t2, a1, b1⟩ := kk r u t T'.heap (locs ++ L) e1.symm (by rw [← e2]; exact X'.warmed.alike) hp hb k1 k2 k3 T' rfl X'
    exact ⟨t2, st t2 a1, b1⟩
  · obtain ⟨k1, k2, k3⟩ := vx_keep h0 e1 hS hAX hf hL hF
    obtain ⟨t2, a1, b1⟩ := kx E ce q u t T'.heap (locs ++ L) e1.symm (by rw [← e2]; exact X'.warmed.alike) hp hb k1 k2 k3 (by rw [e1]; exact hce) hcv hcl T' rfl X'
    exact ⟨t2, st.trans a1, b1⟩
theorem vx_calld {S SX : Type} {post : UInt64 → S → Prop} {px : SX → Prop} {B : S → State → Prop} {BX : String → SX → State → Prop} {AX : Nat → Prop} (hr : vx_Run p l e R s m args below meth c H locs cells slots mc ms (F0 m pc ls st0) rest (va_Qd post B A1 a) (vx_X px BX AX) free) (hS : va_S A0 H0 H locs) (hA : ∀ q, q < H.size → A1 q → A0 q) (hf : ∀ q, free q → A0 q) (hAX : ∀ q, q < H.size → AX q → A0 q)
    (kx : ∀ (E : String) (ce : Cell) (q9 : Addr) (u : SX) (t : State) (H1 : Heap) (locs1 : List Loc), t.heap = H1 → s.vm.Alike t.vm → px u → BX E u t → H.size ≤ H1.size → (∀ q : Nat, q < H.size → ¬ AX q → H1[q]? = H[q]?) → va_S A0 H0 H1 locs1 → H1[q9]? = some ce → ce.vm = .none → s.vm.findClass E = some ce.cls → vx_W p l e R s m args below meth c H1 locs1 (cells + mc) (slots + ms) Q (F0 m pc ls rest) q9)
    (kk : ∀ (r : UInt64) (u : S) (t : State) (H1 : Heap) (locs1 : List Loc), t.heap = H1 → s.vm.Alike t.vm → post r u → B u t → H.size ≤ H1.size → (∀ q : Nat, q < H.size → ¬ A1 q → H1[q]? = H[q]?) → va_S A0 H0 H1 locs1 → W p l e R s m args below meth c H1 locs1 (cells + mc) (slots + ms) Q (F0 m (pc + 3) ls (.double r :: rest))) : W p l e R s m args below meth c H locs cells slots Q (F0 m pc ls st0) := by
  intro T hT X
  rcases hr T hT X with ⟨v, st₀, t, T', L, h0, X', hL, e1, e2, ⟨⟨r, u, hv, hp, hb⟩, hF⟩, st⟩ | ⟨q, st₀, t, T', L, E, ce, h0, X', hL, e1, e2, ⟨u, hp, hb, hF⟩, hce, hcv, hcl, st⟩
  · cases hv
    obtain ⟨k1, k2, k3⟩ := vx_keep h0 e1 hS hA hf hL hF
    obtain ⟨t2, a1, b1⟩ := kk r u t T'.heap (locs ++ L) e1.symm (by rw [← e2]; exact X'.warmed.alike) hp hb k1 k2 k3 T' rfl X'
    exact ⟨t2, st t2 a1, b1⟩
  · obtain ⟨k1, k2, k3⟩ := vx_keep h0 e1 hS hAX hf hL hF
    obtain ⟨t2, a1, b1⟩ := kx E ce q u t T'.heap (locs ++ L) e1.symm (by rw [← e2]; exact X'.warmed.alike) hp hb k1 k2 k3 (by rw [e1]; exact hce) hcv hcl T' rfl X'
    exact ⟨t2, st.trans a1, b1⟩
theorem vx_callv {S SX : Type} {post : S → Prop} {px : SX → Prop} {B : S → State → Prop} {BX : String → SX → State → Prop} {AX : Nat → Prop} (hr : vx_Run p l e R s m args below meth c H locs cells slots mc ms (F0 m pc ls st0) rest (va_Qv post B A1 a) (vx_X px BX AX) free) (hS : va_S A0 H0 H locs) (hA : ∀ q, q < H.size → A1 q → A0 q) (hf : ∀ q, free q → A0 q) (hAX : ∀ q, q < H.size → AX q → A0 q)
    (kx : ∀ (E : String) (ce : Cell) (q9 : Addr) (u : SX) (t : State) (H1 : Heap) (locs1 : List Loc), t.heap = H1 → s.vm.Alike t.vm → px u → BX E u t → H.size ≤ H1.size → (∀ q : Nat, q < H.size → ¬ AX q → H1[q]? = H[q]?) → va_S A0 H0 H1 locs1 → H1[q9]? = some ce → ce.vm = .none → s.vm.findClass E = some ce.cls → vx_W p l e R s m args below meth c H1 locs1 (cells + mc) (slots + ms) Q (F0 m pc ls rest) q9)
    (kk : ∀ (u : S) (t : State) (H1 : Heap) (locs1 : List Loc), t.heap = H1 → s.vm.Alike t.vm → post u → B u t → H.size ≤ H1.size → (∀ q : Nat, q < H.size → ¬ A1 q → H1[q]? = H[q]?) → va_S A0 H0 H1 locs1 → W p l e R s m args below meth c H1 locs1 (cells + mc) (slots + ms) Q (F0 m (pc + 3) ls (rest))) : W p l e R s m args below meth c H locs cells slots Q (F0 m pc ls st0) := by
  intro T hT X
  rcases hr T hT X with ⟨v, st₀, t, T', L, h0, X', hL, e1, e2, ⟨⟨u, hv, hp, hb⟩, hF⟩, st⟩ | ⟨q, st₀, t, T', L, E, ce, h0, X', hL, e1, e2, ⟨u, hp, hb, hF⟩, hce, hcv, hcl, st⟩
  · cases hv
    obtain ⟨k1, k2, k3⟩ := vx_keep h0 e1 hS hA hf hL hF
    obtain ⟨t2, a1, b1⟩ := kk u t T'.heap (locs ++ L) e1.symm (by rw [← e2]; exact X'.warmed.alike) hp hb k1 k2 k3 T' rfl X'
    exact ⟨t2, st t2 a1, b1⟩
  · obtain ⟨k1, k2, k3⟩ := vx_keep h0 e1 hS hAX hf hL hF
    obtain ⟨t2, a1, b1⟩ := kx E ce q u t T'.heap (locs ++ L) e1.symm (by rw [← e2]; exact X'.warmed.alike) hp hb k1 k2 k3 (by rw [e1]; exact hce) hcv hcl T' rfl X'
    exact ⟨t2, st.trans a1, b1⟩
/-- caught by the row x of this method's table; the rows ahead don't take it -/
theorem vx_catch {own name : String} {E : String} {ce : Cell} {q : Addr} (hown : s.vm.findClass own = some m.cls) (pre : List ExceptionTableEntry) (x : ExceptionTableEntry) (suf : List ExceptionTableEntry) (hsplit : c.exceptionTable.toList = pre ++ x :: suf)
    (hpass : ∀ z ∈ pre, covers z pc = false ∨ (z.catchType ≠ 0 ∧ ∃ nm : String, (Cond.classLink own z.catchType nm).before args s = true ∧ va_Nc E nm s)) (hx : covers x pc = true) (h0 : x.catchType ≠ 0)
    (hlink : (Cond.classLink own x.catchType name).before args s = true) (hcast : (Cond.castable E name).before args s = true) (hcell : H[q]? = some ce) (hv : ce.vm = .none) (hcl : s.vm.findClass E = some ce.cls)
    (kk : W p l e R s m args below meth c H locs cells slots Q (F0 m x.handlerPc ls [.ref q])) : vx_W p l e R s m args below meth c H locs cells slots Q (F0 m pc ls rest) q := by
  intro T hT X
  have hpl : e.platform.magicAccessors = ({} : Platform).magicAccessors := by rw [X.admits.platform]
  obtain ⟨c3, c4, hc3, hc4, hasg⟩ := Cond.castable_spec hcast
  cases Option.some.inj (hc3.symm.trans hcl)
  obtain ⟨c5, hc5, hcl5⟩ := Cond.classLink_spec hown hlink e.platform hpl
  cases Option.some.inj (hc4.symm.trans hc5)
  obtain ⟨vm', X', st⟩ := X.thenCaughtThrough q (g := F0 m pc ls rest) rfl (Steps.refl _) (by rw [hT]; exact hcell) (by rw [hv]; rfl) (by obtain ⟨k9, h9, -⟩ := Vm.findClass_spec hcl; exact ⟨k9, h9⟩) pre x suf hsplit
    (fun z hz => by
      rcases hpass z hz with h | ⟨hz0, nm, hl1, hn1⟩
      · exact Or.inl h
      · obtain ⟨c6, hc6, hcl6⟩ := Cond.classLink_spec hown hl1 e.platform hpl
        obtain ⟨a8, b8, h1, h2, h3⟩ := hn1
        cases Option.some.inj (h1.symm.trans hcl)
        cases Option.some.inj (h2.symm.trans hc6)
        exact Or.inr ⟨hz0, _, hcl6, h3⟩) hx (Or.inr ⟨h0, c4, hcl5, hasg⟩)
  obtain ⟨t, a1, b1⟩ := kk (T.setVm vm') hT X'
  exact ⟨t, st.trans a1, b1⟩
end Rows
section Ends
variable {p : Program} {l : Launch} {e : Env} {R : Room} {s : State} {m : MethodId} {args : Array Value} {below : List Frame} {meth : Method} {c : Code} {H : Heap} {locs : List Loc} {cells slots : Nat} {Q : State → Prop}
variable {mc ms : Nat} {free : Addr → Prop} {A0 A1 : Nat → Prop} {H0 : Heap} {a : Array Value} {ls : Array Slot} {st0 rest : List Value}
variable {Qc : Array Value → State → Outcome → State → Prop} {XC : String → State → State → Prop}
/-- what a body that may throw owes at its end -/
def vx_MQ (below : List Frame) (Qc : Array Value → State → Outcome → State → Prop) (XC : String → State → State → Prop) (a : Array Value) (s : State) (mc ms : Nat) (free : Addr → Prop) : State → Prop := fun t =>
  ∃ o, t.status = .running ∧ Ended t below o ∧ vx_Q Qc XC mc ms free a s o t
theorem vx_ret {g : JFrame} {mc ms : Nat} (k : W p l e R s m args below meth c H locs cells slots (MQ below Qc args s mc ms free) g) : W p l e R s m args below meth c H locs cells slots (vx_MQ below Qc XC args s mc ms free) g := by
  intro T hT X
  obtain ⟨t, a1, o, b1, b2, b3, b4⟩ := k T hT X
  exact ⟨t, a1, o, b1, b2, Or.inl ⟨b3, b4⟩⟩
/-- not caught here: it goes on to the caller -/
theorem vx_widen {g : JFrame} {q : Addr} {k n : Nat} (h1 : cells ≤ k) (h2 : slots ≤ n) (kk : vx_W p l e R s m args below meth c H locs k n Q g q) : vx_W p l e R s m args below meth c H locs cells slots Q g q := fun T hT X => kk T hT (stand_widen X h1 h2)
theorem vx_out {pc : Nat} {E : String} {ce : Cell} {q : Addr} {mc ms : Nat} (hout : ∀ x ∈ c.exceptionTable.toList, covers x pc = false) (hlocks : meth.locks = false) (hcell : H[q]? = some ce) (hv : ce.vm = .none) (hcl : s.vm.findClass E = some ce.cls)
    (hx : ∀ t : State, t.heap = H → s.vm.Alike t.vm → XC E s t) (hf : ∀ z ∈ locs, free z.base) (hc : cells ≤ mc) (hs : slots ≤ ms) :
    vx_W p l e R s m args below meth c H locs cells slots (vx_MQ below Qc XC args s mc ms free) (F0 m pc ls rest) q := by
  intro T hT X
  obtain ⟨st1, hrun, hend, hW, hsm⟩ := X.leaveThrown q (g := F0 m pc ls rest) rfl rfl rfl hout hlocks
  have hcell9 : (T.setFrames (.throwing q :: below)).heap[q]? = some ce := by
    show T.heap[q]? = some ce
    rw [hT]; exact hcell
  exact ⟨_, st1, .threw q, hrun, hend, Or.inr ⟨q, rfl, E, ce, locs, hx _ hT hW.alike, hcell9, hv, hcl, hW, hsm.mono hc hs, hf⟩⟩
theorem vx_frame {U : State} {k n : Nat} (h : s.sameButNew ({ U with vm := s.vm } : State) locs k n) : s.heap.size ≤ U.heap.size ∧ ∀ q : Nat, q < s.heap.size → (∀ z ∈ locs, z.base ≠ q) → U.heap[q]? = s.heap[q]? := by
  obtain ⟨-, h2, -, -, -, h6⟩ := h
  refine ⟨h2, fun q hq hz => ?_⟩
  obtain ⟨c9, e1, e2, e3, e4⟩ := h6 q _ (Array.getElem?_eq_getElem hq)
  have hs : c9.slots = (s.heap[q]).slots := Array.ext_getElem? fun i => e4 i fun hm => hz _ hm rfl
  have h9 : c9 = s.heap[q] := by
    rw [hs] at e2
    exact e2
  have e5 : U.heap[q]? = some c9 := e1
  rw [e5, h9, Array.getElem?_eq_getElem hq]
/-- the words of a throw but the four that speak of the heap -/
def vx_no (w : Cond) : Bool := decide (w ≠ .isRef (.static Bundle.tN "UNASSIGNED_STACK" Bundle.steD)) && decide (w ≠ .isRef (.static Bundle.tN "SUPPRESSED_SENTINEL" Bundle.listD)) && decide (w ≠ .laysStatic Bundle.tN "UNASSIGNED_STACK" Bundle.steD) && decide (w ≠ .laysStatic Bundle.tN "SUPPRESSED_SENTINEL" Bundle.listD)
def vx_at0 (own : String) (ic : Nat) (X : String) (names : List String) : List Cond := (Bundle.ownAtoms0 own ic X names).filter vx_no
def vx_atS (own : String) (ic : Nat) (X : String) (names : List String) : List Cond := (Bundle.ownAtoms own ic X names).filter vx_no
/-- a word that the tables alone decide, or a good one -/
def vx_ot (w : Cond) : Bool := w.onTables || goodWord w
theorem vx_ot_at {args a' : Array Value} {s U : State} {w : Cond} (hW : s.WarmedH U.vm) (hvm : s.vm = U.vm) (hg : vx_ot w = true) (h : w.before args s = true) : w.before a' U = true := by
  simp only [vx_ot, Bool.or_eq_true] at hg
  rcases hg with hg | hg
  · exact va_tabs hg hvm h
  · exact word_at hW (good_of_word hg) h
/-- a list's words: the good ones out of the method's own list, the others by premises of their own -/
theorem vx_hat {args : Array Value} {s : State} {L B : List Cond} (h1 : ∀ w ∈ L.filter goodWord, w.before args s = true) (h2 : ∀ w ∈ L.filter (fun w => !goodWord w), w ∈ B) (h3 : ∀ w ∈ B, w.before args s = true) : ∀ w ∈ L, w.before args s = true := by
  intro w hw
  by_cases g : goodWord w = true
  · exact h1 w (List.mem_filter.mpr ⟨hw, g⟩)
  · refine h3 w (h2 w (List.mem_filter.mpr ⟨hw, ?_⟩))
    show (!goodWord w) = true
    cases hgw : goodWord w
    · rfl
    · exact absurd hgw g
theorem vx_c {args : Array Value} {s : State} {w : Cond} {B : List Cond} (h : w.before args s = true) (t : ∀ w ∈ B, w.before args s = true) : ∀ w' ∈ w :: B, w'.before args s = true := fun w' h' => (List.mem_cons.mp h').elim (fun e => by rw [e]; exact h) (t w')
theorem vx_n {args : Array Value} {s : State} : ∀ w ∈ ([] : List Cond), w.before args s = true := fun _ h => nomatch h
theorem vx_own {args : Array Value} {s : State} {L : List Cond} (h1 : ∀ w ∈ L.filter vx_no, w.before args s = true)
    (hU : (Cond.isRef (.static Bundle.tN "UNASSIGNED_STACK" Bundle.steD)).before args s = true) (hN : (Cond.isRef (.static Bundle.tN "SUPPRESSED_SENTINEL" Bundle.listD)).before args s = true)
    (lU : (Cond.laysStatic Bundle.tN "UNASSIGNED_STACK" Bundle.steD).before args s = true) (lN : (Cond.laysStatic Bundle.tN "SUPPRESSED_SENTINEL" Bundle.listD).before args s = true) : ∀ w ∈ L, w.before args s = true := by
  intro w hw
  by_cases e1 : w = .isRef (.static Bundle.tN "UNASSIGNED_STACK" Bundle.steD)
  · rw [e1]; exact hU
  · by_cases e2 : w = .isRef (.static Bundle.tN "SUPPRESSED_SENTINEL" Bundle.listD)
    · rw [e2]; exact hN
    · by_cases e3 : w = .laysStatic Bundle.tN "UNASSIGNED_STACK" Bundle.steD
      · rw [e3]; exact lU
      · by_cases e4 : w = .laysStatic Bundle.tN "SUPPRESSED_SENTINEL" Bundle.listD
        · rw [e4]; exact lN
        · exact h1 w (List.mem_filter.mpr ⟨hw, by unfold vx_no; rw [decide_eq_true e1, decide_eq_true e2, decide_eq_true e3, decide_eq_true e4]; rfl⟩)
/-- where a static field lies, its class's statics cell in H -/
def vx_L (C n d : String) (A : Nat → Prop) (U : State) (H : Heap) : Prop := ∃ (c : ClassId) (k : Class) (i : Nat) (f : Field) (a : Nat) (cell : Cell), U.vm.findClass C = some c ∧ U.fieldFound? C n d = some (c, k, i, f) ∧ f.isStatic = true ∧ k.statics = some a ∧ H[a]? = some cell ∧ cell.vm.isStatics = true ∧ cell.cls = c ∧ f.slot < cell.slots.size ∧ k.staticTypes[f.slot]? = some f.type ∧ ¬ A a
theorem vx_L.moved {C n d : String} {A : Nat → Prop} {u U : State} {H : Heap} (hvm : u.vm.Alike U.vm) (h : vx_L C n d A u H) : vx_L C n d A U H := by
  obtain ⟨c, k, i, f, a, cell, h1, h2, h3, h4, h5, h6, h7, h8, h9, h10⟩ := h
  obtain ⟨k', hi', he⟩ := State.fieldFound?_setVm hvm h2
  exact ⟨c, k', i, f, a, cell, by rw [hvm.findClass]; exact h1, hi', h3, by rw [he]; exact h4, h5, h6, h7, h8, by rw [he]; exact h9, h10⟩
theorem vx_L.kept {C n d : String} {A : Nat → Prop} {U : State} {H H1 : Heap} (h : vx_L C n d A U H) (hq : ∀ a : Nat, a < H.size → ¬ A a → H1[a]? = H[a]?) : vx_L C n d A U H1 := by
  obtain ⟨c, k, i, f, a, cell, h1, h2, h3, h4, h5, h6, h7, h8, h9, h10⟩ := h
  exact ⟨c, k, i, f, a, cell, h1, h2, h3, h4, by rw [hq a (Array.getElem?_eq_some_iff.mp h5).1 h10]; exact h5, h6, h7, h8, h9, h10⟩
theorem vx_L.narrow {C n d : String} {A B : Nat → Prop} {U : State} {H : Heap} (h : vx_L C n d A U H) (hAB : ∀ q, B q → A q) : vx_L C n d B U H := by
  obtain ⟨c, k, i, f, a, cell, h1, h2, h3, h4, h5, h6, h7, h8, h9, h10⟩ := h
  exact ⟨c, k, i, f, a, cell, h1, h2, h3, h4, h5, h6, h7, h8, h9, fun z => h10 (hAB _ z)⟩
theorem vx_L.word {C n d : String} {A : Nat → Prop} {s : State} {args : Array Value} (h : vx_L C n d A s s.heap) : (Cond.laysStatic C n d).before args s = true := by
  obtain ⟨c, k, i, f, a, cell, h1, h2, h3, h4, h5, h6, h7, h8, h9, -⟩ := h
  show (Cond.laysStatic C n d).holds args s none s [] = true
  exact Cond.laysStatic_of h1 h2 h3 h4 h5 h6 h7 h8 h9
/-- .. and what it holds: null or some reference -/
def vx_Zq (C n d : String) (A : Nat → Prop) (U : State) (H : Heap) : Prop := va_Zq C n d A U H ∧ vx_L C n d A U H
theorem vx_Zq.moved {C n d : String} {A : Nat → Prop} {u U : State} {H : Heap} (hvm : u.vm.Alike U.vm) (h : vx_Zq C n d A u H) : vx_Zq C n d A U H := ⟨va_Zq.moved hvm h.1, vx_L.moved hvm h.2⟩
theorem vx_Zq.kept {C n d : String} {A : Nat → Prop} {U : State} {H H1 : Heap} (h : vx_Zq C n d A U H) (hq : ∀ a : Nat, a < H.size → ¬ A a → H1[a]? = H[a]?) : vx_Zq C n d A U H1 := ⟨va_Zq.kept h.1 hq, vx_L.kept h.2 hq⟩
theorem vx_Zq.narrow {C n d : String} {A B : Nat → Prop} {U : State} {H : Heap} (h : vx_Zq C n d A U H) (hAB : ∀ q, B q → A q) : vx_Zq C n d B U H := ⟨va_Zq.narrow h.1 hAB, vx_L.narrow h.2 hAB⟩
theorem vx_Zqof {args : Array Value} {s : State} {C n d : String} {A : Nat → Prop} (hl : (Cond.laysStatic C n d).before args s = true) (hini : (Cond.initialized C).before args s = true) (h : (Cond.isRef (.static C n d)).before args s = true) (hA : ∀ a : Nat, a < s.heap.size → ¬ A a) : vx_Zq C n d A s s.heap := by
  refine ⟨va_Zqof hl hini h hA, ?_⟩
  obtain ⟨c, k, i, f, a, cell, h1, h2, h3, h4, h5, h6, h7, h8, h9⟩ := Cond.laysStatic_spec hl
  exact ⟨c, k, i, f, a, cell, h1, h2, h3, h4, h5, h6, h7, h8, h9, hA a (Array.getElem?_eq_some_iff.mp h5).1⟩
theorem vx_isRef {C n d : String} {v : Value} {A : Nat → Prop} {s : State} {args : Array Value} (h : va_Z C n d v A s s.heap) (hv : v.isRef = true) : (Cond.isRef (.static C n d)).before args s = true := by
  obtain ⟨cf, kf, fi, f, a, cell, h1, h2, h3, h4, h5, h6, h7, -⟩ := h
  have he : (Term.static C n d).eval args s none [] s = some v := by
    simp [Term.eval, State.fieldNamed?, h1, h2, h4, h5, h6, h7]
  simp only [Cond.before, Cond.holds, Cond.value, he]
  cases v <;> simp_all [Value.isRef]
theorem vx_isRefq {C n d : String} {A : Nat → Prop} {s : State} {args : Array Value} (h : va_Zq C n d A s s.heap) : (Cond.isRef (.static C n d)).before args s = true := by
  rcases h with h | ⟨t, h⟩
  · exact vx_isRef h rfl
  · exact vx_isRef h rfl
/-- the same frame, seen from here: as if the method were called anew in this heap -/
theorem vx_rebase {T : State} (X : Stand p l e R s m args below meth c T locs cells slots) {R' : Room} (hf : R'.frames ≤ R.frames) (hl : R'.locals ≤ R.locals) (hc : cells + R'.cells ≤ R.cells) (hs : slots + R'.slots ≤ R.slots) :
    Stand p l e R' ((T.setVm s.vm).setFrames (.invoking m args :: below)) m args below meth c T [] 0 0 := by
  have htop : (T.setVm s.vm).topJava?.isSome := X.here.top
  have hF : ((T.setVm s.vm).setFrames (.invoking m args :: below)).frames = .invoking m args :: below := State.frames_setFrames _ (State.cur_lt_of_top htop)
  obtain ⟨g₀, hg0⟩ := Option.isSome_iff_exists.mp htop
  obtain ⟨r, hr⟩ := State.topJava?_eq_some.mp hg0
  have hl9 : e.platform.stackLimits (T.setVm s.vm).me = e.platform.stackLimits s.me := X.limits
  have hb9 : (T.setVm s.vm).me.stackBytes = s.me.stackBytes := X.bytes
  refine ⟨X.admits, X.cas, X.clock, hF, ?_, X.hears, X.method, X.code, X.here, X.tail, X.warmed, ?_, ?_, ?_⟩
  · have h := X.room
    have hU : ((T.setVm s.vm).setFrames (.invoking m args :: below)).localsInUse = s.localsInUse := by
      rw [State.localsInUse_invoking hF (meth := meth) (c := c) X.method X.code, State.localsInUse_invoking X.frames X.method X.code]
    simp only [State.hasRoom, Bool.and_eq_true, decide_eq_true_eq] at h ⊢
    obtain ⟨⟨⟨⟨h1, h2, h3, h4, h5, h6⟩, h7⟩, h8⟩, h9⟩ := h
    rw [X.frames, List.length_cons] at h2 h3
    have q1 := X.heapSize
    have q2 := X.used
    simp only [hF, hU, List.length_cons, State.stackLimits_setFrames, State.stackBytes_setFrames, hl9, hb9]
    refine ⟨⟨⟨⟨by omega, by omega, by omega, by omega, by omega, h6⟩, ?_⟩, ?_⟩, X.book⟩
    · show T.heap.size + R'.cells ≤ e.platform.maxCells
      omega
    · show T.slotsUsed + R'.slots ≤ e.platform.maxSlots
      omega
  · rw [State.stackLimits_setFrames]; rfl
  · rw [State.stackBytes_setFrames]; rfl
  · refine ⟨?_, Nat.le_refl _, Nat.le_refl _, ?_, ?_, fun a c9 h9 => ⟨c9, h9, rfl, rfl, fun _ _ => rfl⟩⟩
    · obtain ⟨t, ht, -⟩ := State.frames_cons hr
      show T.setVm s.vm = { ((T.setVm s.vm).setFrames (.invoking m args :: below)).setFrames (T.setVm s.vm).frames with heap := T.heap, slotsUsed := T.slotsUsed }
      rw [State.setFrames_setFrames, State.setFrames_self ht]
      rfl
    · show T.slotsUsed = T.slotsUsed + ((T.heap.toList.drop T.heap.size).map (·.slots.size)).sum
      rw [List.drop_eq_nil_of_le (Nat.le_of_eq Array.length_toList)]
      rfl
    · show ((T.heap.toList.drop T.heap.size).map (·.slots.size)).sum ≤ 0
      rw [List.drop_eq_nil_of_le (Nat.le_of_eq Array.length_toList)]
      exact Nat.le_refl _
/-- 'throw new E()': new; dup; invokespecial; athrow -/
theorem vx_throw0 {cc : ByteArray} {pc : Nat} (hexec : p.tables.exec = Jvm.exec) (hb : c.code = cc) (hl : l.stackTraces = false) {own cls : String} {names : List String} {ik ic mc ms : Nat} {A : Nat → Prop}
    (hown : s.vm.findClass own = some m.cls) (hcls : Bundle.fit cls = true) (hnames : ∀ n ∈ names, Bundle.fit n = true)
    (hk : (Cond.classLink own ik cls).before args s = true) (hini : (Cond.initialized cls).before args s = true) (hat : ∀ w ∈ vx_at0 own ic cls names, w.before args s = true)
    (hgood : ∀ w ∈ Cond.classLink own ik cls :: Cond.initialized cls :: vx_at0 own ic cls names, vx_ot w = true)
    (hU : vx_Zq Bundle.tN "UNASSIGNED_STACK" Bundle.steD A s s.heap) (hN : vx_Zq Bundle.tN "SUPPRESSED_SENTINEL" Bundle.listD A s s.heap) (hS : va_S A s.heap H locs) (hsize : ls.size = c.maxLocals)
    (d0 : decode cc pc = .ok (.new ik, 3)) (d3 : decode cc (pc + 3) = .ok (.dup, 1)) (d4 : decode cc (pc + 4) = .ok (.invokespecial ic, 3)) (d7 : decode cc (pc + 7) = .ok (.athrow, 1))
    (hout : ∀ x ∈ c.exceptionTable.toList, covers x (pc + 7) = false)
    (hRframes : names.length + 3 < R.frames) (hRlocals : (rest.map fun v => v.category).sum + (13 * (names.length + 1) + 42) ≤ R.locals) (hRcells : cells + 1 ≤ R.cells) (hRslots : slots + 6 ≤ R.slots) (hlocks : meth.locks = false)
    (hx : ∀ t : State, s.vm.Alike t.vm → H.size ≤ t.heap.size → (∀ q : Nat, q < H.size → t.heap[q]? = H[q]?) → XC cls s t)
    (hf : ∀ z ∈ locs, free z.base) (hc : cells + 1 ≤ mc) (hs : slots + 6 ≤ ms) :
    W p l e R s m args below meth c H locs cells slots (vx_MQ below Qc XC args s mc ms free) (F0 m pc ls rest) := by
  intro T hT X
  have htr : e.platform.stackTraces = false := (show e.platform.stackTraces = l.stackTraces by rw [X.admits.platform]).trans hl
  have Y := vx_rebase X (R' := { frames := R.frames, locals := R.locals, cells := 1, slots := 6 }) (Nat.le_refl _) (Nat.le_refl _) hRcells hRslots
  obtain ⟨s', hA⟩ : ∃ z, z = (T.setVm s.vm).setFrames (.invoking m args :: below) := ⟨_, rfl⟩
  rw [← hA] at Y
  have hvm : s'.vm = s.vm := by rw [hA]; rfl
  have hhp : s'.heap = H := by rw [hA]; exact hT
  have hW0 : s.WarmedH s'.vm := by rw [hvm]; exact State.WarmedH.refl s
  have hat' : ∀ w ∈ vx_at0 own ic cls names, w.before args s' = true := fun w hw => vx_ot_at hW0 hvm.symm (hgood w (List.mem_cons_of_mem _ (List.mem_cons_of_mem _ hw))) (hat w hw)
  have hk' : (Cond.classLink own ik cls).before args s' = true := vx_ot_at hW0 hvm.symm (hgood _ List.mem_cons_self) hk
  have hini' : (Cond.initialized cls).before args s' = true := vx_ot_at hW0 hvm.symm (hgood _ (List.mem_cons_of_mem _ List.mem_cons_self)) hini
  have hU' : vx_Zq Bundle.tN "UNASSIGNED_STACK" Bundle.steD A s' s'.heap := by rw [hhp]; exact vx_Zq.moved hW0.alike (hU.kept hS.2.1)
  have hN' : vx_Zq Bundle.tN "SUPPRESSED_SENTINEL" Bundle.listD A s' s'.heap := by rw [hhp]; exact vx_Zq.moved hW0.alike (hN.kept hS.2.1)
  have h : ∀ w ∈ Bundle.ownAtoms0 own ic cls names, w.before args s' = true := vx_own hat' (vx_isRefq hU'.1) (vx_isRefq hN'.1) hU'.2.word hN'.2.word
  have hown' : s'.vm.findClass own = some m.cls := by rw [hvm]; exact hown
  have hins : (Cond.instantiable cls 6).before args s' = true := h _ (by simp [Bundle.ownAtoms0])
  obtain ⟨vm₁, cX, kX, hfX, hkX, -, -, X₁, st1⟩ := Y.newCold hexec (own := own) (C := cls) (index := ik) (n := 6) hown' hk' hins hini'
    (g := F0 m pc ls rest) rfl (by rw [hb]; exact d0) (Nat.le_refl _) (Nat.le_refl _)
  generalize hT1 : (T.setVm vm₁).pushCell { cls := cX, slots := kX.instanceTypes.map defaultValue, vm := .none } = T1 at X₁ st1
  have hcat : (Value.ref T.heap.size).category = 1 := rfl
  have hcellA : T1.heap[T.heap.size]? = some (freshCell cX kX) := by rw [← hT1]; exact State.heap_pushCell_size _ _
  have d3' : decode c.code (pc + 3) = .ok (.dup, 1) := by rw [hb]; exact d3
  obtain ⟨U, hsteps, hrun, hend, hW, hsame, ce, hce, hO⟩ := X₁.ctorThrow0 hexec htr (own := own) (cls := cls) (names := names) (ic := ic) hown' hcls hnames h (fun x hx => nomatch hx) hfX hkX hcellA (by rw [hhp, hT]; exact Nat.le_refl _)
    (g := { method := m, pc := pc + 4, locals := ls, stack := .ref T.heap.size :: .ref T.heap.size :: rest, locked := none }) rfl hsize rfl rfl (rest := rest) rfl
    (by rw [hb]; exact d4) (by rw [hb]; exact d7) hout hRframes (by simp only [List.map_cons, List.sum_cons, hcat]; omega) hlocks
  obtain ⟨f1, f2⟩ := vx_frame hsame
  rw [hhp] at f1 f2
  have hWs : s.WarmedH U.vm := State.WarmedH.trans hW0 hW
  have hcl : s.vm.findClass cls = some ce.cls := by
    have h9 := hO.cls
    rw [hvm] at h9
    exact h9
  have hall : s.sameButNew ({ U with vm := s.vm } : State) locs mc ms := by
    subst hA
    obtain ⟨e1, e2⟩ := hsame
    rw [State.setFrames_setFrames] at e1
    have h2 : (T.setVm s.vm).sameButNew ({ U with vm := s.vm } : State) [] (0 + 1) (0 + 6) := ⟨e1, e2⟩
    have h3 := X.same.trans h2
    rw [List.append_nil] at h3
    exact h3.mono hc hs
  refine ⟨U, ?_, .threw T.heap.size, hrun, hend, Or.inr ⟨T.heap.size, rfl, cls, ce, locs, hx U hWs.alike f1 (fun q hq => f2 q hq (fun z hz => nomatch hz)), hce, hO.vm, hcl, hWs, hall, hf⟩⟩
  refine st1 _ ?_
  show Steps p.tables e below (T1.setTop { method := m, pc := pc + 3, locals := ls, stack := .ref T.heap.size :: rest, locked := none }) _
  jvm_step X₁.here [X₁.here.top, hexec, d3', Value.category]
  exact hsteps
/-- 'throw new E("text")': new; dup; ldc; invokespecial; athrow -/
theorem vx_throwS {cc : ByteArray} {pc : Nat} (hexec : p.tables.exec = Jvm.exec) (hb : c.code = cc) (hl : l.stackTraces = false) {own cls text : String} {names : List String} {ik is ic mc ms sa : Nat} {A : Nat → Prop}
    (hown : s.vm.findClass own = some m.cls) (hcls : Bundle.fit cls = true) (hnames : ∀ n ∈ names, Bundle.fit n = true)
    (hk : (Cond.classLink own ik cls).before args s = true) (hini : (Cond.initialized cls).before args s = true) (hstr : vk_R own is text sa s) (hat : ∀ w ∈ vx_atS own ic cls names, w.before args s = true)
    (hgood : ∀ w ∈ Cond.classLink own ik cls :: Cond.initialized cls :: vx_atS own ic cls names, vx_ot w = true)
    (hU : vx_Zq Bundle.tN "UNASSIGNED_STACK" Bundle.steD A s s.heap) (hN : vx_Zq Bundle.tN "SUPPRESSED_SENTINEL" Bundle.listD A s s.heap) (hS : va_S A s.heap H locs) (hsize : ls.size = c.maxLocals)
    (d0 : decode cc pc = .ok (.new ik, 3)) (d3 : decode cc (pc + 3) = .ok (.dup, 1)) (d4 : decode cc (pc + 4) = .ok (.ldc is, 2)) (d6 : decode cc (pc + 6) = .ok (.invokespecial ic, 3)) (d9 : decode cc (pc + 9) = .ok (.athrow, 1))
    (hout : ∀ x ∈ c.exceptionTable.toList, covers x (pc + 9) = false)
    (hRframes : names.length + 3 < R.frames) (hRlocals : (rest.map fun v => v.category).sum + (13 * (names.length + 1) + 43) ≤ R.locals) (hRcells : cells + 1 ≤ R.cells) (hRslots : slots + 6 ≤ R.slots) (hlocks : meth.locks = false)
    (hx : ∀ t : State, s.vm.Alike t.vm → H.size ≤ t.heap.size → (∀ q : Nat, q < H.size → t.heap[q]? = H[q]?) → XC cls s t)
    (hf : ∀ z ∈ locs, free z.base) (hc : cells + 1 ≤ mc) (hs : slots + 6 ≤ ms) :
    W p l e R s m args below meth c H locs cells slots (vx_MQ below Qc XC args s mc ms free) (F0 m pc ls rest) := by
  intro T hT X
  have htr : e.platform.stackTraces = false := (show e.platform.stackTraces = l.stackTraces by rw [X.admits.platform]).trans hl
  have Y := vx_rebase X (R' := { frames := R.frames, locals := R.locals, cells := 1, slots := 6 }) (Nat.le_refl _) (Nat.le_refl _) hRcells hRslots
  obtain ⟨s', hA⟩ : ∃ z, z = (T.setVm s.vm).setFrames (.invoking m args :: below) := ⟨_, rfl⟩
  rw [← hA] at Y
  have hvm : s'.vm = s.vm := by rw [hA]; rfl
  have hhp : s'.heap = H := by rw [hA]; exact hT
  have hW0 : s.WarmedH s'.vm := by rw [hvm]; exact State.WarmedH.refl s
  have hat' : ∀ w ∈ vx_atS own ic cls names, w.before args s' = true := fun w hw => vx_ot_at hW0 hvm.symm (hgood w (List.mem_cons_of_mem _ (List.mem_cons_of_mem _ hw))) (hat w hw)
  have hk' : (Cond.classLink own ik cls).before args s' = true := vx_ot_at hW0 hvm.symm (hgood _ List.mem_cons_self) hk
  have hini' : (Cond.initialized cls).before args s' = true := vx_ot_at hW0 hvm.symm (hgood _ (List.mem_cons_of_mem _ List.mem_cons_self)) hini
  have hU' : vx_Zq Bundle.tN "UNASSIGNED_STACK" Bundle.steD A s' s'.heap := by rw [hhp]; exact vx_Zq.moved hW0.alike (hU.kept hS.2.1)
  have hN' : vx_Zq Bundle.tN "SUPPRESSED_SENTINEL" Bundle.listD A s' s'.heap := by rw [hhp]; exact vx_Zq.moved hW0.alike (hN.kept hS.2.1)
  have h : ∀ w ∈ Bundle.ownAtoms own ic cls names, w.before args s' = true := vx_own hat' (vx_isRefq hU'.1) (vx_isRefq hN'.1) hU'.2.word hN'.2.word
  have hown' : s'.vm.findClass own = some m.cls := by rw [hvm]; exact hown
  have hins : (Cond.instantiable cls 6).before args s' = true := h _ (by simp [Bundle.ownAtoms])
  obtain ⟨vm₁, cX, kX, hfX, hkX, -, -, X₁, st1⟩ := Y.newCold hexec (own := own) (C := cls) (index := ik) (n := 6) hown' hk' hins hini'
    (g := F0 m pc ls rest) rfl (by rw [hb]; exact d0) (Nat.le_refl _) (Nat.le_refl _)
  generalize hT1 : (T.setVm vm₁).pushCell { cls := cX, slots := kX.instanceTypes.map defaultValue, vm := .none } = T1 at X₁ st1
  have hcat : (Value.ref T.heap.size).category = 1 := rfl
  have hcellA : T1.heap[T.heap.size]? = some (freshCell cX kX) := by rw [← hT1]; exact State.heap_pushCell_size _ _
  have d3' : decode c.code (pc + 3) = .ok (.dup, 1) := by rw [hb]; exact d3
  have d4' : decode c.code (pc + 4) = .ok (.ldc is, 2) := by rw [hb]; exact d4
  have hstr' : vk_R own is text sa s' := vk_R.warm hW0 hstr
  obtain ⟨U, hsteps, hrun, hend, hW, hsame, ce, hce, hO⟩ := X₁.ctorThrowS hexec htr (own := own) (cls := cls) (names := names) (ic := ic) hown' hcls hnames h (fun x hx => nomatch hx) hfX hkX hcellA (by rw [hhp, hT]; exact Nat.le_refl _) (msg := .ref sa) rfl
    (g := { method := m, pc := pc + 6, locals := ls, stack := .ref sa :: .ref T.heap.size :: .ref T.heap.size :: rest, locked := none }) rfl hsize rfl rfl (rest := rest) rfl
    (by rw [hb]; exact d6) (by rw [hb]; exact d9) hout hRframes (by simp only [List.map_cons, List.sum_cons, hcat]; omega) hlocks
  obtain ⟨f1, f2⟩ := vx_frame hsame
  rw [hhp] at f1 f2
  have hWs : s.WarmedH U.vm := State.WarmedH.trans hW0 hW
  have hcl : s.vm.findClass cls = some ce.cls := by
    have h9 := hO.cls
    rw [hvm] at h9
    exact h9
  have hall : s.sameButNew ({ U with vm := s.vm } : State) locs mc ms := by
    subst hA
    obtain ⟨e1, e2⟩ := hsame
    rw [State.setFrames_setFrames] at e1
    have h2 : (T.setVm s.vm).sameButNew ({ U with vm := s.vm } : State) [] (0 + 1) (0 + 6) := ⟨e1, e2⟩
    have h3 := X.same.trans h2
    rw [List.append_nil] at h3
    exact h3.mono hc hs
  refine ⟨U, ?_, .threw T.heap.size, hrun, hend, Or.inr ⟨T.heap.size, rfl, cls, ce, locs, hx U hWs.alike f1 (fun q hq => f2 q hq (fun z hz => nomatch hz)), hce, hO.vm, hcl, hWs, hall, hf⟩⟩
  refine st1 _ ?_
  show Steps p.tables e below (T1.setTop { method := m, pc := pc + 3, locals := ls, stack := .ref T.heap.size :: rest, locked := none }) _
  jvm_step X₁.here [X₁.here.top, hexec, d3', Value.category]
  exact X₁.ldcString hexec (own := own) (text := text) (index := is) (a := sa) hown' hstr'.1 hstr'.2
    (g := { method := m, pc := pc + 4, locals := ls, stack := .ref T.heap.size :: .ref T.heap.size :: rest, locked := none }) rfl d4' _ hsteps
/-- 'throw new E("text")', the text by a wide index -/
theorem vx_throwSW {cc : ByteArray} {pc : Nat} (hexec : p.tables.exec = Jvm.exec) (hb : c.code = cc) (hl : l.stackTraces = false) {own cls text : String} {names : List String} {ik is ic mc ms sa : Nat} {A : Nat → Prop}
    (hown : s.vm.findClass own = some m.cls) (hcls : Bundle.fit cls = true) (hnames : ∀ n ∈ names, Bundle.fit n = true)
    (hk : (Cond.classLink own ik cls).before args s = true) (hini : (Cond.initialized cls).before args s = true) (hstr : vk_R own is text sa s) (hat : ∀ w ∈ vx_atS own ic cls names, w.before args s = true)
    (hgood : ∀ w ∈ Cond.classLink own ik cls :: Cond.initialized cls :: vx_atS own ic cls names, vx_ot w = true)
    (hU : vx_Zq Bundle.tN "UNASSIGNED_STACK" Bundle.steD A s s.heap) (hN : vx_Zq Bundle.tN "SUPPRESSED_SENTINEL" Bundle.listD A s s.heap) (hS : va_S A s.heap H locs) (hsize : ls.size = c.maxLocals)
    (d0 : decode cc pc = .ok (.new ik, 3)) (d3 : decode cc (pc + 3) = .ok (.dup, 1)) (d4 : decode cc (pc + 4) = .ok (.ldc_w is, 3)) (d7 : decode cc (pc + 7) = .ok (.invokespecial ic, 3)) (d10 : decode cc (pc + 10) = .ok (.athrow, 1))
    (hout : ∀ x ∈ c.exceptionTable.toList, covers x (pc + 10) = false)
    (hRframes : names.length + 3 < R.frames) (hRlocals : (rest.map fun v => v.category).sum + (13 * (names.length + 1) + 43) ≤ R.locals) (hRcells : cells + 1 ≤ R.cells) (hRslots : slots + 6 ≤ R.slots) (hlocks : meth.locks = false)
    (hx : ∀ t : State, s.vm.Alike t.vm → H.size ≤ t.heap.size → (∀ q : Nat, q < H.size → t.heap[q]? = H[q]?) → XC cls s t)
    (hf : ∀ z ∈ locs, free z.base) (hc : cells + 1 ≤ mc) (hs : slots + 6 ≤ ms) :
    W p l e R s m args below meth c H locs cells slots (vx_MQ below Qc XC args s mc ms free) (F0 m pc ls rest) := by
  intro T hT X
  have htr : e.platform.stackTraces = false := (show e.platform.stackTraces = l.stackTraces by rw [X.admits.platform]).trans hl
  have Y := vx_rebase X (R' := { frames := R.frames, locals := R.locals, cells := 1, slots := 6 }) (Nat.le_refl _) (Nat.le_refl _) hRcells hRslots
  obtain ⟨s', hA⟩ : ∃ z, z = (T.setVm s.vm).setFrames (.invoking m args :: below) := ⟨_, rfl⟩
  rw [← hA] at Y
  have hvm : s'.vm = s.vm := by rw [hA]; rfl
  have hhp : s'.heap = H := by rw [hA]; exact hT
  have hW0 : s.WarmedH s'.vm := by rw [hvm]; exact State.WarmedH.refl s
  have hat' : ∀ w ∈ vx_atS own ic cls names, w.before args s' = true := fun w hw => vx_ot_at hW0 hvm.symm (hgood w (List.mem_cons_of_mem _ (List.mem_cons_of_mem _ hw))) (hat w hw)
  have hk' : (Cond.classLink own ik cls).before args s' = true := vx_ot_at hW0 hvm.symm (hgood _ List.mem_cons_self) hk
  have hini' : (Cond.initialized cls).before args s' = true := vx_ot_at hW0 hvm.symm (hgood _ (List.mem_cons_of_mem _ List.mem_cons_self)) hini
  have hU' : vx_Zq Bundle.tN "UNASSIGNED_STACK" Bundle.steD A s' s'.heap := by rw [hhp]; exact vx_Zq.moved hW0.alike (hU.kept hS.2.1)
  have hN' : vx_Zq Bundle.tN "SUPPRESSED_SENTINEL" Bundle.listD A s' s'.heap := by rw [hhp]; exact vx_Zq.moved hW0.alike (hN.kept hS.2.1)
  have h : ∀ w ∈ Bundle.ownAtoms own ic cls names, w.before args s' = true := vx_own hat' (vx_isRefq hU'.1) (vx_isRefq hN'.1) hU'.2.word hN'.2.word
  have hown' : s'.vm.findClass own = some m.cls := by rw [hvm]; exact hown
  have hins : (Cond.instantiable cls 6).before args s' = true := h _ (by simp [Bundle.ownAtoms])
  obtain ⟨vm₁, cX, kX, hfX, hkX, -, -, X₁, st1⟩ := Y.newCold hexec (own := own) (C := cls) (index := ik) (n := 6) hown' hk' hins hini'
    (g := F0 m pc ls rest) rfl (by rw [hb]; exact d0) (Nat.le_refl _) (Nat.le_refl _)
  generalize hT1 : (T.setVm vm₁).pushCell { cls := cX, slots := kX.instanceTypes.map defaultValue, vm := .none } = T1 at X₁ st1
  have hcat : (Value.ref T.heap.size).category = 1 := rfl
  have hcellA : T1.heap[T.heap.size]? = some (freshCell cX kX) := by rw [← hT1]; exact State.heap_pushCell_size _ _
  have d3' : decode c.code (pc + 3) = .ok (.dup, 1) := by rw [hb]; exact d3
  have d4' : decode c.code (pc + 4) = .ok (.ldc_w is, 3) := by rw [hb]; exact d4
  have hstr' : vk_R own is text sa s' := vk_R.warm hW0 hstr
  obtain ⟨U, hsteps, hrun, hend, hW, hsame, ce, hce, hO⟩ := X₁.ctorThrowS hexec htr (own := own) (cls := cls) (names := names) (ic := ic) hown' hcls hnames h (fun x hx => nomatch hx) hfX hkX hcellA (by rw [hhp, hT]; exact Nat.le_refl _) (msg := .ref sa) rfl
    (g := { method := m, pc := pc + 7, locals := ls, stack := .ref sa :: .ref T.heap.size :: .ref T.heap.size :: rest, locked := none }) rfl hsize rfl rfl (rest := rest) rfl
    (by rw [hb]; exact d7) (by rw [hb]; exact d10) hout hRframes (by simp only [List.map_cons, List.sum_cons, hcat]; omega) hlocks
  obtain ⟨f1, f2⟩ := vx_frame hsame
  rw [hhp] at f1 f2
  have hWs : s.WarmedH U.vm := State.WarmedH.trans hW0 hW
  have hcl : s.vm.findClass cls = some ce.cls := by
    have h9 := hO.cls
    rw [hvm] at h9
    exact h9
  have hall : s.sameButNew ({ U with vm := s.vm } : State) locs mc ms := by
    subst hA
    obtain ⟨e1, e2⟩ := hsame
    rw [State.setFrames_setFrames] at e1
    have h2 : (T.setVm s.vm).sameButNew ({ U with vm := s.vm } : State) [] (0 + 1) (0 + 6) := ⟨e1, e2⟩
    have h3 := X.same.trans h2
    rw [List.append_nil] at h3
    exact h3.mono hc hs
  refine ⟨U, ?_, .threw T.heap.size, hrun, hend, Or.inr ⟨T.heap.size, rfl, cls, ce, locs, hx U hWs.alike f1 (fun q hq => f2 q hq (fun z hz => nomatch hz)), hce, hO.vm, hcl, hWs, hall, hf⟩⟩
  refine st1 _ ?_
  show Steps p.tables e below (T1.setTop { method := m, pc := pc + 3, locals := ls, stack := .ref T.heap.size :: rest, locked := none }) _
  jvm_step X₁.here [X₁.here.top, hexec, d3', Value.category]
  exact X₁.ldcStringW hexec (own := own) (text := text) (index := is) (a := sa) hown' hstr'.1 hstr'.2
    (g := { method := m, pc := pc + 4, locals := ls, stack := .ref T.heap.size :: .ref T.heap.size :: rest, locked := none }) rfl d4' _ hsteps
end Ends
section Bodies
variable {l : Launch}
theorem vx_ofW {y : MethodName} {ws ws' : List Cond} {rm : Room} {Pc : Array Value → State → Prop} {Qc : Array Value → State → Outcome → State → Prop} {XC : String → State → State → Prop} {mc ms : Nat} {free : Addr → Prop} {cc : ByteArray} {maxL : Nat} {ret : Option FieldType}
    (hy : plainName y.cls = true) (hw : ws = Cond.code y cc maxL ret :: ws')
    (body : ∀ p e s m args below meth c s₁, BodyLoose p l y (headSpec ws rm) cc maxL ret e s m args below meth c s₁ → c.maxLocals = maxL → (∀ x ∈ c.exceptionTable.toList, False) → Pc args s →
      W p l e (headSpec ws rm).room s m args below meth c s.heap [] 0 0 (vx_MQ below Qc XC args s mc ms free) (entryFrame m args maxL)) : vx_Met l y ws rm Pc Qc XC mc ms free := by
  refine MetFree.of_bodyS (code := cc) (maxLocals := maxL) (ret := ret) hy ?_ ?_
  · intro args s m h hn
    obtain ⟨meth, c, h1, h2, h3, h4, h5, h6, -, -⟩ := Cond.code_spec hn (atoms_spec (ws := ws) h _ (by rw [hw]; exact List.mem_cons_self))
    exact ⟨meth, c, h1, h2, h3, h4, h5, h6⟩
  · intro p e s m args below meth c s₁ B hml hP _
    have hh0 : s₁.heap = s.heap := by rw [B.state]; rfl
    have ht : ∀ x ∈ c.exceptionTable.toList, False := by
      obtain ⟨meth9, c9, h1, h2, -, -, -, -, h7, -⟩ := Cond.code_spec B.named (atoms_spec (ws := ws) B.pre _ (by rw [hw]; exact List.mem_cons_self))
      cases Option.some.inj (h1.symm.trans B.method)
      cases Option.some.inj (h2.symm.trans (Stand.of_body B).code)
      intro x hx
      rw [Array.isEmpty_iff.mp h7] at hx
      cases hx
    obtain ⟨t, a1, o, b1, b2, b3⟩ := body p e s m args below meth c s₁ B hml ht hP s₁ hh0 (Stand.of_body B)
    exact ⟨t, o, a1, b1, b2, b3⟩
/-- the table of a body with handlers -/
theorem vx_table {p : Program} {x y : MethodName} {S : Spec} {cc bytes : ByteArray} {maxL maxL' : Nat} {ret ret' : Option FieldType} {e : Env} {s s₁ : State} {m : MethodId} {args : Array Value} {below : List Frame} {meth : Method} {c : Code} {hh : List (Nat × Nat × Nat × Nat)}
    (B : BodyLoose p l y S cc maxL ret e s m args below meth c s₁) (h : (Cond.codeWith y bytes maxL' ret' hh).before args s = true) : c.exceptionTable.toList = tableOf hh := by
  obtain ⟨m9, meth9, c9, hn9, h1, h2, -, -, h6, -⟩ := Cond.codeWith_spec h
  cases Option.some.inj (hn9.symm.trans B.named)
  cases Option.some.inj (h1.symm.trans B.method)
  cases Option.some.inj (h2.symm.trans (Stand.of_body B).code)
  rw [← h6, table_eq]
end Bodies
end VXA
/-! ===== END ===== -/
/-! ===== BEGIN a static call of a method with an exception table ===== -/
section VXS
variable {p : Program} {l : Launch} {e : Env} {R : Room} {s : State} {m : MethodId} {args : Array Value} {below : List Frame} {meth : Method} {c : Code} {T : State} {H : Heap} {locs : List Loc} {cells slots : Nat}
abbrev vx_CSW (R : Room) (s : State) (args : Array Value) (own : String) (index : Nat) (y : MethodName) (bytes : ByteArray) (maxL : Nat) (ret : Option FieldType) (hh : List (Nat × Nat × Nat × Nat)) (ws : List Cond) (rm : Room) (mc ms n : Nat) : Prop :=
  (rm.cells = mc ∧ rm.slots = ms ∧ rm.frames + 1 ≤ R.frames ∧ 8 + (maxL + 11) + rm.locals ≤ R.locals ∧ (∀ w ∈ ws, ∀ (a' : Array Value) (U : State), s.WarmedH U.vm → w.before a' U = true) ∧ Cond.codeWith y bytes maxL ret hh ∈ ws) ∧
  (Cond.codeWith y bytes maxL ret hh).before args s = true ∧ (Cond.initialized y.cls).before args s = true ∧ (y.cls ≠ "java/lang/invoke/MethodHandle" ∧ y.cls ≠ "java/lang/invoke/VarHandle") ∧
  (∀ sig, parseMethodDescriptor y.desc = some sig → n = sig.parameters.length) ∧ (Cond.methodLink own index y).before args s = true ∧ (Cond.static y).before args s = true
theorem vx_cwSW {own : String} {index maxL mc ms : Nat} {y : MethodName} {bytes : ByteArray} {ret : Option FieldType} {hh : List (Nat × Nat × Nat × Nat)} {Ts ws ws' : List Cond} {rm : Room} (n : Nat) (ht : ∀ w ∈ Ts, w.before args s = true) (hT : GoodIn Ts (va_wsS own index y ws)) (hw : ws = Cond.codeWith y bytes maxL ret hh :: ws') (hrc : rm.cells = mc) (hrs : rm.slots = ms)
    (hd : y.cls ≠ "java/lang/invoke/MethodHandle" ∧ y.cls ≠ "java/lang/invoke/VarHandle" ∧ (parseMethodDescriptor y.desc).map (fun d => d.parameters.length) = some n) (hR : rm.frames + 1 ≤ R.frames ∧ 8 + (maxL + 11) + rm.locals ≤ R.locals) :
    vx_CSW R s args own index y bytes maxL ret hh ws rm mc ms n := by
  have ok : ∀ w ∈ va_wsS own index y ws, w.before args s = true := fun w h => ht w (hT w h).1
  have hG : GoodIn Ts ws := fun w h => hT w (by unfold va_wsS; exact List.mem_append_right _ h)
  have hc : Cond.codeWith y bytes maxL ret hh ∈ ws := by rw [hw]; exact List.mem_cons_self
  refine ⟨⟨hrc, hrs, hR.1, hR.2, pay_in ht hG, hc⟩, ht _ (hG _ hc).1, ok _ (by simp [va_wsS]), ⟨hd.1, hd.2.1⟩, fun sig h => ?_, ok _ (by simp [va_wsS]), ok _ (by simp [va_wsS])⟩
  have h2 := hd.2.2
  rw [h] at h2
  exact (Option.some.inj h2).symm
theorem vx_callSW (X : Stand p l e R s m args below meth c T locs cells slots) (hexec : p.tables.exec = Jvm.exec) {own : String} {index : Nat} {y : MethodName} {bytes : ByteArray} {maxL : Nat} {ret : Option FieldType} {hh : List (Nat × Nat × Nat × Nat)}
    (hown : s.vm.findClass own = some m.cls) (hlink : (Cond.methodLink own index y).before args s = true) (hstat : (Cond.static y).before args s = true) (hinit : (Cond.initialized y.cls).before args s = true)
    (hcode : (Cond.codeWith y bytes maxL ret hh).before args s = true) (hy : y.cls ≠ "java/lang/invoke/MethodHandle" ∧ y.cls ≠ "java/lang/invoke/VarHandle")
    {W9 : Nat} {Pre : Pt → Array Value → Prop} {Post : Pt → Array Value → Option Value → Pt → Prop} (hK : Back l R p e below s args y 3 W9 Pre Post)
    {g : JFrame} (hg : g.method = m) (hsize : g.locals.size = c.maxLocals) {argsL rest : List Value} (hlen : ∀ sig, parseMethodDescriptor y.desc = some sig → argsL.length = sig.parameters.length)
    (hstack : g.stack = argsL.reverse ++ rest) (hW : 2 * g.monitorRoom + (rest.map fun v => v.category).sum ≤ W9) (hdg : decode c.code g.pc = .ok (.invokestatic index, 3))
    (hpre : ∀ vm₁, s.WarmedH vm₁ → Pre ⟨T.setVm vm₁, locs, cells, slots⟩ argsL.toArray) :
    ∃ (v : Option Value) (vm₁ : Vm) (B : Pt), s.WarmedH vm₁ ∧ Stand p l e R s m args below meth c B.U B.locs B.cells B.slots ∧ Post ⟨T.setVm vm₁, locs, cells, slots⟩ argsL.toArray v B ∧
      ∀ target, Steps p.tables e below (B.U.setTop { g with pc := g.pc + 3, stack := v.toList ++ rest }) target → Steps p.tables e below (T.setTop g) target := by
  obtain ⟨mk, methM, cM, hnamed, hmethM, -, -, -, -, -, -, hsigM⟩ := Cond.codeWith_spec hcode
  have hstatic : methM.isStatic = true := Cond.static_spec hnamed hmethM hstat
  obtain ⟨kP, hkP, -⟩ := className_of_methodNamed hnamed
  have hinitP : kP.init = .initialized := Cond.initialized_spec (findClass_of_methodNamed hnamed) hkP hinit
  obtain ⟨vm₁, X₁, hstep₁⟩ := X.invokestatic hexec hown hlink hnamed hmethM hstatic hkP hinitP hy (g := g) hg (argsL := argsL) (rest := rest) (hlen _ hsigM) hstack hdg
  obtain ⟨v, B, X', hpost, hsteps⟩ := hK m meth c ⟨T.setVm vm₁, locs, cells, slots⟩ { g with stack := rest } (.invokestatic index) mk argsL.toArray X₁ hg hsize hdg hW (X₁.named hnamed) (hpre vm₁ X₁.warmed)
  exact ⟨v, vm₁, B, X₁.warmed, X', hpost, fun target h => hstep₁ _ fun acts => by rw [doInvoke_state]; exact hsteps.trans h⟩
theorem vx_runSW {y : MethodName} {bytes cc : ByteArray} {maxL nL mc ms n index : Nat} {ret : Option FieldType} {hh : List (Nat × Nat × Nat × Nat)} {ws : List Cond} {rm : Room} {Pc : Array Value → State → Prop} {Qc : Array Value → State → Outcome → State → Prop} {free : Addr → Prop} {Ts : List Cond} {own : String} {As rest : List Value} {g : JFrame}
    (S : CallFix p m c cc nL s args Ts own) (hM : Met l y ws rm Pc Qc mc ms free) (cw : vx_CSW R s args own index y bytes maxL ret hh ws rm mc ms n) (hp : PreS s H Pc As)
    (hg : g.method = m) (hn : As.length = n) (hsize : g.locals.size = nL) (hstack : g.stack = As.reverse ++ rest) (hW : 2 * g.monitorRoom + (rest.map fun v => v.category).sum ≤ 8) (hdg : decode cc g.pc = .ok (.invokestatic index, 3)) (hf : cells + mc ≤ R.cells ∧ slots + ms ≤ R.slots) :
    va_Run p l e R s m args below meth c H locs cells slots mc ms g rest (Qc As.toArray) (free) := by
  obtain ⟨⟨hrc, hrs, hfr, hlo, hws, hcw⟩, hcode, hini, hy, hlen, hl, hstt⟩ := cw
  have hK : Back l R p e below s args y 3 8 (PreOf R mc ms Pc) (PostOf Qc mc ms free) := va_backW (hh := hh) (bytes := bytes) (maxL := maxL) (ret := ret) hM hp.1 hrc hrs hfr hlo hws hcw (fun a' U hW => word_at hW (Or.inl (by first | rfl | simp [Cond.onTables, Cond.keeps, Cond.steady])) hini)
  obtain ⟨hx, hb, hml, ho, -⟩ := S
  intro T hT X
  obtain ⟨v, vm₁, ⟨U', l2, c2, s2⟩, hW₁, X', ⟨g', mk, t, L, e1, e2, hq, h1, hL, h2, h3⟩, st⟩ := vx_callSW X hx (hh := hh) (bytes := bytes) (maxL := maxL) (ret := ret) ho hl hstt hini hcode hy hK hg (hsize.trans hml.symm) (argsL := As) (rest := rest) (fun sig h => hn.trans (hlen sig h)) hstack hW (by rw [hb]; exact hdg)
    (fun vm₁ hW₁ => ⟨hf.1, hf.2, hp.2 (T.setVm vm₁) hT hW₁⟩)
  dsimp only [Pt.U, Pt.locs, Pt.cells, Pt.slots] at X' e1 e2 h1 h2 h3 st
  subst h1; subst h2; subst h3
  exact ⟨v, (T.setVm vm₁).calling g' mk As.toArray, t, U', L, hT, X', hL, e1, e2, hq, st⟩
/-- not caught here, past rows that name other classes: it goes on to the caller -/
theorem vx_outP {p : Program} {l : Launch} {e : Env} {R : Room} {s : State} {m : MethodId} {args : Array Value} {below : List Frame} {meth : Method} {c : Code} {H : Heap} {locs : List Loc} {cells slots : Nat} {free : Addr → Prop} {ls : Array Slot} {rest : List Value} {Qc : Array Value → State → Outcome → State → Prop} {XC : String → State → State → Prop}
    {pc : Nat} {own E : String} {ce : Cell} {q : Addr} {mc ms : Nat} (hown : s.vm.findClass own = some m.cls) (hlocks : meth.locks = false)
    (hpass : ∀ z ∈ c.exceptionTable.toList, covers z pc = false ∨ (z.catchType ≠ 0 ∧ ∃ nm : String, (Cond.classLink own z.catchType nm).before args s = true ∧ va_Nc E nm s)) (hcell : H[q]? = some ce) (hv : ce.vm = .none) (hcl : s.vm.findClass E = some ce.cls)
    (hx : ∀ t : State, t.heap = H → s.vm.Alike t.vm → XC E s t) (hf : ∀ z ∈ locs, free z.base) (hc : cells ≤ mc) (hs : slots ≤ ms) :
    vx_W p l e R s m args below meth c H locs cells slots (vx_MQ below Qc XC args s mc ms free) (F0 m pc ls rest) q := by
  intro T hT X
  have hpl : e.platform.magicAccessors = ({} : Platform).magicAccessors := by rw [X.admits.platform]
  obtain ⟨vm', hW', X', st⟩ := X.outThrough hlocks q (g := F0 m pc ls rest) rfl rfl rfl (cell := ce) (by rw [hT]; exact hcell) (by rw [hv]; rfl)
    (by obtain ⟨k9, h9, -⟩ := Vm.findClass_spec hcl; exact ⟨k9, h9⟩) (fun z hz => by
      rcases hpass z hz with h | ⟨hz0, nm, hl1, hn1⟩
      · exact Or.inl h
      · obtain ⟨c6, hc6, hcl6⟩ := Cond.classLink_spec hown hl1 e.platform hpl
        obtain ⟨a8, b8, h1, h2, h3⟩ := hn1
        cases Option.some.inj (h1.symm.trans hcl)
        cases Option.some.inj (h2.symm.trans hc6)
        exact Or.inr ⟨hz0, _, hcl6, h3⟩)
  obtain ⟨g₀, hfr⟩ := X'.frames_eq
  have hcell9 : ((T.setVm vm').setFrames (.throwing q :: below)).heap[q]? = some ce := by
    show T.heap[q]? = some ce
    rw [hT]; exact hcell
  have hend : Ended ((T.setVm vm').setFrames (.throwing q :: below)) below (.threw q) := State.frames_setFrames _ (State.cur_lt_of_frames hfr)
  refine ⟨(T.setVm vm').setFrames (.throwing q :: below), ?_, .threw q, X'.here.running, hend, Or.inr ⟨q, rfl, E, ce, locs, hx _ hT (X'.ends _).1.alike, hcell9, hv, hcl, (X'.ends _).1, (X'.ends _).2.mono hc hs, hf⟩⟩
  rw [X.pushThrowing_eq]
  exact st
/-- a thing of a world lies in the heap -/
theorem vx_lt {D : va_G} {cl : List vw_C} {ws : va_W} {H1 : Heap} (h : va_P D cl ws H1) {k : Nat} {q : Nat × va_E} (hk : ws[k]? = some q) : q.1 < H1.size := (h k q hk).lt
end VXS
/-! ===== END ===== -/
/-! ===== BEGIN methods with a table of their own: called by a name, returning or throwing ===== -/
section VXH
/-! vx_backW, vx_callVX, vx_callSX, vx_callVW, vx_runVW, vx_runVX, vx_runSX, vx_ofWH follow the same proofs as their sisters above (Free/Laws.lean, Shelf42/LK1.lean); vx_outP calls Shelf42/NT130.lean (outThrough). -/
section
variable {l : Launch} {R : Room} {p : Program} {e : Env} {below : List Frame} {s : State} {sargs : Array Value} {y : MethodName} {len W9 : Nat}
theorem vx_backW {ws : List Cond} {rm : Room} {Pc : Array Value → State → Prop} {Qc : Array Value → State → Outcome → State → Prop} {XC : String → State → State → Prop} {mc ms : Nat} {free : Addr → Prop} {bytes : ByteArray} {maxL : Nat} {ret : Option FieldType} {hh : List (Nat × Nat × Nat × Nat)}
    (hM : vx_Met l y ws rm Pc Qc XC mc ms free) (hblind : FrameBlind Pc) (hrc : rm.cells = mc) (hrs : rm.slots = ms)
    (hframes : rm.frames + 1 ≤ R.frames) (hlocals : W9 + (maxL + 11) + rm.locals ≤ R.locals)
    (hws : ∀ w ∈ ws, ∀ a' U, s.WarmedH U.vm → w.before a' U = true) (hcode : Cond.codeWith y bytes maxL ret hh ∈ ws) (hinit : ∀ a' U, s.WarmedH U.vm → (Cond.initialized y.cls).before a' U = true) :
    vx_Back l R p e below s sargs y len W9 (PreOf R mc ms Pc) (PostOf Qc mc ms free) (vx_Post XC mc ms free) := by
  intro m meth c A g ig mk a X hg hsize hdg hW hn hp
  have h1 : (headSpec ws rm).pre.before a A.U = true := atoms_intro fun w hw => hws w hw _ _ X.warmed
  have h2 : (Cond.codeWith y bytes maxL ret hh).before a A.U = true := hws _ hcode _ _ X.warmed
  have h3 : (Cond.initialized y.cls).before a A.U = true := hinit _ _ X.warmed
  have h4 : A.cells + (headSpec ws rm).room.cells ≤ R.cells := by rw [show (headSpec ws rm).room.cells = mc from hrc]; exact hp.1
  have h5 : A.slots + (headSpec ws rm).room.slots ≤ R.slots := by rw [show (headSpec ws rm).room.slots = ms from hrs]; exact hp.2.1
  have hPc : Pc a (A.U.calling g mk a) := hblind _ _ _ _ hp.2.2
  obtain ⟨U, Ls, c0, s0⟩ := A
  dsimp only [Pt.U, Pt.locs, Pt.cells, Pt.slots] at h1 h2 h3 h4 h5 X hn hPc ⊢
  obtain ⟨m9, methY, cY, hn9, hmY, hcY, -, hlY, -⟩ := Cond.codeWith_spec h2
  cases Option.some.inj (hn9.symm.trans hn)
  obtain ⟨kY, hkY, -⟩ := className_of_methodNamed hn
  have hinitY : kY.init = .initialized := Cond.initialized_spec (findClass_of_methodNamed hn) hkY h3
  have h : At U g.method c below := by rw [hg]; exact X.here
  have hlocals9 : W9 + (maxL + 11) + (headSpec ws rm).room.locals ≤ R.locals := hlocals
  have happ : (headSpec ws rm).appliesLoose y e.platform (U.calling g mk a) = true :=
    Spec.appliesLoose_calling (g := g) h hdg hn hkY hinitY
      (X.room_calling (g := g) (R' := (headSpec ws rm).room) hsize hmY hcY hframes (by rw [hlY]; omega) h4 h5) h1
  obtain ⟨mid, hmid⟩ := h.above
  have hfr : (U.setTop g).frames = (.java g :: mid) ++ below := by rw [State.frames_setTop' g h.top, hmid]; rfl
  obtain ⟨o, s₂, hsteps, -, hend, hq⟩ := Steps.callFree hM p X.admits X.cas X.clock (acts := []) hfr happ hPc trivial
  have hq' : vx_Q Qc XC mc ms free a (U.calling g mk a) o s₂ := hq
  rw [State.frames_setTop' g h.top] at hend
  obtain ⟨g₀, hg0⟩ := Option.isSome_iff_exists.mp h.top
  obtain ⟨r, hr⟩ := State.topJava?_eq_some.mp hg0
  have hr' : (({ U with heap := s₂.heap, slotsUsed := s₂.slotsUsed } : State).setVm s₂.vm).frames = .java g₀ :: r := hr
  rcases hq' with ⟨hqc, L, hfe, hL⟩ | ⟨q, rfl, E, ce, L, hx, hce, hcv, hcl, hW₂, hsm, hL⟩
  · obtain ⟨⟨v, rfl⟩, hW₂, e2, q2, q3, q4, q5, q6⟩ := id hfe
    have e3 : s₂ = ({ (U.calling g mk a).setFrames s₂.frames with heap := s₂.heap, slotsUsed := s₂.slotsUsed } : State).setVm s₂.vm := by
      have : s₂ = ({ s₂ with vm := (U.calling g mk a).vm } : State).setVm s₂.vm := rfl
      rw [e2] at this
      exact this
    obtain ⟨c₂, i₂, len₂, hc₂, hd₂, hf₂⟩ := hend
    have hW' : U.WarmedH s₂.vm := hW₂
    have hcc : c₂ = c := by
      have h1 : s₂.code? g.method = U.code? g.method := by
        rw [State.code?_eq, State.code?_eq, hW'.alike.method?]
      exact Option.some.inj (hc₂.symm.trans (h1.trans h.code))
    subst hcc
    have hlen : len₂ = len := by rw [hdg] at hd₂; cases hd₂; rfl
    subst hlen
    have hs₂ : s₂ = (({ U with heap := s₂.heap, slotsUsed := s₂.slotsUsed } : State).setVm s₂.vm).setTop { g with pc := g.pc + len₂, stack := v.toList ++ g.stack } := by
      refine e3.trans ?_
      rw [hf₂, State.calling_eq h.top, State.setFrames_setFrames, State.setTop_of_frames _ hr', hr]
      rfl
    have hsame : U.sameButNew ({ U with heap := s₂.heap, slotsUsed := s₂.slotsUsed } : State) L mc ms := by
      refine ⟨?_, q2, q3, q4, q5, q6⟩
      obtain ⟨t, ht, -⟩ := State.frames_cons hr
      show ({ U with heap := s₂.heap, slotsUsed := s₂.slotsUsed } : State) = { U.setFrames U.frames with heap := s₂.heap, slotsUsed := s₂.slotsUsed }
      rw [State.setFrames_self ht]
    subst hg
    refine Or.inl ⟨v, ⟨(({ U with heap := s₂.heap, slotsUsed := s₂.slotsUsed } : State).setVm s₂.vm), Ls ++ L, c0 + mc, s0 + ms⟩,
      ⟨X.admits, X.cas, X.clock, X.frames, X.room, X.hears, X.method, X.code, (X.here.setHeapUsed s₂.heap s₂.slotsUsed).setVm hW'.alike, X.tail, State.WarmedH.trans X.warmed hW', X.limits, X.bytes, X.same.trans (hsame.setVm s.vm)⟩,
      ⟨g, mk, s₂, L, rfl, rfl, hqc, rfl, hL, rfl, rfl⟩, ?_⟩
    show Steps p.tables e below _ ((({ U with heap := s₂.heap, slotsUsed := s₂.slotsUsed } : State).setVm s₂.vm).setTop { g with pc := g.pc + len₂, stack := v.toList ++ g.stack })
    rw [← hs₂]
    exact hsteps
  · obtain ⟨e2, q2, q3, q4, q5, q6⟩ := id hsm
    have e3 : s₂ = ({ (U.calling g mk a).setFrames s₂.frames with heap := s₂.heap, slotsUsed := s₂.slotsUsed } : State).setVm s₂.vm := by
      have : s₂ = ({ s₂ with vm := (U.calling g mk a).vm } : State).setVm s₂.vm := rfl
      rw [e2] at this
      exact this
    have hf₂ : s₂.frames = .throwing q :: .java g :: U.frames.tail := hend
    have hW' : U.WarmedH s₂.vm := hW₂
    have hs₂ : s₂ = ((({ U with heap := s₂.heap, slotsUsed := s₂.slotsUsed } : State).setVm s₂.vm).setTop g).pushFrame (.throwing q) := by
      refine e3.trans ?_
      rw [hf₂, State.calling_eq h.top, State.setFrames_setFrames, State.pushFrame, State.frames_setTop _ hr', State.setTop_of_frames _ hr', State.setFrames_setFrames, hr]
      rfl
    have hsame : U.sameButNew ({ U with heap := s₂.heap, slotsUsed := s₂.slotsUsed } : State) L mc ms := by
      refine ⟨?_, q2, q3, q4, q5, q6⟩
      obtain ⟨t, ht, -⟩ := State.frames_cons hr
      show ({ U with heap := s₂.heap, slotsUsed := s₂.slotsUsed } : State) = { U.setFrames U.frames with heap := s₂.heap, slotsUsed := s₂.slotsUsed }
      rw [State.setFrames_self ht]
    subst hg
    refine Or.inr ⟨q, ⟨(({ U with heap := s₂.heap, slotsUsed := s₂.slotsUsed } : State).setVm s₂.vm), Ls ++ L, c0 + mc, s0 + ms⟩,
      ⟨X.admits, X.cas, X.clock, X.frames, X.room, X.hears, X.method, X.code, (X.here.setHeapUsed s₂.heap s₂.slotsUsed).setVm hW'.alike, X.tail, State.WarmedH.trans X.warmed hW', X.limits, X.bytes, X.same.trans (hsame.setVm s.vm)⟩,
      ⟨g, mk, s₂, L, E, ce, rfl, rfl, hx, hce, hcv, hcl, rfl, hL, rfl, rfl⟩, ?_⟩
    show Steps p.tables e below _ (((({ U with heap := s₂.heap, slotsUsed := s₂.slotsUsed } : State).setVm s₂.vm).setTop g).pushFrame (.throwing q))
    rw [← hs₂]
    exact hsteps
end
variable {p : Program} {l : Launch} {e : Env} {R : Room} {s : State} {m : MethodId} {args : Array Value} {below : List Frame} {meth : Method} {c : Code} {T : State} {H : Heap} {locs : List Loc} {cells slots : Nat}
theorem vx_callVX (X : Stand p l e R s m args below meth c T locs cells slots) (hexec : p.tables.exec = Jvm.exec) {own C : String} {index : Nat} {y : MethodName} {bytes : ByteArray} {maxL : Nat} {ret : Option FieldType} {hh : List (Nat × Nat × Nat × Nat)}
    (hown : s.vm.findClass own = some m.cls) (hlink : (Cond.methodLink own index y).before args s = true) (hinst : (Cond.instanceMethod y).before args s = true) (hsel : (Cond.selects C y y).before args s = true)
    (hcode : (Cond.codeWith y bytes maxL ret hh).before args s = true) (hy : y.cls ≠ "java/lang/invoke/MethodHandle" ∧ y.cls ≠ "java/lang/invoke/VarHandle")
    {W9 : Nat} {Pre : Pt → Array Value → Prop} {Post : Pt → Array Value → Option Value → Pt → Prop} {PostX : Pt → Array Value → Addr → Pt → Prop} (hK : vx_Back l R p e below s args y 3 W9 Pre Post PostX)
    {b : Addr} {cellB : Cell} (hcell : T.heap[b]? = some cellB) (hobj : cellB.vm.isStatics = false) (hcls : s.vm.findClass C = some cellB.cls)
    {g : JFrame} (hg : g.method = m) (hsize : g.locals.size = c.maxLocals) {argsL rest : List Value} (hlen : ∀ sig, parseMethodDescriptor y.desc = some sig → argsL.length = sig.parameters.length)
    (hstack : g.stack = argsL.reverse ++ .ref b :: rest) (hW : 2 * g.monitorRoom + (rest.map fun v => v.category).sum ≤ W9) (hdg : decode c.code g.pc = .ok (.invokevirtual index, 3))
    (hpre : ∀ vm₁, s.WarmedH vm₁ → Pre ⟨T.setVm vm₁, locs, cells, slots⟩ (Value.ref b :: argsL).toArray) :
    (∃ (v : Option Value) (vm₁ : Vm) (B : Pt), s.WarmedH vm₁ ∧ Stand p l e R s m args below meth c B.U B.locs B.cells B.slots ∧ Post ⟨T.setVm vm₁, locs, cells, slots⟩ (Value.ref b :: argsL).toArray v B ∧
      ∀ target, Steps p.tables e below (B.U.setTop { g with pc := g.pc + 3, stack := v.toList ++ rest }) target → Steps p.tables e below (T.setTop g) target) ∨
    (∃ (q : Addr) (vm₁ : Vm) (B : Pt), s.WarmedH vm₁ ∧ Stand p l e R s m args below meth c B.U B.locs B.cells B.slots ∧ PostX ⟨T.setVm vm₁, locs, cells, slots⟩ (Value.ref b :: argsL).toArray q B ∧
      Steps p.tables e below (T.setTop g) ((B.U.setTop { g with stack := rest }).pushFrame (.throwing q))) := by
  obtain ⟨mk, methM, hnamed, hmethM, hstM, habM⟩ := Cond.instanceMethod_spec hinst
  obtain ⟨m8, methM', cM, hn8, hmethM', -, -, -, -, -, -, hsigM⟩ := Cond.codeWith_spec hcode
  cases Option.some.inj (hn8.symm.trans hnamed)
  cases hmethM.symm.trans hmethM'
  obtain ⟨c2, r2, m2, q1, q2, q3, q4, kP, hkP, hkPi⟩ := Cond.selects_spec hsel
  cases hcls.symm.trans q1
  cases (State.methodFound?_of_named hnamed hy).symm.trans q2
  cases hnamed.symm.trans q3
  have hselP : selectMethod e.platform s.vm cellB.cls mk = .method mk := by rw [Launch.admits_selectMethod X.admits]; exact q4
  obtain ⟨vm₁, X₁, hstep₁⟩ := X.invokevirtual hexec hown hlink hnamed hmethM hstM hkP hkPi hy (a := b) (cell := cellB) hcell
    (fun z h => by rw [h] at hobj; cases hobj) hselP hmethM habM hkP hkPi (g := g) hg (argsL := argsL) (rest := rest) (hlen _ hsigM) hstack hdg
  rcases hK m meth c ⟨T.setVm vm₁, locs, cells, slots⟩ { g with stack := rest } (.invokevirtual index) mk (Value.ref b :: argsL).toArray X₁ hg hsize hdg hW (X₁.named hnamed) (hpre vm₁ X₁.warmed) with ⟨v, B, X', hpost, hsteps⟩ | ⟨q, B, X', hpost, hsteps⟩
  · exact Or.inl ⟨v, vm₁, B, X₁.warmed, X', hpost, fun target h => hstep₁ _ fun acts => by rw [doInvoke_state]; exact hsteps.trans h⟩
  · exact Or.inr ⟨q, vm₁, B, X₁.warmed, X', hpost, hstep₁ _ fun acts => by rw [doInvoke_state]; exact hsteps⟩
theorem vx_callSX (X : Stand p l e R s m args below meth c T locs cells slots) (hexec : p.tables.exec = Jvm.exec) {own : String} {index : Nat} {y : MethodName} {bytes : ByteArray} {maxL : Nat} {ret : Option FieldType} {hh : List (Nat × Nat × Nat × Nat)}
    (hown : s.vm.findClass own = some m.cls) (hlink : (Cond.methodLink own index y).before args s = true) (hstat : (Cond.static y).before args s = true) (hinit : (Cond.initialized y.cls).before args s = true)
    (hcode : (Cond.codeWith y bytes maxL ret hh).before args s = true) (hy : y.cls ≠ "java/lang/invoke/MethodHandle" ∧ y.cls ≠ "java/lang/invoke/VarHandle")
    {W9 : Nat} {Pre : Pt → Array Value → Prop} {Post : Pt → Array Value → Option Value → Pt → Prop} {PostX : Pt → Array Value → Addr → Pt → Prop} (hK : vx_Back l R p e below s args y 3 W9 Pre Post PostX)
    {g : JFrame} (hg : g.method = m) (hsize : g.locals.size = c.maxLocals) {argsL rest : List Value} (hlen : ∀ sig, parseMethodDescriptor y.desc = some sig → argsL.length = sig.parameters.length)
    (hstack : g.stack = argsL.reverse ++ rest) (hW : 2 * g.monitorRoom + (rest.map fun v => v.category).sum ≤ W9) (hdg : decode c.code g.pc = .ok (.invokestatic index, 3))
    (hpre : ∀ vm₁, s.WarmedH vm₁ → Pre ⟨T.setVm vm₁, locs, cells, slots⟩ argsL.toArray) :
    (∃ (v : Option Value) (vm₁ : Vm) (B : Pt), s.WarmedH vm₁ ∧ Stand p l e R s m args below meth c B.U B.locs B.cells B.slots ∧ Post ⟨T.setVm vm₁, locs, cells, slots⟩ argsL.toArray v B ∧
      ∀ target, Steps p.tables e below (B.U.setTop { g with pc := g.pc + 3, stack := v.toList ++ rest }) target → Steps p.tables e below (T.setTop g) target) ∨
    (∃ (q : Addr) (vm₁ : Vm) (B : Pt), s.WarmedH vm₁ ∧ Stand p l e R s m args below meth c B.U B.locs B.cells B.slots ∧ PostX ⟨T.setVm vm₁, locs, cells, slots⟩ argsL.toArray q B ∧
      Steps p.tables e below (T.setTop g) ((B.U.setTop { g with stack := rest }).pushFrame (.throwing q))) := by
  obtain ⟨mk, methM, cM, hnamed, hmethM, -, -, -, -, -, -, hsigM⟩ := Cond.codeWith_spec hcode
  have hstatic : methM.isStatic = true := Cond.static_spec hnamed hmethM hstat
  obtain ⟨kP, hkP, -⟩ := className_of_methodNamed hnamed
  have hinitP : kP.init = .initialized := Cond.initialized_spec (findClass_of_methodNamed hnamed) hkP hinit
  obtain ⟨vm₁, X₁, hstep₁⟩ := X.invokestatic hexec hown hlink hnamed hmethM hstatic hkP hinitP hy (g := g) hg (argsL := argsL) (rest := rest) (hlen _ hsigM) hstack hdg
  rcases hK m meth c ⟨T.setVm vm₁, locs, cells, slots⟩ { g with stack := rest } (.invokestatic index) mk argsL.toArray X₁ hg hsize hdg hW (X₁.named hnamed) (hpre vm₁ X₁.warmed) with ⟨v, B, X', hpost, hsteps⟩ | ⟨q, B, X', hpost, hsteps⟩
  · exact Or.inl ⟨v, vm₁, B, X₁.warmed, X', hpost, fun target h => hstep₁ _ fun acts => by rw [doInvoke_state]; exact hsteps.trans h⟩
  · exact Or.inr ⟨q, vm₁, B, X₁.warmed, X', hpost, hstep₁ _ fun acts => by rw [doInvoke_state]; exact hsteps⟩
theorem vx_callVW (X : Stand p l e R s m args below meth c T locs cells slots) (hexec : p.tables.exec = Jvm.exec) {own C : String} {index : Nat} {y : MethodName} {bytes : ByteArray} {maxL : Nat} {ret : Option FieldType} {hh : List (Nat × Nat × Nat × Nat)}
    (hown : s.vm.findClass own = some m.cls) (hlink : (Cond.methodLink own index y).before args s = true) (hinst : (Cond.instanceMethod y).before args s = true) (hsel : (Cond.selects C y y).before args s = true)
    (hcode : (Cond.codeWith y bytes maxL ret hh).before args s = true) (hy : y.cls ≠ "java/lang/invoke/MethodHandle" ∧ y.cls ≠ "java/lang/invoke/VarHandle")
    {W9 : Nat} {Pre : Pt → Array Value → Prop} {Post : Pt → Array Value → Option Value → Pt → Prop} (hK : Back l R p e below s args y 3 W9 Pre Post)
    {b : Addr} {cellB : Cell} (hcell : T.heap[b]? = some cellB) (hobj : cellB.vm.isStatics = false) (hcls : s.vm.findClass C = some cellB.cls)
    {g : JFrame} (hg : g.method = m) (hsize : g.locals.size = c.maxLocals) {argsL rest : List Value} (hlen : ∀ sig, parseMethodDescriptor y.desc = some sig → argsL.length = sig.parameters.length)
    (hstack : g.stack = argsL.reverse ++ .ref b :: rest) (hW : 2 * g.monitorRoom + (rest.map fun v => v.category).sum ≤ W9) (hdg : decode c.code g.pc = .ok (.invokevirtual index, 3))
    (hpre : ∀ vm₁, s.WarmedH vm₁ → Pre ⟨T.setVm vm₁, locs, cells, slots⟩ (Value.ref b :: argsL).toArray) :
    ∃ (v : Option Value) (vm₁ : Vm) (B : Pt), s.WarmedH vm₁ ∧ Stand p l e R s m args below meth c B.U B.locs B.cells B.slots ∧ Post ⟨T.setVm vm₁, locs, cells, slots⟩ (Value.ref b :: argsL).toArray v B ∧
      ∀ target, Steps p.tables e below (B.U.setTop { g with pc := g.pc + 3, stack := v.toList ++ rest }) target → Steps p.tables e below (T.setTop g) target := by
  obtain ⟨mk, methM, hnamed, hmethM, hstM, habM⟩ := Cond.instanceMethod_spec hinst
  obtain ⟨m8, methM', cM, hn8, hmethM', -, -, -, -, -, -, hsigM⟩ := Cond.codeWith_spec hcode
  cases Option.some.inj (hn8.symm.trans hnamed)
  cases hmethM.symm.trans hmethM'
  obtain ⟨c2, r2, m2, q1, q2, q3, q4, kP, hkP, hkPi⟩ := Cond.selects_spec hsel
  cases hcls.symm.trans q1
  cases (State.methodFound?_of_named hnamed hy).symm.trans q2
  cases hnamed.symm.trans q3
  have hselP : selectMethod e.platform s.vm cellB.cls mk = .method mk := by rw [Launch.admits_selectMethod X.admits]; exact q4
  obtain ⟨vm₁, X₁, hstep₁⟩ := X.invokevirtual hexec hown hlink hnamed hmethM hstM hkP hkPi hy (a := b) (cell := cellB) hcell
    (fun z h => by rw [h] at hobj; cases hobj) hselP hmethM habM hkP hkPi (g := g) hg (argsL := argsL) (rest := rest) (hlen _ hsigM) hstack hdg
  obtain ⟨v, B, X', hpost, hsteps⟩ := hK m meth c ⟨T.setVm vm₁, locs, cells, slots⟩ { g with stack := rest } (.invokevirtual index) mk (Value.ref b :: argsL).toArray X₁ hg hsize hdg hW (X₁.named hnamed) (hpre vm₁ X₁.warmed)
  exact ⟨v, vm₁, B, X₁.warmed, X', hpost, fun target h => hstep₁ _ fun acts => by rw [doInvoke_state]; exact hsteps.trans h⟩
abbrev vx_CVW (R : Room) (s : State) (args : Array Value) (own C : String) (index : Nat) (y : MethodName) (bytes : ByteArray) (maxL : Nat) (ret : Option FieldType) (hh : List (Nat × Nat × Nat × Nat)) (ws : List Cond) (rm : Room) (mc ms n : Nat) : Prop :=
  (rm.cells = mc ∧ rm.slots = ms ∧ rm.frames + 1 ≤ R.frames ∧ 8 + (maxL + 11) + rm.locals ≤ R.locals ∧ (∀ w ∈ ws, ∀ (a' : Array Value) (U : State), s.WarmedH U.vm → w.before a' U = true) ∧ Cond.codeWith y bytes maxL ret hh ∈ ws) ∧
  (Cond.codeWith y bytes maxL ret hh).before args s = true ∧ (Cond.initialized y.cls).before args s = true ∧ (y.cls ≠ "java/lang/invoke/MethodHandle" ∧ y.cls ≠ "java/lang/invoke/VarHandle") ∧
  (∀ sig, parseMethodDescriptor y.desc = some sig → n = sig.parameters.length) ∧ (Cond.methodLink own index y).before args s = true ∧ (Cond.instanceMethod y).before args s = true ∧ (Cond.selects C y y).before args s = true
theorem vx_cwVW {own C : String} {index maxL mc ms : Nat} {y : MethodName} {bytes : ByteArray} {ret : Option FieldType} {hh : List (Nat × Nat × Nat × Nat)} {Ts ws ws' : List Cond} {rm : Room} (n : Nat) (ht : ∀ w ∈ Ts, w.before args s = true) (hT : GoodIn Ts (wsV own index C y ws)) (hw : ws = Cond.codeWith y bytes maxL ret hh :: ws') (hrc : rm.cells = mc) (hrs : rm.slots = ms)
    (hd : y.cls = C ∧ y.cls ≠ "java/lang/invoke/MethodHandle" ∧ y.cls ≠ "java/lang/invoke/VarHandle" ∧ (parseMethodDescriptor y.desc).map (fun d => d.parameters.length) = some n) (hR : rm.frames + 1 ≤ R.frames ∧ 8 + (maxL + 11) + rm.locals ≤ R.locals) :
    vx_CVW R s args own C index y bytes maxL ret hh ws rm mc ms n := by
  obtain ⟨hC, hd⟩ := hd
  subst hC
  have ok : ∀ w ∈ wsV own index y.cls y ws, w.before args s = true := fun w h => ht w (hT w h).1
  have hG : GoodIn Ts ws := fun w h => hT w (by unfold wsV; exact List.mem_append_right _ h)
  have hc : Cond.codeWith y bytes maxL ret hh ∈ ws := by rw [hw]; exact List.mem_cons_self
  refine ⟨⟨hrc, hrs, hR.1, hR.2, pay_in ht hG, hc⟩, ht _ (hG _ hc).1, ok _ (by simp [wsV]), ⟨hd.1, hd.2.1⟩, fun sig h => ?_, ok _ (by simp [wsV]), ok _ (by simp [wsV]), ok _ (by simp [wsV])⟩
  have h2 := hd.2.2
  rw [h] at h2
  exact (Option.some.inj h2).symm
theorem vx_runVW {y : MethodName} {bytes cc : ByteArray} {maxL nL mc ms n index : Nat} {ret : Option FieldType} {hh : List (Nat × Nat × Nat × Nat)} {ws : List Cond} {rm : Room} {Pc : Array Value → State → Prop} {Qc : Array Value → State → Outcome → State → Prop} {free : Addr → Prop} {Ts : List Cond} {own C : String} {b : Addr} {As rest : List Value} {g : JFrame}
    (S : CallFix p m c cc nL s args Ts own) (hM : Met l y ws rm Pc Qc mc ms free) (cw : vx_CVW R s args own C index y bytes maxL ret hh ws rm mc ms n) (hp : PreV s H C b Pc As)
    (hg : g.method = m) (hn : As.length = n) (hsize : g.locals.size = nL) (hstack : g.stack = As.reverse ++ .ref b :: rest) (hW : 2 * g.monitorRoom + (rest.map fun v => v.category).sum ≤ 8) (hdg : decode cc g.pc = .ok (.invokevirtual index, 3)) (hf : cells + mc ≤ R.cells ∧ slots + ms ≤ R.slots) :
    va_Run p l e R s m args below meth c H locs cells slots mc ms g rest (Qc (Value.ref b :: As).toArray) free := by
  obtain ⟨⟨hrc, hrs, hfr, hlo, hws, hcw⟩, hcode, hini, hy, hlen, hl, hin, hse⟩ := cw
  have hK : Back l R p e below s args y 3 8 (PreOf R mc ms Pc) (PostOf Qc mc ms free) := va_backW (hh := hh) (bytes := bytes) (maxL := maxL) (ret := ret) hM hp.1 hrc hrs hfr hlo hws hcw (fun a' U hW => word_at hW (Or.inl (by first | rfl | simp [Cond.onTables, Cond.keeps, Cond.steady])) hini)
  obtain ⟨hx, hb, hml, ho, -⟩ := S
  obtain ⟨-, ⟨cellB, hcB, hoB, hclB⟩, hPc⟩ := hp
  intro T hT X
  obtain ⟨v, vm₁, ⟨U', l2, c2, s2⟩, hW₁, X', ⟨g', mk, t, L, e1, e2, hq, h1, hL, h2, h3⟩, st⟩ := vx_callVW X hx (C := C) (hh := hh) (bytes := bytes) (maxL := maxL) (ret := ret) ho hl hin hse hcode hy hK (by rw [hT]; exact hcB) hoB hclB hg (hsize.trans hml.symm) (argsL := As) (rest := rest) (fun sig h => hn.trans (hlen sig h)) hstack hW (by rw [hb]; exact hdg)
    (fun vm₁ hW₁ => ⟨hf.1, hf.2, hPc (T.setVm vm₁) hT hW₁⟩)
  dsimp only [Pt.U, Pt.locs, Pt.cells, Pt.slots] at X' e1 e2 h1 h2 h3 st
  subst h1; subst h2; subst h3
  exact ⟨v, (T.setVm vm₁).calling g' mk (Value.ref b :: As).toArray, t, U', L, hT, X', hL, e1, e2, hq, st⟩
section
variable {y : MethodName} {bytes cc : ByteArray} {maxL nL mc ms n index : Nat} {ret : Option FieldType} {ws : List Cond} {rm : Room} {Pc : Array Value → State → Prop} {Qc : Array Value → State → Outcome → State → Prop} {XC : String → State → State → Prop} {free : Addr → Prop} {Ts : List Cond} {own C : String} {b : Addr} {As rest : List Value} {g : JFrame}
theorem vx_runVX {hh : List (Nat × Nat × Nat × Nat)} (S : CallFix p m c cc nL s args Ts own) (hM : vx_Met l y ws rm Pc Qc XC mc ms free) (cw : vx_CVW R s args own C index y bytes maxL ret hh ws rm mc ms n) (hp : PreV s H C b Pc As)
    (hg : g.method = m) (hn : As.length = n) (hsize : g.locals.size = nL) (hstack : g.stack = As.reverse ++ .ref b :: rest) (hW : 2 * g.monitorRoom + (rest.map fun v => v.category).sum ≤ 8) (hdg : decode cc g.pc = .ok (.invokevirtual index, 3)) (hf : cells + mc ≤ R.cells ∧ slots + ms ≤ R.slots) :
    vx_Run p l e R s m args below meth c H locs cells slots mc ms g rest (Qc (Value.ref b :: As).toArray) XC free := by
  obtain ⟨⟨hrc, hrs, hfr, hlo, hws, hcw⟩, hcode, hini, hy, hlen, hl, hin, hse⟩ := cw
  have hK : vx_Back l R p e below s args y 3 8 (PreOf R mc ms Pc) (PostOf Qc mc ms free) (vx_Post XC mc ms free) := vx_backW (hh := hh) (bytes := bytes) (maxL := maxL) (ret := ret) hM hp.1 hrc hrs hfr hlo hws hcw (fun a' U hW => word_at hW (Or.inl (by first | rfl | simp [Cond.onTables, Cond.keeps, Cond.steady])) hini)
  obtain ⟨hx, hb, hml, ho, -⟩ := S
  obtain ⟨-, ⟨cellB, hcB, hoB, hclB⟩, hPc⟩ := hp
  intro T hT X
  rcases vx_callVX X hx (C := C) (hh := hh) (bytes := bytes) (maxL := maxL) (ret := ret) ho hl hin hse hcode hy hK (by rw [hT]; exact hcB) hoB hclB hg (hsize.trans hml.symm) (argsL := As) (rest := rest) (fun sig h => hn.trans (hlen sig h)) hstack hW (by rw [hb]; exact hdg)
    (fun vm₁ hW₁ => ⟨hf.1, hf.2, hPc (T.setVm vm₁) hT hW₁⟩) with ⟨v, vm₁, ⟨U', l2, c2, s2⟩, hW₁, X', ⟨g', mk, t, L, e1, e2, hq, h1, hL, h2, h3⟩, st⟩ | ⟨q, vm₁, ⟨U', l2, c2, s2⟩, hW₁, X', ⟨g', mk, t, L, E, ce, e1, e2, hq, hce, hcv, hcl, h1, hL, h2, h3⟩, st⟩
  · dsimp only [Pt.U, Pt.locs, Pt.cells, Pt.slots] at X' e1 e2 h1 h2 h3 st
    subst h1; subst h2; subst h3
    exact Or.inl ⟨v, (T.setVm vm₁).calling g' mk (Value.ref b :: As).toArray, t, U', L, hT, X', hL, e1, e2, hq, st⟩
  · dsimp only [Pt.U, Pt.locs, Pt.cells, Pt.slots] at X' e1 e2 h1 h2 h3 st hcl
    subst h1; subst h2; subst h3
    exact Or.inr ⟨q, (T.setVm vm₁).calling g' mk (Value.ref b :: As).toArray, t, U', L, E, ce, hT, X', hL, e1, e2, hq, hce, hcv, vx_cls hW₁ hcl, st⟩
theorem vx_runSX {hh : List (Nat × Nat × Nat × Nat)} (S : CallFix p m c cc nL s args Ts own) (hM : vx_Met l y ws rm Pc Qc XC mc ms free) (cw : vx_CSW R s args own index y bytes maxL ret hh ws rm mc ms n) (hp : PreS s H Pc As)
    (hg : g.method = m) (hn : As.length = n) (hsize : g.locals.size = nL) (hstack : g.stack = As.reverse ++ rest) (hW : 2 * g.monitorRoom + (rest.map fun v => v.category).sum ≤ 8) (hdg : decode cc g.pc = .ok (.invokestatic index, 3)) (hf : cells + mc ≤ R.cells ∧ slots + ms ≤ R.slots) :
    vx_Run p l e R s m args below meth c H locs cells slots mc ms g rest (Qc As.toArray) XC free := by
  obtain ⟨⟨hrc, hrs, hfr, hlo, hws, hcw⟩, hcode, hini, hy, hlen, hl, hstt⟩ := cw
  have hK : vx_Back l R p e below s args y 3 8 (PreOf R mc ms Pc) (PostOf Qc mc ms free) (vx_Post XC mc ms free) := vx_backW (hh := hh) (bytes := bytes) (maxL := maxL) (ret := ret) hM hp.1 hrc hrs hfr hlo hws hcw (fun a' U hW => word_at hW (Or.inl (by first | rfl | simp [Cond.onTables, Cond.keeps, Cond.steady])) hini)
  obtain ⟨hx, hb, hml, ho, -⟩ := S
  intro T hT X
  rcases vx_callSX X hx (hh := hh) (bytes := bytes) (maxL := maxL) (ret := ret) ho hl hstt hini hcode hy hK hg (hsize.trans hml.symm) (argsL := As) (rest := rest) (fun sig h => hn.trans (hlen sig h)) hstack hW (by rw [hb]; exact hdg)
    (fun vm₁ hW₁ => ⟨hf.1, hf.2, hp.2 (T.setVm vm₁) hT hW₁⟩) with ⟨v, vm₁, ⟨U', l2, c2, s2⟩, hW₁, X', ⟨g', mk, t, L, e1, e2, hq, h1, hL, h2, h3⟩, st⟩ | ⟨q, vm₁, ⟨U', l2, c2, s2⟩, hW₁, X', ⟨g', mk, t, L, E, ce, e1, e2, hq, hce, hcv, hcl, h1, hL, h2, h3⟩, st⟩
  · dsimp only [Pt.U, Pt.locs, Pt.cells, Pt.slots] at X' e1 e2 h1 h2 h3 st
    subst h1; subst h2; subst h3
    exact Or.inl ⟨v, (T.setVm vm₁).calling g' mk As.toArray, t, U', L, hT, X', hL, e1, e2, hq, st⟩
  · dsimp only [Pt.U, Pt.locs, Pt.cells, Pt.slots] at X' e1 e2 h1 h2 h3 st hcl
    subst h1; subst h2; subst h3
    exact Or.inr ⟨q, (T.setVm vm₁).calling g' mk As.toArray, t, U', L, E, ce, hT, X', hL, e1, e2, hq, hce, hcv, vx_cls hW₁ hcl, st⟩
end
end VXH
theorem vx_ofWH {l : Launch} {y : MethodName} {ws ws' : List Cond} {rm : Room} {Pc : Array Value → State → Prop} {Qc : Array Value → State → Outcome → State → Prop} {XC : String → State → State → Prop} {mc ms : Nat} {free : Addr → Prop} {cc : ByteArray} {maxL : Nat} {ret : Option FieldType} {hh : List (Nat × Nat × Nat × Nat)}
    (hy : plainName y.cls = true) (hw : ws = Cond.codeWith y cc maxL ret hh :: ws')
    (body : ∀ p e s m args below meth c s₁, BodyLoose p l y (headSpec ws rm) cc maxL ret e s m args below meth c s₁ → c.maxLocals = maxL → Pc args s →
      W p l e (headSpec ws rm).room s m args below meth c s.heap [] 0 0 (vx_MQ below Qc XC args s mc ms free) (entryFrame m args maxL)) : vx_Met l y ws rm Pc Qc XC mc ms free := by
  refine MetFree.of_bodyS (code := cc) (maxLocals := maxL) (ret := ret) hy ?_ ?_
  · intro args s m h hn
    obtain ⟨m9, meth, c, hn9, h1, h2, h3, h4, -, h5, h6, -⟩ := Cond.codeWith_spec (atoms_spec (ws := ws) h _ (by rw [hw]; exact List.mem_cons_self))
    cases hn.symm.trans hn9
    exact ⟨meth, c, h1, h2, h3, h4, h5, h6⟩
  · intro p e s m args below meth c s₁ B hml hP _
    have hh0 : s₁.heap = s.heap := by rw [B.state]; rfl
    obtain ⟨t, a1, o, b1, b2, b3⟩ := body p e s m args below meth c s₁ B hml hP s₁ hh0 (Stand.of_body B)
    exact ⟨t, o, a1, b1, b2, b3⟩
/-! ===== END ===== -/
end
section
/-! names, fields (printed by program) -/
def RX0 : String := "CandleRooms$DeedText"
def TX0 : u_T := fun k => match k with
  | 0 => ("CandleRooms$DeedText", "codes", "[C", true)
  | _ => ("CandleRooms$DeedText", "length", "I", false)
def tyX0 : Nat → FieldType := fun k => match k with
  | 0 => .array .char
  | _ => .int
abbrev wsX00 : List Cond := u_ws RX0 TX0 2
theorem nmX0 : ∀ a, a < 2 → ∀ b, b < 2 → a ≠ b → (TX0 a).2.1 ≠ (TX0 b).2.1 := by decide +kernel
theorem tyX0_ok : ∀ k, k < 2 → parseFieldDescriptor (TX0 k).2.2.1 = some (tyX0 k) := by decide +kernel
abbrev cX0_init : ByteArray := prog_2_method_1_code
def yX0_init : MethodName := ⟨RX0, "<init>", "()V"⟩
def RX1 : String := "CandleRooms$Room"
def TX1 : u_T := fun k => match k with
  | 0 => ("CandleRooms$Room", "keys", "[I", true)
  | 1 => ("CandleRooms$Room", "dark", "[I", true)
  | 2 => ("CandleRooms$Room", "things", "I", false)
  | 3 => ("CandleRooms$Room", "length", "I", false)
  | 4 => ("CandleRooms$Room", "burns", "Z", false)
  | 5 => ("CandleRooms$Room", "wick", "I", false)
  | 6 => ("CandleRooms$Room", "hasShield", "Z", false)
  | 7 => ("CandleRooms$Room", "doorIsOpen", "Z", false)
  | _ => ("CandleRooms$Room", "beatsBurnt", "I", false)
def tyX1 : Nat → FieldType := fun k => match k with
  | 0 => .array .int
  | 1 => .array .int
  | 2 => .int
  | 3 => .int
  | 4 => .boolean
  | 5 => .int
  | 6 => .boolean
  | 7 => .boolean
  | _ => .int
abbrev wsX10 : List Cond := u_ws RX1 TX1 9
theorem nmX1 : ∀ a, a < 9 → ∀ b, b < 9 → a ≠ b → (TX1 a).2.1 ≠ (TX1 b).2.1 := by decide +kernel
theorem tyX1_ok : ∀ k, k < 9 → parseFieldDescriptor (TX1 k).2.2.1 = some (tyX1 k) := by decide +kernel
abbrev cX1_init : ByteArray := prog_3_method_1_code
def yX1_init : MethodName := ⟨RX1, "<init>", "()V"⟩
abbrev cX1_copyRoom : ByteArray := prog_3_method_2_code
def yX1_copyRoom : MethodName := ⟨RX1, "copyRoom", "(LCandleRooms$Room;)V"⟩
abbrev cX1_number : ByteArray := prog_3_method_3_code
def yX1_number : MethodName := ⟨RX1, "number", "(I)I"⟩
abbrev cX1_keyAt : ByteArray := prog_3_method_4_code
def yX1_keyAt : MethodName := ⟨RX1, "keyAt", "(I)I"⟩
abbrev cX1_darkAt : ByteArray := prog_3_method_5_code
def yX1_darkAt : MethodName := ⟨RX1, "darkAt", "(I)I"⟩
abbrev cX1_placeOf : ByteArray := prog_3_method_6_code
def yX1_placeOf : MethodName := ⟨RX1, "placeOf", "(I)I"⟩
abbrev cX1_addThing : ByteArray := prog_3_method_7_code
def yX1_addThing : MethodName := ⟨RX1, "addThing", "(I)V"⟩
abbrev cX1_takeNewCandle : ByteArray := prog_3_method_8_code
def yX1_takeNewCandle : MethodName := ⟨RX1, "takeNewCandle", "()V"⟩
abbrev cX1_burntInBeat : ByteArray := prog_3_method_9_code
def yX1_burntInBeat : MethodName := ⟨RX1, "burntInBeat", "(I)I"⟩
abbrev cX1_burnForBeat : ByteArray := prog_3_method_10_code
def yX1_burnForBeat : MethodName := ⟨RX1, "burnForBeat", "()V"⟩
abbrev cX1_beatsUntrimmed : ByteArray := prog_3_method_11_code
def yX1_beatsUntrimmed : MethodName := ⟨RX1, "beatsUntrimmed", "()I"⟩
abbrev cX1_beatsSaved : ByteArray := prog_3_method_12_code
def yX1_beatsSaved : MethodName := ⟨RX1, "beatsSaved", "()I"⟩
abbrev cX1_ageThings : ByteArray := prog_3_method_13_code
def yX1_ageThings : MethodName := ⟨RX1, "ageThings", "(I)I"⟩
abbrev cX1_beatsToFirstForgotten : ByteArray := prog_3_method_14_code
def yX1_beatsToFirstForgotten : MethodName := ⟨RX1, "beatsToFirstForgotten", "(II)I"⟩
def RX2 : String := "CandleRooms$SavedStores"
def TX2 : u_T := fun k => match k with
  | 0 => ("CandleRooms$SavedStores", "rows", "[LCandleRooms$Store;", true)
  | _ => ("CandleRooms$SavedStores", "size", "I", false)
def tyX2 : Nat → FieldType := fun k => match k with
  | 0 => .array (.object "CandleRooms$Store")
  | _ => .int
abbrev wsX20 : List Cond := u_ws RX2 TX2 2
theorem nmX2 : ∀ a, a < 2 → ∀ b, b < 2 → a ≠ b → (TX2 a).2.1 ≠ (TX2 b).2.1 := by decide +kernel
theorem tyX2_ok : ∀ k, k < 2 → parseFieldDescriptor (TX2 k).2.2.1 = some (tyX2 k) := by decide +kernel
abbrev cX2_init : ByteArray := prog_4_method_1_code
def yX2_init : MethodName := ⟨RX2, "<init>", "()V"⟩
abbrev cX2_push : ByteArray := prog_4_method_2_code
def yX2_push : MethodName := ⟨RX2, "push", "(LCandleRooms$Store;)V"⟩
abbrev cX2_dropOldest : ByteArray := prog_4_method_3_code
def yX2_dropOldest : MethodName := ⟨RX2, "dropOldest", "()V"⟩
abbrev cX2_popInto : ByteArray := prog_4_method_4_code
def yX2_popInto : MethodName := ⟨RX2, "popInto", "(LCandleRooms$Store;)I"⟩
def RX3 : String := "CandleRooms$Store"
def TX3 : u_T := fun k => match k with
  | 0 => ("CandleRooms$Store", "rooms", "[LCandleRooms$Room;", true)
  | 1 => ("CandleRooms$Store", "beats", "I", false)
  | 2 => ("CandleRooms$Store", "box", "I", false)
  | 3 => ("CandleRooms$Store", "forgotten", "I", false)
  | 4 => ("CandleRooms$Store", "readings", "I", false)
  | 5 => ("CandleRooms$Store", "darkReadings", "I", false)
  | 6 => ("CandleRooms$Store", "blownOut", "I", false)
  | 7 => ("CandleRooms$Store", "draughtRoom", "I", false)
  | 8 => ("CandleRooms$Store", "draughtStrength", "I", false)
  | _ => ("CandleRooms$Store", "setting", "I", false)
def tyX3 : Nat → FieldType := fun k => match k with
  | 0 => .array (.object "CandleRooms$Room")
  | 1 => .int
  | 2 => .int
  | 3 => .int
  | 4 => .int
  | 5 => .int
  | 6 => .int
  | 7 => .int
  | 8 => .int
  | _ => .int
abbrev wsX30 : List Cond := u_ws RX3 TX3 10
theorem nmX3 : ∀ a, a < 10 → ∀ b, b < 10 → a ≠ b → (TX3 a).2.1 ≠ (TX3 b).2.1 := by decide +kernel
theorem tyX3_ok : ∀ k, k < 10 → parseFieldDescriptor (TX3 k).2.2.1 = some (tyX3 k) := by decide +kernel
abbrev cX3_init : ByteArray := prog_5_method_1_code
def yX3_init : MethodName := ⟨RX3, "<init>", "()V"⟩
abbrev cX3_copyFrom : ByteArray := prog_5_method_2_code
def yX3_copyFrom : MethodName := ⟨RX3, "copyFrom", "(LCandleRooms$Store;)V"⟩
abbrev cX3_roomAt : ByteArray := prog_5_method_3_code
def yX3_roomAt : MethodName := ⟨RX3, "roomAt", "(I)LCandleRooms$Room;"⟩
abbrev cX3_candlesBurning : ByteArray := prog_5_method_4_code
def yX3_candlesBurning : MethodName := ⟨RX3, "candlesBurning", "()I"⟩
abbrev cX3_candlesBurningFrom : ByteArray := prog_5_method_5_code
def yX3_candlesBurningFrom : MethodName := ⟨RX3, "candlesBurningFrom", "(II)I"⟩
abbrev cX3_thingsInAll : ByteArray := prog_5_method_6_code
def yX3_thingsInAll : MethodName := ⟨RX3, "thingsInAll", "()I"⟩
abbrev cX3_roomOf : ByteArray := prog_5_method_7_code
def yX3_roomOf : MethodName := ⟨RX3, "roomOf", "(I)I"⟩
abbrev cX3_thingNumber : ByteArray := prog_5_method_8_code
def yX3_thingNumber : MethodName := ⟨RX3, "thingNumber", "(II)I"⟩
abbrev cX3_canStrike : ByteArray := prog_5_method_9_code
def yX3_canStrike : MethodName := ⟨RX3, "canStrike", "(I)Z"⟩
abbrev cX3_canLight : ByteArray := prog_5_method_10_code
def yX3_canLight : MethodName := ⟨RX3, "canLight", "(II)Z"⟩
abbrev cX3_areJoined : ByteArray := prog_5_method_11_code
def yX3_areJoined : MethodName := ⟨RX3, "areJoined", "(II)Z"⟩
abbrev cX3_kindle : ByteArray := prog_5_method_12_code
def yX3_kindle : MethodName := ⟨RX3, "kindle", "(I)I"⟩
abbrev cX3_hasNewCandle : ByteArray := prog_5_method_15_code
def yX3_hasNewCandle : MethodName := ⟨RX3, "hasNewCandle", "()Z"⟩
abbrev cX3_putNewCandle : ByteArray := prog_5_method_16_code
def yX3_putNewCandle : MethodName := ⟨RX3, "putNewCandle", "(I)I"⟩
abbrev cX3_canKeep : ByteArray := prog_5_method_18_code
def yX3_canKeep : MethodName := ⟨RX3, "canKeep", "(II)Z"⟩
abbrev cX3_putThing : ByteArray := prog_5_method_19_code
def yX3_putThing : MethodName := ⟨RX3, "putThing", "(II)I"⟩
abbrev cX3_beginDraught : ByteArray := prog_5_method_21_code
def yX3_beginDraught : MethodName := ⟨RX3, "beginDraught", "(II)I"⟩
abbrev cX3_roomsBlown : ByteArray := prog_5_method_22_code
def yX3_roomsBlown : MethodName := ⟨RX3, "roomsBlown", "()I"⟩
abbrev cX3_isInDraught : ByteArray := prog_5_method_23_code
def yX3_isInDraught : MethodName := ⟨RX3, "isInDraught", "(I)Z"⟩
abbrev cX3_blow : ByteArray := prog_5_method_24_code
def yX3_blow : MethodName := ⟨RX3, "blow", "()V"⟩
abbrev cX3_passBeats : ByteArray := prog_5_method_25_code
def yX3_passBeats : MethodName := ⟨RX3, "passBeats", "(I)I"⟩
abbrev cX3_passBeat : ByteArray := prog_5_method_26_code
def yX3_passBeat : MethodName := ⟨RX3, "passBeat", "()I"⟩
abbrev cX3_readThing : ByteArray := prog_5_method_27_code
def yX3_readThing : MethodName := ⟨RX3, "readThing", "(I)I"⟩
abbrev cX3_beatsLit : ByteArray := prog_5_method_28_code
def yX3_beatsLit : MethodName := ⟨RX3, "beatsLit", "(I)I"⟩
abbrev cX3_beatsToForgetting : ByteArray := prog_5_method_29_code
def yX3_beatsToForgetting : MethodName := ⟨RX3, "beatsToForgetting", "()I"⟩
abbrev cX3_candlesToLight : ByteArray := prog_5_method_30_code
def yX3_candlesToLight : MethodName := ⟨RX3, "candlesToLight", "(I)I"⟩
abbrev cX3_candlesOnWay : ByteArray := prog_5_method_31_code
def yX3_candlesOnWay : MethodName := ⟨RX3, "candlesOnWay", "(II)I"⟩
abbrev cX3_neediest : ByteArray := prog_5_method_32_code
def yX3_neediest : MethodName := ⟨RX3, "neediest", "()I"⟩
abbrev cX3_isNeedier : ByteArray := prog_5_method_33_code
def yX3_isNeedier : MethodName := ⟨RX3, "isNeedier", "(II)Z"⟩
abbrev cX3_shareInLight : ByteArray := prog_5_method_34_code
def yX3_shareInLight : MethodName := ⟨RX3, "shareInLight", "()D"⟩
def RX4 : String := "CandleRooms"
def TX4 : u_T := fun k => match k with
  | 0 => ("CandleRooms", "store", "LCandleRooms$Store;", true)
  | 1 => ("CandleRooms", "saved", "LCandleRooms$SavedStores;", true)
  | _ => ("CandleRooms", "text", "LCandleRooms$DeedText;", true)
def tyX4 : Nat → FieldType := fun k => match k with
  | 0 => .object "CandleRooms$Store"
  | 1 => .object "CandleRooms$SavedStores"
  | _ => .object "CandleRooms$DeedText"
abbrev wsX40 : List Cond := u_ws RX4 TX4 3
theorem nmX4 : ∀ a, a < 3 → ∀ b, b < 3 → a ≠ b → (TX4 a).2.1 ≠ (TX4 b).2.1 := by decide +kernel
theorem tyX4_ok : ∀ k, k < 3 → parseFieldDescriptor (TX4 k).2.2.1 = some (tyX4 k) := by decide +kernel
abbrev cX4_init : ByteArray := prog_1_method_1_code
def yX4_init : MethodName := ⟨RX4, "<init>", "()V"⟩
abbrev cX4_strike : ByteArray := prog_1_method_2_code
def yX4_strike : MethodName := ⟨RX4, "strike", "(I)I"⟩
abbrev cX4_light : ByteArray := prog_1_method_3_code
def yX4_light : MethodName := ⟨RX4, "light", "(II)I"⟩
abbrev cX4_fresh : ByteArray := prog_1_method_4_code
def yX4_fresh : MethodName := ⟨RX4, "fresh", "(I)I"⟩
abbrev cX4_door : ByteArray := prog_1_method_5_code
def yX4_door : MethodName := ⟨RX4, "door", "(IZ)I"⟩
abbrev cX4_shield : ByteArray := prog_1_method_6_code
def yX4_shield : MethodName := ⟨RX4, "shield", "(IZ)I"⟩
abbrev cX4_draught : ByteArray := prog_1_method_7_code
def yX4_draught : MethodName := ⟨RX4, "draught", "(II)I"⟩
abbrev cX4_set : ByteArray := prog_1_method_8_code
def yX4_set : MethodName := ⟨RX4, "set", "(I)I"⟩
abbrev cX4_keep : ByteArray := prog_1_method_9_code
def yX4_keep : MethodName := ⟨RX4, "keep", "(II)I"⟩
abbrev cX4_read : ByteArray := prog_1_method_10_code
def yX4_read : MethodName := ⟨RX4, "read", "(I)I"⟩
abbrev cX4_pass : ByteArray := prog_1_method_11_code
def yX4_pass : MethodName := ⟨RX4, "pass", "(I)I"⟩
abbrev cX4_undo : ByteArray := prog_1_method_16_code
def yX4_undo : MethodName := ⟨RX4, "undo", "()I"⟩
abbrev cX4_room : ByteArray := prog_1_method_17_code
def yX4_room : MethodName := ⟨RX4, "room", "(II)I"⟩
abbrev cX4_thing : ByteArray := prog_1_method_18_code
def yX4_thing : MethodName := ⟨RX4, "thing", "(II)I"⟩
abbrev cX4_count : ByteArray := prog_1_method_19_code
def yX4_count : MethodName := ⟨RX4, "count", "(I)I"⟩
abbrev cX4_lasts : ByteArray := prog_1_method_20_code
def yX4_lasts : MethodName := ⟨RX4, "lasts", "(I)I"⟩
abbrev cX4_nextForgotten : ByteArray := prog_1_method_21_code
def yX4_nextForgotten : MethodName := ⟨RX4, "nextForgotten", "()I"⟩
abbrev cX4_carried : ByteArray := prog_1_method_22_code
def yX4_carried : MethodName := ⟨RX4, "carried", "(I)I"⟩
abbrev cX4_needy : ByteArray := prog_1_method_23_code
def yX4_needy : MethodName := ⟨RX4, "needy", "()I"⟩
abbrev cX4_saves : ByteArray := prog_1_method_24_code
def yX4_saves : MethodName := ⟨RX4, "saves", "(I)I"⟩
abbrev cX4_lit : ByteArray := prog_1_method_25_code
def yX4_lit : MethodName := ⟨RX4, "lit", "()D"⟩
abbrev cX4_requireRoom : ByteArray := prog_1_method_27_code
def yX4_requireRoom : MethodName := ⟨RX4, "requireRoom", "(I)V"⟩
abbrev cX4_requireKey : ByteArray := prog_1_method_28_code
def yX4_requireKey : MethodName := ⟨RX4, "requireKey", "(I)V"⟩
abbrev cX4_requireNumber : ByteArray := prog_1_method_29_code
def yX4_requireNumber : MethodName := ⟨RX4, "requireNumber", "(II)V"⟩
abbrev cX4_isRoom : ByteArray := prog_1_method_30_code
def yX4_isRoom : MethodName := ⟨RX4, "isRoom", "(I)Z"⟩
abbrev cX4_asNumber : ByteArray := prog_1_method_31_code
def yX4_asNumber : MethodName := ⟨RX4, "asNumber", "(Z)I"⟩
abbrev cX4_countNumber : ByteArray := prog_1_method_32_code
def yX4_countNumber : MethodName := ⟨RX4, "countNumber", "(I)I"⟩
def RX5 : String := "CandleRoomsModel"
def TX5 : u_T := fun k => match k with
  | _ => ("", "", "", false)
def tyX5 : Nat → FieldType := fun k => match k with
  | _ => .int
abbrev wsX50 : List Cond := u_ws RX5 TX5 0
theorem nmX5 : ∀ a, a < 0 → ∀ b, b < 0 → a ≠ b → (TX5 a).2.1 ≠ (TX5 b).2.1 := by decide +kernel
theorem tyX5_ok : ∀ k, k < 0 → parseFieldDescriptor (TX5 k).2.2.1 = some (tyX5 k) := by decide +kernel
def RJ9 : String := "java/lang/Math"
def TJ9 : u_T := fun k => match k with
  | _ => ("", "", "", false)
def tyJ9 : Nat → FieldType := fun k => match k with
  | _ => .int
theorem nmJ9 : ∀ a, a < 0 → ∀ b, b < 0 → a ≠ b → (TJ9 a).2.1 ≠ (TJ9 b).2.1 := by decide +kernel
theorem tyJ9_ok : ∀ k, k < 0 → parseFieldDescriptor (TJ9 k).2.2.1 = some (tyJ9 k) := by decide +kernel
abbrev cJ9_floorMod_7cf53 : ByteArray := prog_12_method_50_code
def yJ9_floorMod_7cf53 : MethodName := ⟨RJ9, "floorMod", "(II)I"⟩
abbrev cJ9_max_7cf53 : ByteArray := prog_12_method_65_code
def yJ9_max_7cf53 : MethodName := ⟨RJ9, "max", "(II)I"⟩
abbrev cJ9_min_7cf53 : ByteArray := prog_12_method_69_code
def yJ9_min_7cf53 : MethodName := ⟨RJ9, "min", "(II)I"⟩
def RJ0 : String := "java/lang/String"
def TJ0 : u_T := fun k => match k with
  | _ => ("", "", "", false)
def tyJ0 : Nat → FieldType := fun k => match k with
  | _ => .int
theorem nmJ0 : ∀ a, a < 0 → ∀ b, b < 0 → a ≠ b → (TJ0 a).2.1 ≠ (TJ0 b).2.1 := by decide +kernel
theorem tyJ0_ok : ∀ k, k < 0 → parseFieldDescriptor (TJ0 k).2.2.1 = some (tyJ0 k) := by decide +kernel
def RJ10 : String := "java/lang/System"
def TJ10 : u_T := fun k => match k with
  | _ => ("", "", "", false)
def tyJ10 : Nat → FieldType := fun k => match k with
  | _ => .int
theorem nmJ10 : ∀ a, a < 0 → ∀ b, b < 0 → a ≠ b → (TJ10 a).2.1 ≠ (TJ10 b).2.1 := by decide +kernel
theorem tyJ10_ok : ∀ k, k < 0 → parseFieldDescriptor (TJ10 k).2.2.1 = some (tyJ10 k) := by decide +kernel
def RL : String := "CandleRoomsLaw"
abbrev cL_low : ByteArray := method_2_code
def yL_low : MethodName := ⟨RL, "low", "(II)I"⟩
abbrev cL_cell : ByteArray := method_3_code
def yL_cell : MethodName := ⟨RL, "cell", "([II)I"⟩
abbrev cL_strike : ByteArray := method_4_code
def yL_strike : MethodName := ⟨RL, "strike", "(LCandleRooms;I)I"⟩
abbrev cL_light : ByteArray := method_5_code
def yL_light : MethodName := ⟨RL, "light", "(LCandleRooms;II)I"⟩
abbrev cL_fresh : ByteArray := method_6_code
def yL_fresh : MethodName := ⟨RL, "fresh", "(LCandleRooms;I)I"⟩
abbrev cL_keep : ByteArray := method_7_code
def yL_keep : MethodName := ⟨RL, "keep", "(LCandleRooms;II)I"⟩
abbrev cL_undo : ByteArray := method_8_code
def yL_undo : MethodName := ⟨RL, "undo", "(LCandleRooms;)I"⟩
abbrev cL_house : ByteArray := method_9_code
def yL_house : MethodName := ⟨RL, "house", "(LCandleRooms;)Z"⟩
abbrev cL_act : ByteArray := method_10_code
def yL_act : MethodName := ⟨RL, "act", "(LCandleRooms;[II)I"⟩
abbrev cL_law : ByteArray := code
def yL_law : MethodName := ⟨RL, "law", "([I)Z"⟩
abbrev vwCl : List vw_C := [(RX0, TX0, 2), (RX1, TX1, 9), (RX2, TX2, 2), (RX3, TX3, 10), (RX4, TX4, 3)]
/-- the words that hold anywhere -/
def WS : List Cond := lw_tbl.filter goodWord
theorem gws {w : Cond} (i : Nat) (h : lw_tbl[i]? = some w) (g : goodWord w = true) : w ∈ WS := List.mem_filter.mpr ⟨List.mem_of_getElem? h, g⟩
theorem WS_good : GoodIn WS WS := fun w h => ⟨h, good_of_word (List.mem_filter.mp h).2⟩
theorem WS_tbl {w : Cond} (h : w ∈ WS) : w ∈ lw_tbl := (List.mem_filter.mp h).1
end
section
/-! decode rows (printed by program) -/
theorem dL_low_0 : decode cL_low 0 = .ok (.iload_n 0, 1) := by decide +kernel
theorem dL_low_1 : decode cL_low 1 = .ok (.ldc 7, 2) := by decide +kernel
theorem dL_low_3 : decode cL_low 3 = .ok (.iand, 1) := by decide +kernel
theorem dL_low_4 : decode cL_low 4 = .ok (.iload_n 1, 1) := by decide +kernel
theorem dL_low_5 : decode cL_low 5 = .ok (.irem, 1) := by decide +kernel
theorem dL_low_6 : decode cL_low 6 = .ok (.ireturn, 1) := by decide +kernel
theorem dL_cell_0 : decode cL_cell 0 = .ok (.iload_n 1, 1) := by decide +kernel
theorem dL_cell_1 : decode cL_cell 1 = .ok (.aload_n 0, 1) := by decide +kernel
theorem dL_cell_2 : decode cL_cell 2 = .ok (.arraylength, 1) := by decide +kernel
theorem dL_cell_3 : decode cL_cell 3 = .ok (.if_icmp .ge 9, 3) := by decide +kernel
theorem dL_cell_6 : decode cL_cell 6 = .ok (.aload_n 0, 1) := by decide +kernel
theorem dL_cell_7 : decode cL_cell 7 = .ok (.iload_n 1, 1) := by decide +kernel
theorem dL_cell_8 : decode cL_cell 8 = .ok (.iaload, 1) := by decide +kernel
theorem dL_cell_9 : decode cL_cell 9 = .ok (.goto 11, 3) := by decide +kernel
theorem dL_cell_12 : decode cL_cell 12 = .ok (.ldc 8, 2) := by decide +kernel
theorem dL_cell_14 : decode cL_cell 14 = .ok (.iload_n 1, 1) := by decide +kernel
theorem dL_cell_15 : decode cL_cell 15 = .ok (.imul, 1) := by decide +kernel
theorem dL_cell_16 : decode cL_cell 16 = .ok (.sipush 977, 3) := by decide +kernel
theorem dL_cell_19 : decode cL_cell 19 = .ok (.iadd, 1) := by decide +kernel
theorem dL_cell_20 : decode cL_cell 20 = .ok (.ireturn, 1) := by decide +kernel
theorem dL_strike_0 : decode cL_strike 0 = .ok (.aload_n 0, 1) := by decide +kernel
theorem dL_strike_1 : decode cL_strike 1 = .ok (.iload_n 1, 1) := by decide +kernel
theorem dL_strike_2 : decode cL_strike 2 = .ok (.invokevirtual 9, 3) := by decide +kernel
theorem dL_strike_5 : decode cL_strike 5 = .ok (.ireturn, 1) := by decide +kernel
theorem dL_strike_6 : decode cL_strike 6 = .ok (.astore_n 2, 1) := by decide +kernel
theorem dL_strike_7 : decode cL_strike 7 = .ok (.bipush (-3), 2) := by decide +kernel
theorem dL_strike_9 : decode cL_strike 9 = .ok (.ireturn, 1) := by decide +kernel
theorem dL_light_0 : decode cL_light 0 = .ok (.aload_n 0, 1) := by decide +kernel
theorem dL_light_1 : decode cL_light 1 = .ok (.iload_n 1, 1) := by decide +kernel
theorem dL_light_2 : decode cL_light 2 = .ok (.iload_n 2, 1) := by decide +kernel
theorem dL_light_3 : decode cL_light 3 = .ok (.invokevirtual 17, 3) := by decide +kernel
theorem dL_light_6 : decode cL_light 6 = .ok (.ireturn, 1) := by decide +kernel
theorem dL_light_7 : decode cL_light 7 = .ok (.astore_n 3, 1) := by decide +kernel
theorem dL_light_8 : decode cL_light 8 = .ok (.bipush (-3), 2) := by decide +kernel
theorem dL_light_10 : decode cL_light 10 = .ok (.ireturn, 1) := by decide +kernel
theorem dL_fresh_0 : decode cL_fresh 0 = .ok (.aload_n 0, 1) := by decide +kernel
theorem dL_fresh_1 : decode cL_fresh 1 = .ok (.iload_n 1, 1) := by decide +kernel
theorem dL_fresh_2 : decode cL_fresh 2 = .ok (.invokevirtual 21, 3) := by decide +kernel
theorem dL_fresh_5 : decode cL_fresh 5 = .ok (.ireturn, 1) := by decide +kernel
theorem dL_fresh_6 : decode cL_fresh 6 = .ok (.astore_n 2, 1) := by decide +kernel
theorem dL_fresh_7 : decode cL_fresh 7 = .ok (.bipush (-3), 2) := by decide +kernel
theorem dL_fresh_9 : decode cL_fresh 9 = .ok (.ireturn, 1) := by decide +kernel
theorem dL_keep_0 : decode cL_keep 0 = .ok (.aload_n 0, 1) := by decide +kernel
theorem dL_keep_1 : decode cL_keep 1 = .ok (.iload_n 1, 1) := by decide +kernel
theorem dL_keep_2 : decode cL_keep 2 = .ok (.iload_n 2, 1) := by decide +kernel
theorem dL_keep_3 : decode cL_keep 3 = .ok (.invokevirtual 24, 3) := by decide +kernel
theorem dL_keep_6 : decode cL_keep 6 = .ok (.ireturn, 1) := by decide +kernel
theorem dL_keep_7 : decode cL_keep 7 = .ok (.astore_n 3, 1) := by decide +kernel
theorem dL_keep_8 : decode cL_keep 8 = .ok (.bipush (-3), 2) := by decide +kernel
theorem dL_keep_10 : decode cL_keep 10 = .ok (.ireturn, 1) := by decide +kernel
theorem dL_undo_0 : decode cL_undo 0 = .ok (.aload_n 0, 1) := by decide +kernel
theorem dL_undo_1 : decode cL_undo 1 = .ok (.invokevirtual 27, 3) := by decide +kernel
theorem dL_undo_4 : decode cL_undo 4 = .ok (.ireturn, 1) := by decide +kernel
theorem dL_undo_5 : decode cL_undo 5 = .ok (.astore_n 1, 1) := by decide +kernel
theorem dL_undo_6 : decode cL_undo 6 = .ok (.bipush (-3), 2) := by decide +kernel
theorem dL_undo_8 : decode cL_undo 8 = .ok (.ireturn, 1) := by decide +kernel
theorem dL_house_0 : decode cL_house 0 = .ok (.iconst 0, 1) := by decide +kernel
theorem dL_house_1 : decode cL_house 1 = .ok (.istore_n 1, 1) := by decide +kernel
theorem dL_house_2 : decode cL_house 2 = .ok (.iconst 0, 1) := by decide +kernel
theorem dL_house_3 : decode cL_house 3 = .ok (.istore_n 2, 1) := by decide +kernel
theorem dL_house_4 : decode cL_house 4 = .ok (.aload_n 0, 1) := by decide +kernel
theorem dL_house_5 : decode cL_house 5 = .ok (.bipush 6, 2) := by decide +kernel
theorem dL_house_7 : decode cL_house 7 = .ok (.invokevirtual 31, 3) := by decide +kernel
theorem dL_house_10 : decode cL_house 10 = .ok (.aload_n 0, 1) := by decide +kernel
theorem dL_house_11 : decode cL_house 11 = .ok (.iconst 5, 1) := by decide +kernel
theorem dL_house_12 : decode cL_house 12 = .ok (.invokevirtual 31, 3) := by decide +kernel
theorem dL_house_15 : decode cL_house 15 = .ok (.if_icmp .gt 75, 3) := by decide +kernel
theorem dL_house_18 : decode cL_house 18 = .ok (.aload_n 0, 1) := by decide +kernel
theorem dL_house_19 : decode cL_house 19 = .ok (.iconst 1, 1) := by decide +kernel
theorem dL_house_20 : decode cL_house 20 = .ok (.invokevirtual 31, 3) := by decide +kernel
theorem dL_house_23 : decode cL_house 23 = .ok (.ifCond .lt 67, 3) := by decide +kernel
theorem dL_house_26 : decode cL_house 26 = .ok (.aload_n 0, 1) := by decide +kernel
theorem dL_house_27 : decode cL_house 27 = .ok (.iconst 1, 1) := by decide +kernel
theorem dL_house_28 : decode cL_house 28 = .ok (.invokevirtual 31, 3) := by decide +kernel
theorem dL_house_31 : decode cL_house 31 = .ok (.bipush 12, 2) := by decide +kernel
theorem dL_house_33 : decode cL_house 33 = .ok (.if_icmp .gt 57, 3) := by decide +kernel
theorem dL_house_36 : decode cL_house 36 = .ok (.aload_n 0, 1) := by decide +kernel
theorem dL_house_37 : decode cL_house 37 = .ok (.bipush 8, 2) := by decide +kernel
theorem dL_house_39 : decode cL_house 39 = .ok (.invokevirtual 31, 3) := by decide +kernel
theorem dL_house_42 : decode cL_house 42 = .ok (.iconst (-1), 1) := by decide +kernel
theorem dL_house_43 : decode cL_house 43 = .ok (.if_icmp .ne 7, 3) := by decide +kernel
theorem dL_house_46 : decode cL_house 46 = .ok (.iconst 1, 1) := by decide +kernel
theorem dL_house_47 : decode cL_house 47 = .ok (.goto 4, 3) := by decide +kernel
theorem dL_house_50 : decode cL_house 50 = .ok (.iconst 0, 1) := by decide +kernel
theorem dL_house_51 : decode cL_house 51 = .ok (.aload_n 0, 1) := by decide +kernel
theorem dL_house_52 : decode cL_house 52 = .ok (.bipush 9, 2) := by decide +kernel
theorem dL_house_54 : decode cL_house 54 = .ok (.invokevirtual 31, 3) := by decide +kernel
theorem dL_house_57 : decode cL_house 57 = .ok (.ifCond .ne 7, 3) := by decide +kernel
theorem dL_house_60 : decode cL_house 60 = .ok (.iconst 1, 1) := by decide +kernel
theorem dL_house_61 : decode cL_house 61 = .ok (.goto 4, 3) := by decide +kernel
theorem dL_house_64 : decode cL_house 64 = .ok (.iconst 0, 1) := by decide +kernel
theorem dL_house_65 : decode cL_house 65 = .ok (.if_icmp .ne 25, 3) := by decide +kernel
theorem dL_house_68 : decode cL_house 68 = .ok (.aload_n 0, 1) := by decide +kernel
theorem dL_house_69 : decode cL_house 69 = .ok (.invokevirtual 34, 3) := by decide +kernel
theorem dL_house_72 : decode cL_house 72 = .ok (.dconst 0, 1) := by decide +kernel
theorem dL_house_73 : decode cL_house 73 = .ok (.dcmp .l, 1) := by decide +kernel
theorem dL_house_74 : decode cL_house 74 = .ok (.ifCond .lt 16, 3) := by decide +kernel
theorem dL_house_77 : decode cL_house 77 = .ok (.aload_n 0, 1) := by decide +kernel
theorem dL_house_78 : decode cL_house 78 = .ok (.invokevirtual 34, 3) := by decide +kernel
theorem dL_house_81 : decode cL_house 81 = .ok (.dconst 1, 1) := by decide +kernel
theorem dL_house_82 : decode cL_house 82 = .ok (.dcmp .g, 1) := by decide +kernel
theorem dL_house_83 : decode cL_house 83 = .ok (.ifCond .gt 7, 3) := by decide +kernel
theorem dL_house_86 : decode cL_house 86 = .ok (.iconst 1, 1) := by decide +kernel
theorem dL_house_87 : decode cL_house 87 = .ok (.goto 4, 3) := by decide +kernel
theorem dL_house_90 : decode cL_house 90 = .ok (.iconst 0, 1) := by decide +kernel
theorem dL_house_91 : decode cL_house 91 = .ok (.istore_n 3, 1) := by decide +kernel
theorem dL_house_92 : decode cL_house 92 = .ok (.iconst 0, 1) := by decide +kernel
theorem dL_house_93 : decode cL_house 93 = .ok (.istore 4, 2) := by decide +kernel
theorem dL_house_95 : decode cL_house 95 = .ok (.iload 4, 2) := by decide +kernel
theorem dL_house_97 : decode cL_house 97 = .ok (.bipush 6, 2) := by decide +kernel
theorem dL_house_99 : decode cL_house 99 = .ok (.if_icmp .ge 319, 3) := by decide +kernel
theorem dL_house_102 : decode cL_house 102 = .ok (.iload_n 3, 1) := by decide +kernel
theorem dL_house_103 : decode cL_house 103 = .ok (.ifCond .eq 315, 3) := by decide +kernel
theorem dL_house_106 : decode cL_house 106 = .ok (.aload_n 0, 1) := by decide +kernel
theorem dL_house_107 : decode cL_house 107 = .ok (.iload 4, 2) := by decide +kernel
theorem dL_house_109 : decode cL_house 109 = .ok (.invokevirtual 38, 3) := by decide +kernel
theorem dL_house_112 : decode cL_house 112 = .ok (.istore 5, 2) := by decide +kernel
theorem dL_house_114 : decode cL_house 114 = .ok (.iload_n 1, 1) := by decide +kernel
theorem dL_house_115 : decode cL_house 115 = .ok (.aload_n 0, 1) := by decide +kernel
theorem dL_house_116 : decode cL_house 116 = .ok (.iload 4, 2) := by decide +kernel
theorem dL_house_118 : decode cL_house 118 = .ok (.iconst 1, 1) := by decide +kernel
theorem dL_house_119 : decode cL_house 119 = .ok (.invokevirtual 41, 3) := by decide +kernel
theorem dL_house_122 : decode cL_house 122 = .ok (.iadd, 1) := by decide +kernel
theorem dL_house_123 : decode cL_house 123 = .ok (.istore_n 1, 1) := by decide +kernel
theorem dL_house_124 : decode cL_house 124 = .ok (.iload_n 2, 1) := by decide +kernel
theorem dL_house_125 : decode cL_house 125 = .ok (.aload_n 0, 1) := by decide +kernel
theorem dL_house_126 : decode cL_house 126 = .ok (.iload 4, 2) := by decide +kernel
theorem dL_house_128 : decode cL_house 128 = .ok (.iconst 4, 1) := by decide +kernel
theorem dL_house_129 : decode cL_house 129 = .ok (.invokevirtual 41, 3) := by decide +kernel
theorem dL_house_132 : decode cL_house 132 = .ok (.iadd, 1) := by decide +kernel
theorem dL_house_133 : decode cL_house 133 = .ok (.istore_n 2, 1) := by decide +kernel
theorem dL_house_134 : decode cL_house 134 = .ok (.aload_n 0, 1) := by decide +kernel
theorem dL_house_135 : decode cL_house 135 = .ok (.iload 4, 2) := by decide +kernel
theorem dL_house_137 : decode cL_house 137 = .ok (.iconst 1, 1) := by decide +kernel
theorem dL_house_138 : decode cL_house 138 = .ok (.invokevirtual 41, 3) := by decide +kernel
theorem dL_house_141 : decode cL_house 141 = .ok (.ifCond .eq 13, 3) := by decide +kernel
theorem dL_house_144 : decode cL_house 144 = .ok (.aload_n 0, 1) := by decide +kernel
theorem dL_house_145 : decode cL_house 145 = .ok (.iload 4, 2) := by decide +kernel
theorem dL_house_147 : decode cL_house 147 = .ok (.iconst 0, 1) := by decide +kernel
theorem dL_house_148 : decode cL_house 148 = .ok (.invokevirtual 41, 3) := by decide +kernel
theorem dL_house_151 : decode cL_house 151 = .ok (.ifCond .le 205, 3) := by decide +kernel
theorem dL_house_154 : decode cL_house 154 = .ok (.aload_n 0, 1) := by decide +kernel
theorem dL_house_155 : decode cL_house 155 = .ok (.iload 4, 2) := by decide +kernel
theorem dL_house_157 : decode cL_house 157 = .ok (.iconst 0, 1) := by decide +kernel
theorem dL_house_158 : decode cL_house 158 = .ok (.invokevirtual 41, 3) := by decide +kernel
theorem dL_house_161 : decode cL_house 161 = .ok (.bipush 20, 2) := by decide +kernel
theorem dL_house_163 : decode cL_house 163 = .ok (.if_icmp .gt 193, 3) := by decide +kernel
theorem dL_house_166 : decode cL_house 166 = .ok (.aload_n 0, 1) := by decide +kernel
theorem dL_house_167 : decode cL_house 167 = .ok (.iload 4, 2) := by decide +kernel
theorem dL_house_169 : decode cL_house 169 = .ok (.iconst 2, 1) := by decide +kernel
theorem dL_house_170 : decode cL_house 170 = .ok (.invokevirtual 41, 3) := by decide +kernel
theorem dL_house_173 : decode cL_house 173 = .ok (.bipush 9, 2) := by decide +kernel
theorem dL_house_175 : decode cL_house 175 = .ok (.if_icmp .gt 181, 3) := by decide +kernel
theorem dL_house_178 : decode cL_house 178 = .ok (.aload_n 0, 1) := by decide +kernel
theorem dL_house_179 : decode cL_house 179 = .ok (.iload 4, 2) := by decide +kernel
theorem dL_house_181 : decode cL_house 181 = .ok (.iconst 4, 1) := by decide +kernel
theorem dL_house_182 : decode cL_house 182 = .ok (.invokevirtual 41, 3) := by decide +kernel
theorem dL_house_185 : decode cL_house 185 = .ok (.iconst 4, 1) := by decide +kernel
theorem dL_house_186 : decode cL_house 186 = .ok (.if_icmp .gt 170, 3) := by decide +kernel
theorem dL_house_189 : decode cL_house 189 = .ok (.aload_n 0, 1) := by decide +kernel
theorem dL_house_190 : decode cL_house 190 = .ok (.iload 4, 2) := by decide +kernel
theorem dL_house_192 : decode cL_house 192 = .ok (.bipush 7, 2) := by decide +kernel
theorem dL_house_194 : decode cL_house 194 = .ok (.invokevirtual 41, 3) := by decide +kernel
theorem dL_house_197 : decode cL_house 197 = .ok (.iconst (-1), 1) := by decide +kernel
theorem dL_house_198 : decode cL_house 198 = .ok (.if_icmp .ne 7, 3) := by decide +kernel
theorem dL_house_201 : decode cL_house 201 = .ok (.iconst 1, 1) := by decide +kernel
theorem dL_house_202 : decode cL_house 202 = .ok (.goto 4, 3) := by decide +kernel
theorem dL_house_205 : decode cL_house 205 = .ok (.iconst 0, 1) := by decide +kernel
theorem dL_house_206 : decode cL_house 206 = .ok (.aload_n 0, 1) := by decide +kernel
theorem dL_house_207 : decode cL_house 207 = .ok (.iload 4, 2) := by decide +kernel
theorem dL_house_209 : decode cL_house 209 = .ok (.iconst 4, 1) := by decide +kernel
theorem dL_house_210 : decode cL_house 210 = .ok (.invokevirtual 41, 3) := by decide +kernel
theorem dL_house_213 : decode cL_house 213 = .ok (.ifCond .ne 7, 3) := by decide +kernel
theorem dL_house_216 : decode cL_house 216 = .ok (.iconst 1, 1) := by decide +kernel
theorem dL_house_217 : decode cL_house 217 = .ok (.goto 4, 3) := by decide +kernel
theorem dL_house_220 : decode cL_house 220 = .ok (.iconst 0, 1) := by decide +kernel
theorem dL_house_221 : decode cL_house 221 = .ok (.if_icmp .ne 135, 3) := by decide +kernel
theorem dL_house_224 : decode cL_house 224 = .ok (.iload 5, 2) := by decide +kernel
theorem dL_house_226 : decode cL_house 226 = .ok (.ifCond .ne 7, 3) := by decide +kernel
theorem dL_house_229 : decode cL_house 229 = .ok (.iconst 1, 1) := by decide +kernel
theorem dL_house_230 : decode cL_house 230 = .ok (.goto 4, 3) := by decide +kernel
theorem dL_house_233 : decode cL_house 233 = .ok (.iconst 0, 1) := by decide +kernel
theorem dL_house_234 : decode cL_house 234 = .ok (.aload_n 0, 1) := by decide +kernel
theorem dL_house_235 : decode cL_house 235 = .ok (.iload 4, 2) := by decide +kernel
theorem dL_house_237 : decode cL_house 237 = .ok (.iconst 1, 1) := by decide +kernel
theorem dL_house_238 : decode cL_house 238 = .ok (.invokevirtual 41, 3) := by decide +kernel
theorem dL_house_241 : decode cL_house 241 = .ok (.iconst 1, 1) := by decide +kernel
theorem dL_house_242 : decode cL_house 242 = .ok (.if_icmp .ne 7, 3) := by decide +kernel
theorem dL_house_245 : decode cL_house 245 = .ok (.iconst 1, 1) := by decide +kernel
theorem dL_house_246 : decode cL_house 246 = .ok (.goto 4, 3) := by decide +kernel
theorem dL_house_249 : decode cL_house 249 = .ok (.iconst 0, 1) := by decide +kernel
theorem dL_house_250 : decode cL_house 250 = .ok (.if_icmp .ne 106, 3) := by decide +kernel
theorem dL_house_253 : decode cL_house 253 = .ok (.iload 5, 2) := by decide +kernel
theorem dL_house_255 : decode cL_house 255 = .ok (.iconst 5, 1) := by decide +kernel
theorem dL_house_256 : decode cL_house 256 = .ok (.if_icmp .gt 100, 3) := by decide +kernel
theorem dL_house_259 : decode cL_house 259 = .ok (.iload 5, 2) := by decide +kernel
theorem dL_house_261 : decode cL_house 261 = .ok (.iconst 1, 1) := by decide +kernel
theorem dL_house_262 : decode cL_house 262 = .ok (.if_icmp .lt 13, 3) := by decide +kernel
theorem dL_house_265 : decode cL_house 265 = .ok (.aload_n 0, 1) := by decide +kernel
theorem dL_house_266 : decode cL_house 266 = .ok (.iload 4, 2) := by decide +kernel
theorem dL_house_268 : decode cL_house 268 = .ok (.iconst 0, 1) := by decide +kernel
theorem dL_house_269 : decode cL_house 269 = .ok (.invokevirtual 41, 3) := by decide +kernel
theorem dL_house_272 : decode cL_house 272 = .ok (.ifCond .le 84, 3) := by decide +kernel
theorem dL_house_275 : decode cL_house 275 = .ok (.aload_n 0, 1) := by decide +kernel
theorem dL_house_276 : decode cL_house 276 = .ok (.iload 4, 2) := by decide +kernel
theorem dL_house_278 : decode cL_house 278 = .ok (.iconst 1, 1) := by decide +kernel
theorem dL_house_279 : decode cL_house 279 = .ok (.invokevirtual 41, 3) := by decide +kernel
theorem dL_house_282 : decode cL_house 282 = .ok (.iconst 1, 1) := by decide +kernel
theorem dL_house_283 : decode cL_house 283 = .ok (.if_icmp .eq 12, 3) := by decide +kernel
theorem dL_house_286 : decode cL_house 286 = .ok (.aload_n 0, 1) := by decide +kernel
theorem dL_house_287 : decode cL_house 287 = .ok (.iload 4, 2) := by decide +kernel
theorem dL_house_289 : decode cL_house 289 = .ok (.invokevirtual 44, 3) := by decide +kernel
theorem dL_house_292 : decode cL_house 292 = .ok (.ifCond .ne 64, 3) := by decide +kernel
theorem dL_house_295 : decode cL_house 295 = .ok (.aload_n 0, 1) := by decide +kernel
theorem dL_house_296 : decode cL_house 296 = .ok (.iload 4, 2) := by decide +kernel
theorem dL_house_298 : decode cL_house 298 = .ok (.invokevirtual 44, 3) := by decide +kernel
theorem dL_house_301 : decode cL_house 301 = .ok (.ifCond .lt 55, 3) := by decide +kernel
theorem dL_house_304 : decode cL_house 304 = .ok (.aload_n 0, 1) := by decide +kernel
theorem dL_house_305 : decode cL_house 305 = .ok (.iload 4, 2) := by decide +kernel
theorem dL_house_307 : decode cL_house 307 = .ok (.invokevirtual 47, 3) := by decide +kernel
theorem dL_house_310 : decode cL_house 310 = .ok (.ifCond .ne 7, 3) := by decide +kernel
theorem dL_house_313 : decode cL_house 313 = .ok (.iconst 1, 1) := by decide +kernel
theorem dL_house_314 : decode cL_house 314 = .ok (.goto 4, 3) := by decide +kernel
theorem dL_house_317 : decode cL_house 317 = .ok (.iconst 0, 1) := by decide +kernel
theorem dL_house_318 : decode cL_house 318 = .ok (.aload_n 0, 1) := by decide +kernel
theorem dL_house_319 : decode cL_house 319 = .ok (.iload 4, 2) := by decide +kernel
theorem dL_house_321 : decode cL_house 321 = .ok (.iconst 1, 1) := by decide +kernel
theorem dL_house_322 : decode cL_house 322 = .ok (.invokevirtual 41, 3) := by decide +kernel
theorem dL_house_325 : decode cL_house 325 = .ok (.ifCond .ne 7, 3) := by decide +kernel
theorem dL_house_328 : decode cL_house 328 = .ok (.iconst 1, 1) := by decide +kernel
theorem dL_house_329 : decode cL_house 329 = .ok (.goto 4, 3) := by decide +kernel
theorem dL_house_332 : decode cL_house 332 = .ok (.iconst 0, 1) := by decide +kernel
theorem dL_house_333 : decode cL_house 333 = .ok (.if_icmp .ne 23, 3) := by decide +kernel
theorem dL_house_336 : decode cL_house 336 = .ok (.aload_n 0, 1) := by decide +kernel
theorem dL_house_337 : decode cL_house 337 = .ok (.iload 4, 2) := by decide +kernel
theorem dL_house_339 : decode cL_house 339 = .ok (.invokevirtual 47, 3) := by decide +kernel
theorem dL_house_342 : decode cL_house 342 = .ok (.aload_n 0, 1) := by decide +kernel
theorem dL_house_343 : decode cL_house 343 = .ok (.iload 4, 2) := by decide +kernel
theorem dL_house_345 : decode cL_house 345 = .ok (.iconst 0, 1) := by decide +kernel
theorem dL_house_346 : decode cL_house 346 = .ok (.invokevirtual 41, 3) := by decide +kernel
theorem dL_house_349 : decode cL_house 349 = .ok (.if_icmp .gt 7, 3) := by decide +kernel
theorem dL_house_352 : decode cL_house 352 = .ok (.iconst 1, 1) := by decide +kernel
theorem dL_house_353 : decode cL_house 353 = .ok (.goto 4, 3) := by decide +kernel
theorem dL_house_356 : decode cL_house 356 = .ok (.iconst 0, 1) := by decide +kernel
theorem dL_house_357 : decode cL_house 357 = .ok (.istore_n 3, 1) := by decide +kernel
theorem dL_house_358 : decode cL_house 358 = .ok (.iload_n 3, 1) := by decide +kernel
theorem dL_house_359 : decode cL_house 359 = .ok (.ifCond .eq 53, 3) := by decide +kernel
theorem dL_house_362 : decode cL_house 362 = .ok (.aload_n 0, 1) := by decide +kernel
theorem dL_house_363 : decode cL_house 363 = .ok (.iload 4, 2) := by decide +kernel
theorem dL_house_365 : decode cL_house 365 = .ok (.iconst 4, 1) := by decide +kernel
theorem dL_house_366 : decode cL_house 366 = .ok (.invokevirtual 41, 3) := by decide +kernel
theorem dL_house_369 : decode cL_house 369 = .ok (.ifCond .le 43, 3) := by decide +kernel
theorem dL_house_372 : decode cL_house 372 = .ok (.aload_n 0, 1) := by decide +kernel
theorem dL_house_373 : decode cL_house 373 = .ok (.aload_n 0, 1) := by decide +kernel
theorem dL_house_374 : decode cL_house 374 = .ok (.iload 4, 2) := by decide +kernel
theorem dL_house_376 : decode cL_house 376 = .ok (.bipush 7, 2) := by decide +kernel
theorem dL_house_378 : decode cL_house 378 = .ok (.invokevirtual 41, 3) := by decide +kernel
theorem dL_house_381 : decode cL_house 381 = .ok (.iconst 0, 1) := by decide +kernel
theorem dL_house_382 : decode cL_house 382 = .ok (.invokevirtual 50, 3) := by decide +kernel
theorem dL_house_385 : decode cL_house 385 = .ok (.iload 4, 2) := by decide +kernel
theorem dL_house_387 : decode cL_house 387 = .ok (.if_icmp .ne 23, 3) := by decide +kernel
theorem dL_house_390 : decode cL_house 390 = .ok (.aload_n 0, 1) := by decide +kernel
theorem dL_house_391 : decode cL_house 391 = .ok (.aload_n 0, 1) := by decide +kernel
theorem dL_house_392 : decode cL_house 392 = .ok (.iload 4, 2) := by decide +kernel
theorem dL_house_394 : decode cL_house 394 = .ok (.bipush 7, 2) := by decide +kernel
theorem dL_house_396 : decode cL_house 396 = .ok (.invokevirtual 41, 3) := by decide +kernel
theorem dL_house_399 : decode cL_house 399 = .ok (.iconst 2, 1) := by decide +kernel
theorem dL_house_400 : decode cL_house 400 = .ok (.invokevirtual 50, 3) := by decide +kernel
theorem dL_house_403 : decode cL_house 403 = .ok (.ifCond .ne 7, 3) := by decide +kernel
theorem dL_house_406 : decode cL_house 406 = .ok (.iconst 1, 1) := by decide +kernel
theorem dL_house_407 : decode cL_house 407 = .ok (.goto 4, 3) := by decide +kernel
theorem dL_house_410 : decode cL_house 410 = .ok (.iconst 0, 1) := by decide +kernel
theorem dL_house_411 : decode cL_house 411 = .ok (.istore_n 3, 1) := by decide +kernel
theorem dL_house_412 : decode cL_house 412 = .ok (.iinc 4 1, 3) := by decide +kernel
theorem dL_house_415 : decode cL_house 415 = .ok (.goto (-320), 3) := by decide +kernel
theorem dL_house_418 : decode cL_house 418 = .ok (.iload_n 3, 1) := by decide +kernel
theorem dL_house_419 : decode cL_house 419 = .ok (.ifCond .eq 88, 3) := by decide +kernel
theorem dL_house_422 : decode cL_house 422 = .ok (.aload_n 0, 1) := by decide +kernel
theorem dL_house_423 : decode cL_house 423 = .ok (.iconst 2, 1) := by decide +kernel
theorem dL_house_424 : decode cL_house 424 = .ok (.invokevirtual 31, 3) := by decide +kernel
theorem dL_house_427 : decode cL_house 427 = .ok (.iload_n 1, 1) := by decide +kernel
theorem dL_house_428 : decode cL_house 428 = .ok (.if_icmp .ne 79, 3) := by decide +kernel
theorem dL_house_431 : decode cL_house 431 = .ok (.aload_n 0, 1) := by decide +kernel
theorem dL_house_432 : decode cL_house 432 = .ok (.iconst 3, 1) := by decide +kernel
theorem dL_house_433 : decode cL_house 433 = .ok (.invokevirtual 31, 3) := by decide +kernel
theorem dL_house_436 : decode cL_house 436 = .ok (.iload_n 2, 1) := by decide +kernel
theorem dL_house_437 : decode cL_house 437 = .ok (.if_icmp .ne 70, 3) := by decide +kernel
theorem dL_house_440 : decode cL_house 440 = .ok (.aload_n 0, 1) := by decide +kernel
theorem dL_house_441 : decode cL_house 441 = .ok (.invokevirtual 53, 3) := by decide +kernel
theorem dL_house_444 : decode cL_house 444 = .ok (.iconst (-1), 1) := by decide +kernel
theorem dL_house_445 : decode cL_house 445 = .ok (.if_icmp .ne 7, 3) := by decide +kernel
theorem dL_house_448 : decode cL_house 448 = .ok (.iconst 1, 1) := by decide +kernel
theorem dL_house_449 : decode cL_house 449 = .ok (.goto 4, 3) := by decide +kernel
theorem dL_house_452 : decode cL_house 452 = .ok (.iconst 0, 1) := by decide +kernel
theorem dL_house_453 : decode cL_house 453 = .ok (.iload_n 2, 1) := by decide +kernel
theorem dL_house_454 : decode cL_house 454 = .ok (.ifCond .ne 7, 3) := by decide +kernel
theorem dL_house_457 : decode cL_house 457 = .ok (.iconst 1, 1) := by decide +kernel
theorem dL_house_458 : decode cL_house 458 = .ok (.goto 4, 3) := by decide +kernel
theorem dL_house_461 : decode cL_house 461 = .ok (.iconst 0, 1) := by decide +kernel
theorem dL_house_462 : decode cL_house 462 = .ok (.if_icmp .ne 45, 3) := by decide +kernel
theorem dL_house_465 : decode cL_house 465 = .ok (.aload_n 0, 1) := by decide +kernel
theorem dL_house_466 : decode cL_house 466 = .ok (.invokevirtual 56, 3) := by decide +kernel
theorem dL_house_469 : decode cL_house 469 = .ok (.iconst (-1), 1) := by decide +kernel
theorem dL_house_470 : decode cL_house 470 = .ok (.if_icmp .ne 7, 3) := by decide +kernel
theorem dL_house_473 : decode cL_house 473 = .ok (.iconst 1, 1) := by decide +kernel
theorem dL_house_474 : decode cL_house 474 = .ok (.goto 4, 3) := by decide +kernel
theorem dL_house_477 : decode cL_house 477 = .ok (.iconst 0, 1) := by decide +kernel
theorem dL_house_478 : decode cL_house 478 = .ok (.iload_n 2, 1) := by decide +kernel
theorem dL_house_479 : decode cL_house 479 = .ok (.ifCond .ne 7, 3) := by decide +kernel
theorem dL_house_482 : decode cL_house 482 = .ok (.iconst 1, 1) := by decide +kernel
theorem dL_house_483 : decode cL_house 483 = .ok (.goto 4, 3) := by decide +kernel
theorem dL_house_486 : decode cL_house 486 = .ok (.iconst 0, 1) := by decide +kernel
theorem dL_house_487 : decode cL_house 487 = .ok (.if_icmp .ne 20, 3) := by decide +kernel
theorem dL_house_490 : decode cL_house 490 = .ok (.iload_n 1, 1) := by decide +kernel
theorem dL_house_491 : decode cL_house 491 = .ok (.ifCond .gt 12, 3) := by decide +kernel
theorem dL_house_494 : decode cL_house 494 = .ok (.aload_n 0, 1) := by decide +kernel
theorem dL_house_495 : decode cL_house 495 = .ok (.iconst 0, 1) := by decide +kernel
theorem dL_house_496 : decode cL_house 496 = .ok (.invokevirtual 38, 3) := by decide +kernel
theorem dL_house_499 : decode cL_house 499 = .ok (.iconst 1, 1) := by decide +kernel
theorem dL_house_500 : decode cL_house 500 = .ok (.if_icmp .gt 7, 3) := by decide +kernel
theorem dL_house_503 : decode cL_house 503 = .ok (.iconst 1, 1) := by decide +kernel
theorem dL_house_504 : decode cL_house 504 = .ok (.goto 4, 3) := by decide +kernel
theorem dL_house_507 : decode cL_house 507 = .ok (.iconst 0, 1) := by decide +kernel
theorem dL_house_508 : decode cL_house 508 = .ok (.ireturn, 1) := by decide +kernel
theorem dL_act_0 : decode cL_act 0 = .ok (.aload_n 1, 1) := by decide +kernel
theorem dL_act_1 : decode cL_act 1 = .ok (.iload_n 2, 1) := by decide +kernel
theorem dL_act_2 : decode cL_act 2 = .ok (.iconst 1, 1) := by decide +kernel
theorem dL_act_3 : decode cL_act 3 = .ok (.iadd, 1) := by decide +kernel
theorem dL_act_4 : decode cL_act 4 = .ok (.invokestatic 59, 3) := by decide +kernel
theorem dL_act_7 : decode cL_act 7 = .ok (.istore_n 3, 1) := by decide +kernel
theorem dL_act_8 : decode cL_act 8 = .ok (.aload_n 1, 1) := by decide +kernel
theorem dL_act_9 : decode cL_act 9 = .ok (.iload_n 2, 1) := by decide +kernel
theorem dL_act_10 : decode cL_act 10 = .ok (.iconst 2, 1) := by decide +kernel
theorem dL_act_11 : decode cL_act 11 = .ok (.iadd, 1) := by decide +kernel
theorem dL_act_12 : decode cL_act 12 = .ok (.invokestatic 59, 3) := by decide +kernel
theorem dL_act_15 : decode cL_act 15 = .ok (.istore 4, 2) := by decide +kernel
theorem dL_act_17 : decode cL_act 17 = .ok (.iload_n 3, 1) := by decide +kernel
theorem dL_act_18 : decode cL_act 18 = .ok (.bipush 6, 2) := by decide +kernel
theorem dL_act_20 : decode cL_act 20 = .ok (.invokestatic 65, 3) := by decide +kernel
theorem dL_act_23 : decode cL_act 23 = .ok (.istore 5, 2) := by decide +kernel
theorem dL_act_25 : decode cL_act 25 = .ok (.iload 4, 2) := by decide +kernel
theorem dL_act_27 : decode cL_act 27 = .ok (.bipush 24, 2) := by decide +kernel
theorem dL_act_29 : decode cL_act 29 = .ok (.invokestatic 65, 3) := by decide +kernel
theorem dL_act_32 : decode cL_act 32 = .ok (.istore 6, 2) := by decide +kernel
theorem dL_act_34 : decode cL_act 34 = .ok (.aload_n 1, 1) := by decide +kernel
theorem dL_act_35 : decode cL_act 35 = .ok (.iload_n 2, 1) := by decide +kernel
theorem dL_act_36 : decode cL_act 36 = .ok (.invokestatic 59, 3) := by decide +kernel
theorem dL_act_39 : decode cL_act 39 = .ok (.bipush 24, 2) := by decide +kernel
theorem dL_act_41 : decode cL_act 41 = .ok (.invokestatic 65, 3) := by decide +kernel
theorem dL_act_44 : decode cL_act 44 = .ok (.tableswitch 234 0 20 #[100, 100, 100, 107, 107, 107, 107, 134, 134, 141, 162, 183, 199, 199, 199, 199, 199, 208, 208, 215, 220], 100) := by decide +kernel
theorem dL_act_144 : decode cL_act 144 = .ok (.aload_n 0, 1) := by decide +kernel
theorem dL_act_145 : decode cL_act 145 = .ok (.iload 5, 2) := by decide +kernel
theorem dL_act_147 : decode cL_act 147 = .ok (.invokestatic 68, 3) := by decide +kernel
theorem dL_act_150 : decode cL_act 150 = .ok (.ireturn, 1) := by decide +kernel
theorem dL_act_151 : decode cL_act 151 = .ok (.aload_n 0, 1) := by decide +kernel
theorem dL_act_152 : decode cL_act 152 = .ok (.iload 5, 2) := by decide +kernel
theorem dL_act_154 : decode cL_act 154 = .ok (.iload 5, 2) := by decide +kernel
theorem dL_act_156 : decode cL_act 156 = .ok (.iload 4, 2) := by decide +kernel
theorem dL_act_158 : decode cL_act 158 = .ok (.iconst 3, 1) := by decide +kernel
theorem dL_act_159 : decode cL_act 159 = .ok (.invokestatic 65, 3) := by decide +kernel
theorem dL_act_162 : decode cL_act 162 = .ok (.ifCond .le 7, 3) := by decide +kernel
theorem dL_act_165 : decode cL_act 165 = .ok (.iconst 5, 1) := by decide +kernel
theorem dL_act_166 : decode cL_act 166 = .ok (.goto 4, 3) := by decide +kernel
theorem dL_act_169 : decode cL_act 169 = .ok (.iconst 1, 1) := by decide +kernel
theorem dL_act_170 : decode cL_act 170 = .ok (.iadd, 1) := by decide +kernel
theorem dL_act_171 : decode cL_act 171 = .ok (.bipush 6, 2) := by decide +kernel
theorem dL_act_173 : decode cL_act 173 = .ok (.irem, 1) := by decide +kernel
theorem dL_act_174 : decode cL_act 174 = .ok (.invokestatic 71, 3) := by decide +kernel
theorem dL_act_177 : decode cL_act 177 = .ok (.ireturn, 1) := by decide +kernel
theorem dL_act_178 : decode cL_act 178 = .ok (.aload_n 0, 1) := by decide +kernel
theorem dL_act_179 : decode cL_act 179 = .ok (.iload 5, 2) := by decide +kernel
theorem dL_act_181 : decode cL_act 181 = .ok (.invokestatic 74, 3) := by decide +kernel
theorem dL_act_184 : decode cL_act 184 = .ok (.ireturn, 1) := by decide +kernel
theorem dL_act_185 : decode cL_act 185 = .ok (.aload_n 0, 1) := by decide +kernel
theorem dL_act_186 : decode cL_act 186 = .ok (.iload 5, 2) := by decide +kernel
theorem dL_act_188 : decode cL_act 188 = .ok (.iload 4, 2) := by decide +kernel
theorem dL_act_190 : decode cL_act 190 = .ok (.iconst 3, 1) := by decide +kernel
theorem dL_act_191 : decode cL_act 191 = .ok (.invokestatic 65, 3) := by decide +kernel
theorem dL_act_194 : decode cL_act 194 = .ok (.ifCond .le 7, 3) := by decide +kernel
theorem dL_act_197 : decode cL_act 197 = .ok (.iconst 1, 1) := by decide +kernel
theorem dL_act_198 : decode cL_act 198 = .ok (.goto 4, 3) := by decide +kernel
theorem dL_act_201 : decode cL_act 201 = .ok (.iconst 0, 1) := by decide +kernel
theorem dL_act_202 : decode cL_act 202 = .ok (.invokevirtual 76, 3) := by decide +kernel
theorem dL_act_205 : decode cL_act 205 = .ok (.ireturn, 1) := by decide +kernel
theorem dL_act_206 : decode cL_act 206 = .ok (.aload_n 0, 1) := by decide +kernel
theorem dL_act_207 : decode cL_act 207 = .ok (.iload 5, 2) := by decide +kernel
theorem dL_act_209 : decode cL_act 209 = .ok (.iload 4, 2) := by decide +kernel
theorem dL_act_211 : decode cL_act 211 = .ok (.iconst 2, 1) := by decide +kernel
theorem dL_act_212 : decode cL_act 212 = .ok (.invokestatic 65, 3) := by decide +kernel
theorem dL_act_215 : decode cL_act 215 = .ok (.ifCond .ne 7, 3) := by decide +kernel
theorem dL_act_218 : decode cL_act 218 = .ok (.iconst 1, 1) := by decide +kernel
theorem dL_act_219 : decode cL_act 219 = .ok (.goto 4, 3) := by decide +kernel
theorem dL_act_222 : decode cL_act 222 = .ok (.iconst 0, 1) := by decide +kernel
theorem dL_act_223 : decode cL_act 223 = .ok (.invokevirtual 80, 3) := by decide +kernel
theorem dL_act_226 : decode cL_act 226 = .ok (.ireturn, 1) := by decide +kernel
theorem dL_act_227 : decode cL_act 227 = .ok (.aload_n 0, 1) := by decide +kernel
theorem dL_act_228 : decode cL_act 228 = .ok (.iload 5, 2) := by decide +kernel
theorem dL_act_230 : decode cL_act 230 = .ok (.iconst 1, 1) := by decide +kernel
theorem dL_act_231 : decode cL_act 231 = .ok (.iload 4, 2) := by decide +kernel
theorem dL_act_233 : decode cL_act 233 = .ok (.bipush 6, 2) := by decide +kernel
theorem dL_act_235 : decode cL_act 235 = .ok (.invokestatic 65, 3) := by decide +kernel
theorem dL_act_238 : decode cL_act 238 = .ok (.iadd, 1) := by decide +kernel
theorem dL_act_239 : decode cL_act 239 = .ok (.invokevirtual 83, 3) := by decide +kernel
theorem dL_act_242 : decode cL_act 242 = .ok (.ireturn, 1) := by decide +kernel
theorem dL_act_243 : decode cL_act 243 = .ok (.aload_n 0, 1) := by decide +kernel
theorem dL_act_244 : decode cL_act 244 = .ok (.iload 5, 2) := by decide +kernel
theorem dL_act_246 : decode cL_act 246 = .ok (.iload 6, 2) := by decide +kernel
theorem dL_act_248 : decode cL_act 248 = .ok (.invokestatic 86, 3) := by decide +kernel
theorem dL_act_251 : decode cL_act 251 = .ok (.ireturn, 1) := by decide +kernel
theorem dL_act_252 : decode cL_act 252 = .ok (.aload_n 0, 1) := by decide +kernel
theorem dL_act_253 : decode cL_act 253 = .ok (.iload 6, 2) := by decide +kernel
theorem dL_act_255 : decode cL_act 255 = .ok (.invokevirtual 88, 3) := by decide +kernel
theorem dL_act_258 : decode cL_act 258 = .ok (.ireturn, 1) := by decide +kernel
theorem dL_act_259 : decode cL_act 259 = .ok (.aload_n 0, 1) := by decide +kernel
theorem dL_act_260 : decode cL_act 260 = .ok (.invokestatic 91, 3) := by decide +kernel
theorem dL_act_263 : decode cL_act 263 = .ok (.ireturn, 1) := by decide +kernel
theorem dL_act_264 : decode cL_act 264 = .ok (.aload_n 0, 1) := by decide +kernel
theorem dL_act_265 : decode cL_act 265 = .ok (.iconst 1, 1) := by decide +kernel
theorem dL_act_266 : decode cL_act 266 = .ok (.iload 4, 2) := by decide +kernel
theorem dL_act_268 : decode cL_act 268 = .ok (.bipush 30, 2) := by decide +kernel
theorem dL_act_270 : decode cL_act 270 = .ok (.invokestatic 65, 3) := by decide +kernel
theorem dL_act_273 : decode cL_act 273 = .ok (.iadd, 1) := by decide +kernel
theorem dL_act_274 : decode cL_act 274 = .ok (.invokevirtual 94, 3) := by decide +kernel
theorem dL_act_277 : decode cL_act 277 = .ok (.ireturn, 1) := by decide +kernel
theorem dL_act_278 : decode cL_act 278 = .ok (.aload_n 0, 1) := by decide +kernel
theorem dL_act_279 : decode cL_act 279 = .ok (.iconst 1, 1) := by decide +kernel
theorem dL_act_280 : decode cL_act 280 = .ok (.iload 4, 2) := by decide +kernel
theorem dL_act_282 : decode cL_act 282 = .ok (.iload_n 3, 1) := by decide +kernel
theorem dL_act_283 : decode cL_act 283 = .ok (.iconst 3, 1) := by decide +kernel
theorem dL_act_284 : decode cL_act 284 = .ok (.ishr, 1) := by decide +kernel
theorem dL_act_285 : decode cL_act 285 = .ok (.iconst 4, 1) := by decide +kernel
theorem dL_act_286 : decode cL_act 286 = .ok (.invokestatic 65, 3) := by decide +kernel
theorem dL_act_289 : decode cL_act 289 = .ok (.ifCond .ne 8, 3) := by decide +kernel
theorem dL_act_292 : decode cL_act 292 = .ok (.bipush 20, 2) := by decide +kernel
theorem dL_act_294 : decode cL_act 294 = .ok (.goto 4, 3) := by decide +kernel
theorem dL_act_297 : decode cL_act 297 = .ok (.iconst 3, 1) := by decide +kernel
theorem dL_act_298 : decode cL_act 298 = .ok (.invokestatic 65, 3) := by decide +kernel
theorem dL_act_301 : decode cL_act 301 = .ok (.iadd, 1) := by decide +kernel
theorem dL_act_302 : decode cL_act 302 = .ok (.invokevirtual 97, 3) := by decide +kernel
theorem dL_act_305 : decode cL_act 305 = .ok (.ireturn, 1) := by decide +kernel
set_option maxRecDepth 20000 in
theorem dL_law_0 : decode cL_law 0 = .ok (.new 10, 3) := by decide +kernel
set_option maxRecDepth 20000 in
theorem dL_law_3 : decode cL_law 3 = .ok (.dup, 1) := by decide +kernel
set_option maxRecDepth 20000 in
theorem dL_law_4 : decode cL_law 4 = .ok (.invokespecial 100, 3) := by decide +kernel
set_option maxRecDepth 20000 in
theorem dL_law_7 : decode cL_law 7 = .ok (.astore_n 1, 1) := by decide +kernel
set_option maxRecDepth 20000 in
theorem dL_law_8 : decode cL_law 8 = .ok (.iconst 1, 1) := by decide +kernel
set_option maxRecDepth 20000 in
theorem dL_law_9 : decode cL_law 9 = .ok (.istore_n 2, 1) := by decide +kernel
set_option maxRecDepth 20000 in
theorem dL_law_10 : decode cL_law 10 = .ok (.aload_n 0, 1) := by decide +kernel
set_option maxRecDepth 20000 in
theorem dL_law_11 : decode cL_law 11 = .ok (.arraylength, 1) := by decide +kernel
set_option maxRecDepth 20000 in
theorem dL_law_12 : decode cL_law 12 = .ok (.iconst 3, 1) := by decide +kernel
set_option maxRecDepth 20000 in
theorem dL_law_13 : decode cL_law 13 = .ok (.idiv, 1) := by decide +kernel
set_option maxRecDepth 20000 in
theorem dL_law_14 : decode cL_law 14 = .ok (.bipush 45, 2) := by decide +kernel
set_option maxRecDepth 20000 in
theorem dL_law_16 : decode cL_law 16 = .ok (.if_icmp .le 8, 3) := by decide +kernel
set_option maxRecDepth 20000 in
theorem dL_law_19 : decode cL_law 19 = .ok (.bipush 45, 2) := by decide +kernel
set_option maxRecDepth 20000 in
theorem dL_law_21 : decode cL_law 21 = .ok (.goto 7, 3) := by decide +kernel
set_option maxRecDepth 20000 in
theorem dL_law_24 : decode cL_law 24 = .ok (.aload_n 0, 1) := by decide +kernel
set_option maxRecDepth 20000 in
theorem dL_law_25 : decode cL_law 25 = .ok (.arraylength, 1) := by decide +kernel
set_option maxRecDepth 20000 in
theorem dL_law_26 : decode cL_law 26 = .ok (.iconst 3, 1) := by decide +kernel
set_option maxRecDepth 20000 in
theorem dL_law_27 : decode cL_law 27 = .ok (.idiv, 1) := by decide +kernel
set_option maxRecDepth 20000 in
theorem dL_law_28 : decode cL_law 28 = .ok (.istore_n 3, 1) := by decide +kernel
set_option maxRecDepth 20000 in
theorem dL_law_29 : decode cL_law 29 = .ok (.iconst 0, 1) := by decide +kernel
set_option maxRecDepth 20000 in
theorem dL_law_30 : decode cL_law 30 = .ok (.istore 4, 2) := by decide +kernel
set_option maxRecDepth 20000 in
theorem dL_law_32 : decode cL_law 32 = .ok (.iload 4, 2) := by decide +kernel
set_option maxRecDepth 20000 in
theorem dL_law_34 : decode cL_law 34 = .ok (.iload_n 3, 1) := by decide +kernel
set_option maxRecDepth 20000 in
theorem dL_law_35 : decode cL_law 35 = .ok (.if_icmp .ge 581, 3) := by decide +kernel
set_option maxRecDepth 20000 in
theorem dL_law_38 : decode cL_law 38 = .ok (.iload_n 2, 1) := by decide +kernel
set_option maxRecDepth 20000 in
theorem dL_law_39 : decode cL_law 39 = .ok (.ifCond .eq 577, 3) := by decide +kernel
set_option maxRecDepth 20000 in
theorem dL_law_42 : decode cL_law 42 = .ok (.aload_n 1, 1) := by decide +kernel
set_option maxRecDepth 20000 in
theorem dL_law_43 : decode cL_law 43 = .ok (.bipush 11, 2) := by decide +kernel
set_option maxRecDepth 20000 in
theorem dL_law_45 : decode cL_law 45 = .ok (.invokevirtual 31, 3) := by decide +kernel
set_option maxRecDepth 20000 in
theorem dL_law_48 : decode cL_law 48 = .ok (.istore 5, 2) := by decide +kernel
set_option maxRecDepth 20000 in
theorem dL_law_50 : decode cL_law 50 = .ok (.aload_n 1, 1) := by decide +kernel
set_option maxRecDepth 20000 in
theorem dL_law_51 : decode cL_law 51 = .ok (.iconst 0, 1) := by decide +kernel
set_option maxRecDepth 20000 in
theorem dL_law_52 : decode cL_law 52 = .ok (.invokevirtual 31, 3) := by decide +kernel
set_option maxRecDepth 20000 in
theorem dL_law_55 : decode cL_law 55 = .ok (.istore 6, 2) := by decide +kernel
set_option maxRecDepth 20000 in
theorem dL_law_57 : decode cL_law 57 = .ok (.aload_n 1, 1) := by decide +kernel
set_option maxRecDepth 20000 in
theorem dL_law_58 : decode cL_law 58 = .ok (.iconst 4, 1) := by decide +kernel
set_option maxRecDepth 20000 in
theorem dL_law_59 : decode cL_law 59 = .ok (.invokevirtual 31, 3) := by decide +kernel
set_option maxRecDepth 20000 in
theorem dL_law_62 : decode cL_law 62 = .ok (.istore 7, 2) := by decide +kernel
set_option maxRecDepth 20000 in
theorem dL_law_64 : decode cL_law 64 = .ok (.aload_n 1, 1) := by decide +kernel
set_option maxRecDepth 20000 in
theorem dL_law_65 : decode cL_law 65 = .ok (.iconst 5, 1) := by decide +kernel
set_option maxRecDepth 20000 in
theorem dL_law_66 : decode cL_law 66 = .ok (.invokevirtual 31, 3) := by decide +kernel
set_option maxRecDepth 20000 in
theorem dL_law_69 : decode cL_law 69 = .ok (.istore 8, 2) := by decide +kernel
set_option maxRecDepth 20000 in
theorem dL_law_71 : decode cL_law 71 = .ok (.aload_n 1, 1) := by decide +kernel
set_option maxRecDepth 20000 in
theorem dL_law_72 : decode cL_law 72 = .ok (.bipush 6, 2) := by decide +kernel
set_option maxRecDepth 20000 in
theorem dL_law_74 : decode cL_law 74 = .ok (.invokevirtual 31, 3) := by decide +kernel
set_option maxRecDepth 20000 in
theorem dL_law_77 : decode cL_law 77 = .ok (.istore 9, 2) := by decide +kernel
set_option maxRecDepth 20000 in
theorem dL_law_79 : decode cL_law 79 = .ok (.aload_n 1, 1) := by decide +kernel
set_option maxRecDepth 20000 in
theorem dL_law_80 : decode cL_law 80 = .ok (.iconst 3, 1) := by decide +kernel
set_option maxRecDepth 20000 in
theorem dL_law_81 : decode cL_law 81 = .ok (.invokevirtual 31, 3) := by decide +kernel
set_option maxRecDepth 20000 in
theorem dL_law_84 : decode cL_law 84 = .ok (.istore 10, 2) := by decide +kernel
set_option maxRecDepth 20000 in
theorem dL_law_86 : decode cL_law 86 = .ok (.aload_n 1, 1) := by decide +kernel
set_option maxRecDepth 20000 in
theorem dL_law_87 : decode cL_law 87 = .ok (.iconst 2, 1) := by decide +kernel
set_option maxRecDepth 20000 in
theorem dL_law_88 : decode cL_law 88 = .ok (.invokevirtual 31, 3) := by decide +kernel
set_option maxRecDepth 20000 in
theorem dL_law_91 : decode cL_law 91 = .ok (.istore 11, 2) := by decide +kernel
set_option maxRecDepth 20000 in
theorem dL_law_93 : decode cL_law 93 = .ok (.aload_n 0, 1) := by decide +kernel
set_option maxRecDepth 20000 in
theorem dL_law_94 : decode cL_law 94 = .ok (.iconst 3, 1) := by decide +kernel
set_option maxRecDepth 20000 in
theorem dL_law_95 : decode cL_law 95 = .ok (.iload 4, 2) := by decide +kernel
set_option maxRecDepth 20000 in
theorem dL_law_97 : decode cL_law 97 = .ok (.imul, 1) := by decide +kernel
set_option maxRecDepth 20000 in
theorem dL_law_98 : decode cL_law 98 = .ok (.invokestatic 59, 3) := by decide +kernel
set_option maxRecDepth 20000 in
theorem dL_law_101 : decode cL_law 101 = .ok (.bipush 24, 2) := by decide +kernel
set_option maxRecDepth 20000 in
theorem dL_law_103 : decode cL_law 103 = .ok (.invokestatic 65, 3) := by decide +kernel
set_option maxRecDepth 20000 in
theorem dL_law_106 : decode cL_law 106 = .ok (.istore 12, 2) := by decide +kernel
set_option maxRecDepth 20000 in
theorem dL_law_108 : decode cL_law 108 = .ok (.aload_n 0, 1) := by decide +kernel
set_option maxRecDepth 20000 in
theorem dL_law_109 : decode cL_law 109 = .ok (.iconst 3, 1) := by decide +kernel
set_option maxRecDepth 20000 in
theorem dL_law_110 : decode cL_law 110 = .ok (.iload 4, 2) := by decide +kernel
set_option maxRecDepth 20000 in
theorem dL_law_112 : decode cL_law 112 = .ok (.imul, 1) := by decide +kernel
set_option maxRecDepth 20000 in
theorem dL_law_113 : decode cL_law 113 = .ok (.iconst 2, 1) := by decide +kernel
set_option maxRecDepth 20000 in
theorem dL_law_114 : decode cL_law 114 = .ok (.iadd, 1) := by decide +kernel
set_option maxRecDepth 20000 in
theorem dL_law_115 : decode cL_law 115 = .ok (.invokestatic 59, 3) := by decide +kernel
set_option maxRecDepth 20000 in
theorem dL_law_118 : decode cL_law 118 = .ok (.bipush 24, 2) := by decide +kernel
set_option maxRecDepth 20000 in
theorem dL_law_120 : decode cL_law 120 = .ok (.invokestatic 65, 3) := by decide +kernel
set_option maxRecDepth 20000 in
theorem dL_law_123 : decode cL_law 123 = .ok (.istore 13, 2) := by decide +kernel
set_option maxRecDepth 20000 in
theorem dL_law_125 : decode cL_law 125 = .ok (.aload_n 1, 1) := by decide +kernel
set_option maxRecDepth 20000 in
theorem dL_law_126 : decode cL_law 126 = .ok (.iload 13, 2) := by decide +kernel
set_option maxRecDepth 20000 in
theorem dL_law_128 : decode cL_law 128 = .ok (.iconst 0, 1) := by decide +kernel
set_option maxRecDepth 20000 in
theorem dL_law_129 : decode cL_law 129 = .ok (.invokevirtual 50, 3) := by decide +kernel
set_option maxRecDepth 20000 in
theorem dL_law_132 : decode cL_law 132 = .ok (.istore 14, 2) := by decide +kernel
set_option maxRecDepth 20000 in
theorem dL_law_134 : decode cL_law 134 = .ok (.iload 14, 2) := by decide +kernel
set_option maxRecDepth 20000 in
theorem dL_law_136 : decode cL_law 136 = .ok (.ifCond .lt 18, 3) := by decide +kernel
set_option maxRecDepth 20000 in
theorem dL_law_139 : decode cL_law 139 = .ok (.aload_n 1, 1) := by decide +kernel
set_option maxRecDepth 20000 in
theorem dL_law_140 : decode cL_law 140 = .ok (.iload 14, 2) := by decide +kernel
set_option maxRecDepth 20000 in
theorem dL_law_142 : decode cL_law 142 = .ok (.iconst 1, 1) := by decide +kernel
set_option maxRecDepth 20000 in
theorem dL_law_143 : decode cL_law 143 = .ok (.invokevirtual 41, 3) := by decide +kernel
set_option maxRecDepth 20000 in
theorem dL_law_146 : decode cL_law 146 = .ok (.iconst 1, 1) := by decide +kernel
set_option maxRecDepth 20000 in
theorem dL_law_147 : decode cL_law 147 = .ok (.if_icmp .ne 7, 3) := by decide +kernel
set_option maxRecDepth 20000 in
theorem dL_law_150 : decode cL_law 150 = .ok (.iconst 1, 1) := by decide +kernel
set_option maxRecDepth 20000 in
theorem dL_law_151 : decode cL_law 151 = .ok (.goto 4, 3) := by decide +kernel
set_option maxRecDepth 20000 in
theorem dL_law_154 : decode cL_law 154 = .ok (.iconst 0, 1) := by decide +kernel
set_option maxRecDepth 20000 in
theorem dL_law_155 : decode cL_law 155 = .ok (.istore 15, 2) := by decide +kernel
set_option maxRecDepth 20000 in
theorem dL_law_157 : decode cL_law 157 = .ok (.aload_n 1, 1) := by decide +kernel
set_option maxRecDepth 20000 in
theorem dL_law_158 : decode cL_law 158 = .ok (.aload_n 0, 1) := by decide +kernel
set_option maxRecDepth 20000 in
theorem dL_law_159 : decode cL_law 159 = .ok (.iconst 3, 1) := by decide +kernel
set_option maxRecDepth 20000 in
theorem dL_law_160 : decode cL_law 160 = .ok (.iload 4, 2) := by decide +kernel
set_option maxRecDepth 20000 in
theorem dL_law_162 : decode cL_law 162 = .ok (.imul, 1) := by decide +kernel
set_option maxRecDepth 20000 in
theorem dL_law_163 : decode cL_law 163 = .ok (.invokestatic 101, 3) := by decide +kernel
set_option maxRecDepth 20000 in
theorem dL_law_166 : decode cL_law 166 = .ok (.istore 16, 2) := by decide +kernel
set_option maxRecDepth 20000 in
theorem dL_law_168 : decode cL_law 168 = .ok (.iload 16, 2) := by decide +kernel
set_option maxRecDepth 20000 in
theorem dL_law_170 : decode cL_law 170 = .ok (.bipush (-3), 2) := by decide +kernel
set_option maxRecDepth 20000 in
theorem dL_law_172 : decode cL_law 172 = .ok (.if_icmp .ne 44, 3) := by decide +kernel
set_option maxRecDepth 20000 in
theorem dL_law_175 : decode cL_law 175 = .ok (.aload_n 1, 1) := by decide +kernel
set_option maxRecDepth 20000 in
theorem dL_law_176 : decode cL_law 176 = .ok (.bipush 11, 2) := by decide +kernel
set_option maxRecDepth 20000 in
theorem dL_law_178 : decode cL_law 178 = .ok (.invokevirtual 31, 3) := by decide +kernel
set_option maxRecDepth 20000 in
theorem dL_law_181 : decode cL_law 181 = .ok (.iload 5, 2) := by decide +kernel
set_option maxRecDepth 20000 in
theorem dL_law_183 : decode cL_law 183 = .ok (.if_icmp .ne 37, 3) := by decide +kernel
set_option maxRecDepth 20000 in
theorem dL_law_186 : decode cL_law 186 = .ok (.aload_n 1, 1) := by decide +kernel
set_option maxRecDepth 20000 in
theorem dL_law_187 : decode cL_law 187 = .ok (.iconst 0, 1) := by decide +kernel
set_option maxRecDepth 20000 in
theorem dL_law_188 : decode cL_law 188 = .ok (.invokevirtual 31, 3) := by decide +kernel
set_option maxRecDepth 20000 in
theorem dL_law_191 : decode cL_law 191 = .ok (.iload 6, 2) := by decide +kernel
set_option maxRecDepth 20000 in
theorem dL_law_193 : decode cL_law 193 = .ok (.if_icmp .ne 27, 3) := by decide +kernel
set_option maxRecDepth 20000 in
theorem dL_law_196 : decode cL_law 196 = .ok (.aload_n 1, 1) := by decide +kernel
set_option maxRecDepth 20000 in
theorem dL_law_197 : decode cL_law 197 = .ok (.iconst 3, 1) := by decide +kernel
set_option maxRecDepth 20000 in
theorem dL_law_198 : decode cL_law 198 = .ok (.invokevirtual 31, 3) := by decide +kernel
set_option maxRecDepth 20000 in
theorem dL_law_201 : decode cL_law 201 = .ok (.iload 10, 2) := by decide +kernel
set_option maxRecDepth 20000 in
theorem dL_law_203 : decode cL_law 203 = .ok (.if_icmp .ne 17, 3) := by decide +kernel
set_option maxRecDepth 20000 in
theorem dL_law_206 : decode cL_law 206 = .ok (.aload_n 1, 1) := by decide +kernel
set_option maxRecDepth 20000 in
theorem dL_law_207 : decode cL_law 207 = .ok (.iconst 2, 1) := by decide +kernel
set_option maxRecDepth 20000 in
theorem dL_law_208 : decode cL_law 208 = .ok (.invokevirtual 31, 3) := by decide +kernel
set_option maxRecDepth 20000 in
theorem dL_law_211 : decode cL_law 211 = .ok (.iload 11, 2) := by decide +kernel
set_option maxRecDepth 20000 in
theorem dL_law_213 : decode cL_law 213 = .ok (.if_icmp .ne 7, 3) := by decide +kernel
set_option maxRecDepth 20000 in
theorem dL_law_216 : decode cL_law 216 = .ok (.iconst 1, 1) := by decide +kernel
set_option maxRecDepth 20000 in
theorem dL_law_217 : decode cL_law 217 = .ok (.goto 4, 3) := by decide +kernel
set_option maxRecDepth 20000 in
theorem dL_law_220 : decode cL_law 220 = .ok (.iconst 0, 1) := by decide +kernel
set_option maxRecDepth 20000 in
theorem dL_law_221 : decode cL_law 221 = .ok (.istore_n 2, 1) := by decide +kernel
set_option maxRecDepth 20000 in
theorem dL_law_222 : decode cL_law 222 = .ok (.iload 12, 2) := by decide +kernel
set_option maxRecDepth 20000 in
theorem dL_law_224 : decode cL_law 224 = .ok (.bipush 17, 2) := by decide +kernel
set_option maxRecDepth 20000 in
theorem dL_law_226 : decode cL_law 226 = .ok (.if_icmp .eq 10, 3) := by decide +kernel
set_option maxRecDepth 20000 in
theorem dL_law_229 : decode cL_law 229 = .ok (.iload 12, 2) := by decide +kernel
set_option maxRecDepth 20000 in
theorem dL_law_231 : decode cL_law 231 = .ok (.bipush 18, 2) := by decide +kernel
set_option maxRecDepth 20000 in
theorem dL_law_233 : decode cL_law 233 = .ok (.if_icmp .ne 98, 3) := by decide +kernel
set_option maxRecDepth 20000 in
theorem dL_law_236 : decode cL_law 236 = .ok (.iload_n 2, 1) := by decide +kernel
set_option maxRecDepth 20000 in
theorem dL_law_237 : decode cL_law 237 = .ok (.ifCond .eq 92, 3) := by decide +kernel
set_option maxRecDepth 20000 in
theorem dL_law_240 : decode cL_law 240 = .ok (.iload 16, 2) := by decide +kernel
set_option maxRecDepth 20000 in
theorem dL_law_242 : decode cL_law 242 = .ok (.iload 14, 2) := by decide +kernel
set_option maxRecDepth 20000 in
theorem dL_law_244 : decode cL_law 244 = .ok (.if_icmp .ne 85, 3) := by decide +kernel
set_option maxRecDepth 20000 in
theorem dL_law_247 : decode cL_law 247 = .ok (.aload_n 1, 1) := by decide +kernel
set_option maxRecDepth 20000 in
theorem dL_law_248 : decode cL_law 248 = .ok (.iconst 5, 1) := by decide +kernel
set_option maxRecDepth 20000 in
theorem dL_law_249 : decode cL_law 249 = .ok (.invokevirtual 31, 3) := by decide +kernel
set_option maxRecDepth 20000 in
theorem dL_law_252 : decode cL_law 252 = .ok (.iload 8, 2) := by decide +kernel
set_option maxRecDepth 20000 in
theorem dL_law_254 : decode cL_law 254 = .ok (.iload 14, 2) := by decide +kernel
set_option maxRecDepth 20000 in
theorem dL_law_256 : decode cL_law 256 = .ok (.ifCond .lt 7, 3) := by decide +kernel
set_option maxRecDepth 20000 in
theorem dL_law_259 : decode cL_law 259 = .ok (.iconst 1, 1) := by decide +kernel
set_option maxRecDepth 20000 in
theorem dL_law_260 : decode cL_law 260 = .ok (.goto 4, 3) := by decide +kernel
set_option maxRecDepth 20000 in
theorem dL_law_263 : decode cL_law 263 = .ok (.iconst 0, 1) := by decide +kernel
set_option maxRecDepth 20000 in
theorem dL_law_264 : decode cL_law 264 = .ok (.iadd, 1) := by decide +kernel
set_option maxRecDepth 20000 in
theorem dL_law_265 : decode cL_law 265 = .ok (.if_icmp .ne 64, 3) := by decide +kernel
set_option maxRecDepth 20000 in
theorem dL_law_268 : decode cL_law 268 = .ok (.aload_n 1, 1) := by decide +kernel
set_option maxRecDepth 20000 in
theorem dL_law_269 : decode cL_law 269 = .ok (.bipush 6, 2) := by decide +kernel
set_option maxRecDepth 20000 in
theorem dL_law_271 : decode cL_law 271 = .ok (.invokevirtual 31, 3) := by decide +kernel
set_option maxRecDepth 20000 in
theorem dL_law_274 : decode cL_law 274 = .ok (.iload 9, 2) := by decide +kernel
set_option maxRecDepth 20000 in
theorem dL_law_276 : decode cL_law 276 = .ok (.iload 14, 2) := by decide +kernel
set_option maxRecDepth 20000 in
theorem dL_law_278 : decode cL_law 278 = .ok (.ifCond .lt 12, 3) := by decide +kernel
set_option maxRecDepth 20000 in
theorem dL_law_281 : decode cL_law 281 = .ok (.iload 15, 2) := by decide +kernel
set_option maxRecDepth 20000 in
theorem dL_law_283 : decode cL_law 283 = .ok (.ifCond .ne 7, 3) := by decide +kernel
set_option maxRecDepth 20000 in
theorem dL_law_286 : decode cL_law 286 = .ok (.iconst 1, 1) := by decide +kernel
set_option maxRecDepth 20000 in
theorem dL_law_287 : decode cL_law 287 = .ok (.goto 4, 3) := by decide +kernel
set_option maxRecDepth 20000 in
theorem dL_law_290 : decode cL_law 290 = .ok (.iconst 0, 1) := by decide +kernel
set_option maxRecDepth 20000 in
theorem dL_law_291 : decode cL_law 291 = .ok (.iadd, 1) := by decide +kernel
set_option maxRecDepth 20000 in
theorem dL_law_292 : decode cL_law 292 = .ok (.if_icmp .ne 37, 3) := by decide +kernel
set_option maxRecDepth 20000 in
theorem dL_law_295 : decode cL_law 295 = .ok (.aload_n 1, 1) := by decide +kernel
set_option maxRecDepth 20000 in
theorem dL_law_296 : decode cL_law 296 = .ok (.iconst 0, 1) := by decide +kernel
set_option maxRecDepth 20000 in
theorem dL_law_297 : decode cL_law 297 = .ok (.invokevirtual 31, 3) := by decide +kernel
set_option maxRecDepth 20000 in
theorem dL_law_300 : decode cL_law 300 = .ok (.iload 6, 2) := by decide +kernel
set_option maxRecDepth 20000 in
theorem dL_law_302 : decode cL_law 302 = .ok (.iload 14, 2) := by decide +kernel
set_option maxRecDepth 20000 in
theorem dL_law_304 : decode cL_law 304 = .ok (.ifCond .ge 7, 3) := by decide +kernel
set_option maxRecDepth 20000 in
theorem dL_law_307 : decode cL_law 307 = .ok (.iconst 0, 1) := by decide +kernel
set_option maxRecDepth 20000 in
theorem dL_law_308 : decode cL_law 308 = .ok (.goto 13, 3) := by decide +kernel
set_option maxRecDepth 20000 in
theorem dL_law_311 : decode cL_law 311 = .ok (.iload 15, 2) := by decide +kernel
set_option maxRecDepth 20000 in
theorem dL_law_313 : decode cL_law 313 = .ok (.ifCond .eq 7, 3) := by decide +kernel
set_option maxRecDepth 20000 in
theorem dL_law_316 : decode cL_law 316 = .ok (.iconst 1, 1) := by decide +kernel
set_option maxRecDepth 20000 in
theorem dL_law_317 : decode cL_law 317 = .ok (.goto 4, 3) := by decide +kernel
set_option maxRecDepth 20000 in
theorem dL_law_320 : decode cL_law 320 = .ok (.iconst 3, 1) := by decide +kernel
set_option maxRecDepth 20000 in
theorem dL_law_321 : decode cL_law 321 = .ok (.iadd, 1) := by decide +kernel
set_option maxRecDepth 20000 in
theorem dL_law_322 : decode cL_law 322 = .ok (.if_icmp .ne 7, 3) := by decide +kernel
set_option maxRecDepth 20000 in
theorem dL_law_325 : decode cL_law 325 = .ok (.iconst 1, 1) := by decide +kernel
set_option maxRecDepth 20000 in
theorem dL_law_326 : decode cL_law 326 = .ok (.goto 4, 3) := by decide +kernel
set_option maxRecDepth 20000 in
theorem dL_law_329 : decode cL_law 329 = .ok (.iconst 0, 1) := by decide +kernel
set_option maxRecDepth 20000 in
theorem dL_law_330 : decode cL_law 330 = .ok (.istore_n 2, 1) := by decide +kernel
set_option maxRecDepth 20000 in
theorem dL_law_331 : decode cL_law 331 = .ok (.iload 12, 2) := by decide +kernel
set_option maxRecDepth 20000 in
theorem dL_law_333 : decode cL_law 333 = .ok (.bipush 20, 2) := by decide +kernel
set_option maxRecDepth 20000 in
theorem dL_law_335 : decode cL_law 335 = .ok (.if_icmp .le 203, 3) := by decide +kernel
set_option maxRecDepth 20000 in
theorem dL_law_338 : decode cL_law 338 = .ok (.aload_n 1, 1) := by decide +kernel
set_option maxRecDepth 20000 in
theorem dL_law_339 : decode cL_law 339 = .ok (.iconst 0, 1) := by decide +kernel
set_option maxRecDepth 20000 in
theorem dL_law_340 : decode cL_law 340 = .ok (.invokevirtual 31, 3) := by decide +kernel
set_option maxRecDepth 20000 in
theorem dL_law_343 : decode cL_law 343 = .ok (.iload 6, 2) := by decide +kernel
set_option maxRecDepth 20000 in
theorem dL_law_345 : decode cL_law 345 = .ok (.isub, 1) := by decide +kernel
set_option maxRecDepth 20000 in
theorem dL_law_346 : decode cL_law 346 = .ok (.istore 17, 2) := by decide +kernel
set_option maxRecDepth 20000 in
theorem dL_law_348 : decode cL_law 348 = .ok (.iload_n 2, 1) := by decide +kernel
set_option maxRecDepth 20000 in
theorem dL_law_349 : decode cL_law 349 = .ok (.ifCond .eq 66, 3) := by decide +kernel
set_option maxRecDepth 20000 in
theorem dL_law_352 : decode cL_law 352 = .ok (.iload 17, 2) := by decide +kernel
set_option maxRecDepth 20000 in
theorem dL_law_354 : decode cL_law 354 = .ok (.iconst 1, 1) := by decide +kernel
set_option maxRecDepth 20000 in
theorem dL_law_355 : decode cL_law 355 = .ok (.if_icmp .lt 60, 3) := by decide +kernel
set_option maxRecDepth 20000 in
theorem dL_law_358 : decode cL_law 358 = .ok (.iload 17, 2) := by decide +kernel
set_option maxRecDepth 20000 in
theorem dL_law_360 : decode cL_law 360 = .ok (.bipush 20, 2) := by decide +kernel
set_option maxRecDepth 20000 in
theorem dL_law_362 : decode cL_law 362 = .ok (.if_icmp .gt 53, 3) := by decide +kernel
set_option maxRecDepth 20000 in
theorem dL_law_365 : decode cL_law 365 = .ok (.aload_n 1, 1) := by decide +kernel
set_option maxRecDepth 20000 in
theorem dL_law_366 : decode cL_law 366 = .ok (.iconst 4, 1) := by decide +kernel
set_option maxRecDepth 20000 in
theorem dL_law_367 : decode cL_law 367 = .ok (.invokevirtual 31, 3) := by decide +kernel
set_option maxRecDepth 20000 in
theorem dL_law_370 : decode cL_law 370 = .ok (.iload 7, 2) := by decide +kernel
set_option maxRecDepth 20000 in
theorem dL_law_372 : decode cL_law 372 = .ok (.iload 16, 2) := by decide +kernel
set_option maxRecDepth 20000 in
theorem dL_law_374 : decode cL_law 374 = .ok (.iadd, 1) := by decide +kernel
set_option maxRecDepth 20000 in
theorem dL_law_375 : decode cL_law 375 = .ok (.if_icmp .ne 40, 3) := by decide +kernel
set_option maxRecDepth 20000 in
theorem dL_law_378 : decode cL_law 378 = .ok (.aload_n 1, 1) := by decide +kernel
set_option maxRecDepth 20000 in
theorem dL_law_379 : decode cL_law 379 = .ok (.iconst 3, 1) := by decide +kernel
set_option maxRecDepth 20000 in
theorem dL_law_380 : decode cL_law 380 = .ok (.invokevirtual 31, 3) := by decide +kernel
set_option maxRecDepth 20000 in
theorem dL_law_383 : decode cL_law 383 = .ok (.iload 10, 2) := by decide +kernel
set_option maxRecDepth 20000 in
theorem dL_law_385 : decode cL_law 385 = .ok (.iload 16, 2) := by decide +kernel
set_option maxRecDepth 20000 in
theorem dL_law_387 : decode cL_law 387 = .ok (.isub, 1) := by decide +kernel
set_option maxRecDepth 20000 in
theorem dL_law_388 : decode cL_law 388 = .ok (.if_icmp .ne 27, 3) := by decide +kernel
set_option maxRecDepth 20000 in
theorem dL_law_391 : decode cL_law 391 = .ok (.aload_n 1, 1) := by decide +kernel
set_option maxRecDepth 20000 in
theorem dL_law_392 : decode cL_law 392 = .ok (.bipush 8, 2) := by decide +kernel
set_option maxRecDepth 20000 in
theorem dL_law_394 : decode cL_law 394 = .ok (.invokevirtual 31, 3) := by decide +kernel
set_option maxRecDepth 20000 in
theorem dL_law_397 : decode cL_law 397 = .ok (.iconst (-1), 1) := by decide +kernel
set_option maxRecDepth 20000 in
theorem dL_law_398 : decode cL_law 398 = .ok (.if_icmp .ne 17, 3) := by decide +kernel
set_option maxRecDepth 20000 in
theorem dL_law_401 : decode cL_law 401 = .ok (.aload_n 1, 1) := by decide +kernel
set_option maxRecDepth 20000 in
theorem dL_law_402 : decode cL_law 402 = .ok (.iconst 2, 1) := by decide +kernel
set_option maxRecDepth 20000 in
theorem dL_law_403 : decode cL_law 403 = .ok (.invokevirtual 31, 3) := by decide +kernel
set_option maxRecDepth 20000 in
theorem dL_law_406 : decode cL_law 406 = .ok (.iload 11, 2) := by decide +kernel
set_option maxRecDepth 20000 in
theorem dL_law_408 : decode cL_law 408 = .ok (.if_icmp .gt 7, 3) := by decide +kernel
set_option maxRecDepth 20000 in
theorem dL_law_411 : decode cL_law 411 = .ok (.iconst 1, 1) := by decide +kernel
set_option maxRecDepth 20000 in
theorem dL_law_412 : decode cL_law 412 = .ok (.goto 4, 3) := by decide +kernel
set_option maxRecDepth 20000 in
theorem dL_law_415 : decode cL_law 415 = .ok (.iconst 0, 1) := by decide +kernel
set_option maxRecDepth 20000 in
theorem dL_law_416 : decode cL_law 416 = .ok (.istore_n 2, 1) := by decide +kernel
set_option maxRecDepth 20000 in
theorem dL_law_417 : decode cL_law 417 = .ok (.iconst 0, 1) := by decide +kernel
set_option maxRecDepth 20000 in
theorem dL_law_418 : decode cL_law 418 = .ok (.istore 18, 2) := by decide +kernel
set_option maxRecDepth 20000 in
theorem dL_law_420 : decode cL_law 420 = .ok (.iload 18, 2) := by decide +kernel
set_option maxRecDepth 20000 in
theorem dL_law_422 : decode cL_law 422 = .ok (.bipush 24, 2) := by decide +kernel
set_option maxRecDepth 20000 in
theorem dL_law_424 : decode cL_law 424 = .ok (.if_icmp .ge 114, 3) := by decide +kernel
set_option maxRecDepth 20000 in
theorem dL_law_427 : decode cL_law 427 = .ok (.iload_n 2, 1) := by decide +kernel
set_option maxRecDepth 20000 in
theorem dL_law_428 : decode cL_law 428 = .ok (.ifCond .eq 110, 3) := by decide +kernel
set_option maxRecDepth 20000 in
theorem dL_law_431 : decode cL_law 431 = .ok (.aload_n 1, 1) := by decide +kernel
set_option maxRecDepth 20000 in
theorem dL_law_432 : decode cL_law 432 = .ok (.iload 18, 2) := by decide +kernel
set_option maxRecDepth 20000 in
theorem dL_law_434 : decode cL_law 434 = .ok (.iconst 0, 1) := by decide +kernel
set_option maxRecDepth 20000 in
theorem dL_law_435 : decode cL_law 435 = .ok (.invokevirtual 50, 3) := by decide +kernel
set_option maxRecDepth 20000 in
theorem dL_law_438 : decode cL_law 438 = .ok (.ifCond .ge 33, 3) := by decide +kernel
set_option maxRecDepth 20000 in
theorem dL_law_441 : decode cL_law 441 = .ok (.aload_n 1, 1) := by decide +kernel
set_option maxRecDepth 20000 in
theorem dL_law_442 : decode cL_law 442 = .ok (.iload 18, 2) := by decide +kernel
set_option maxRecDepth 20000 in
theorem dL_law_444 : decode cL_law 444 = .ok (.iconst 1, 1) := by decide +kernel
set_option maxRecDepth 20000 in
theorem dL_law_445 : decode cL_law 445 = .ok (.invokevirtual 50, 3) := by decide +kernel
set_option maxRecDepth 20000 in
theorem dL_law_448 : decode cL_law 448 = .ok (.iconst (-1), 1) := by decide +kernel
set_option maxRecDepth 20000 in
theorem dL_law_449 : decode cL_law 449 = .ok (.if_icmp .ne 18, 3) := by decide +kernel
set_option maxRecDepth 20000 in
theorem dL_law_452 : decode cL_law 452 = .ok (.aload_n 1, 1) := by decide +kernel
set_option maxRecDepth 20000 in
theorem dL_law_453 : decode cL_law 453 = .ok (.iload 18, 2) := by decide +kernel
set_option maxRecDepth 20000 in
theorem dL_law_455 : decode cL_law 455 = .ok (.iconst 2, 1) := by decide +kernel
set_option maxRecDepth 20000 in
theorem dL_law_456 : decode cL_law 456 = .ok (.invokevirtual 50, 3) := by decide +kernel
set_option maxRecDepth 20000 in
theorem dL_law_459 : decode cL_law 459 = .ok (.iconst (-1), 1) := by decide +kernel
set_option maxRecDepth 20000 in
theorem dL_law_460 : decode cL_law 460 = .ok (.if_icmp .ne 7, 3) := by decide +kernel
set_option maxRecDepth 20000 in
theorem dL_law_463 : decode cL_law 463 = .ok (.iconst 1, 1) := by decide +kernel
set_option maxRecDepth 20000 in
theorem dL_law_464 : decode cL_law 464 = .ok (.goto 67, 3) := by decide +kernel
set_option maxRecDepth 20000 in
theorem dL_law_467 : decode cL_law 467 = .ok (.iconst 0, 1) := by decide +kernel
set_option maxRecDepth 20000 in
theorem dL_law_468 : decode cL_law 468 = .ok (.goto 63, 3) := by decide +kernel
set_option maxRecDepth 20000 in
theorem dL_law_471 : decode cL_law 471 = .ok (.aload_n 1, 1) := by decide +kernel
set_option maxRecDepth 20000 in
theorem dL_law_472 : decode cL_law 472 = .ok (.iload 18, 2) := by decide +kernel
set_option maxRecDepth 20000 in
theorem dL_law_474 : decode cL_law 474 = .ok (.iconst 1, 1) := by decide +kernel
set_option maxRecDepth 20000 in
theorem dL_law_475 : decode cL_law 475 = .ok (.invokevirtual 50, 3) := by decide +kernel
set_option maxRecDepth 20000 in
theorem dL_law_478 : decode cL_law 478 = .ok (.ifCond .ne 7, 3) := by decide +kernel
set_option maxRecDepth 20000 in
theorem dL_law_481 : decode cL_law 481 = .ok (.iconst 1, 1) := by decide +kernel
set_option maxRecDepth 20000 in
theorem dL_law_482 : decode cL_law 482 = .ok (.goto 4, 3) := by decide +kernel
set_option maxRecDepth 20000 in
theorem dL_law_485 : decode cL_law 485 = .ok (.iconst 0, 1) := by decide +kernel
set_option maxRecDepth 20000 in
theorem dL_law_486 : decode cL_law 486 = .ok (.aload_n 1, 1) := by decide +kernel
set_option maxRecDepth 20000 in
theorem dL_law_487 : decode cL_law 487 = .ok (.aload_n 1, 1) := by decide +kernel
set_option maxRecDepth 20000 in
theorem dL_law_488 : decode cL_law 488 = .ok (.iload 18, 2) := by decide +kernel
set_option maxRecDepth 20000 in
theorem dL_law_490 : decode cL_law 490 = .ok (.iconst 0, 1) := by decide +kernel
set_option maxRecDepth 20000 in
theorem dL_law_491 : decode cL_law 491 = .ok (.invokevirtual 50, 3) := by decide +kernel
set_option maxRecDepth 20000 in
theorem dL_law_494 : decode cL_law 494 = .ok (.iconst 1, 1) := by decide +kernel
set_option maxRecDepth 20000 in
theorem dL_law_495 : decode cL_law 495 = .ok (.invokevirtual 41, 3) := by decide +kernel
set_option maxRecDepth 20000 in
theorem dL_law_498 : decode cL_law 498 = .ok (.iconst 1, 1) := by decide +kernel
set_option maxRecDepth 20000 in
theorem dL_law_499 : decode cL_law 499 = .ok (.if_icmp .ne 7, 3) := by decide +kernel
set_option maxRecDepth 20000 in
theorem dL_law_502 : decode cL_law 502 = .ok (.iconst 1, 1) := by decide +kernel
set_option maxRecDepth 20000 in
theorem dL_law_503 : decode cL_law 503 = .ok (.goto 4, 3) := by decide +kernel
set_option maxRecDepth 20000 in
theorem dL_law_506 : decode cL_law 506 = .ok (.iconst 0, 1) := by decide +kernel
set_option maxRecDepth 20000 in
theorem dL_law_507 : decode cL_law 507 = .ok (.if_icmp .ne 23, 3) := by decide +kernel
set_option maxRecDepth 20000 in
theorem dL_law_510 : decode cL_law 510 = .ok (.aload_n 1, 1) := by decide +kernel
set_option maxRecDepth 20000 in
theorem dL_law_511 : decode cL_law 511 = .ok (.iload 18, 2) := by decide +kernel
set_option maxRecDepth 20000 in
theorem dL_law_513 : decode cL_law 513 = .ok (.iconst 1, 1) := by decide +kernel
set_option maxRecDepth 20000 in
theorem dL_law_514 : decode cL_law 514 = .ok (.invokevirtual 50, 3) := by decide +kernel
set_option maxRecDepth 20000 in
theorem dL_law_517 : decode cL_law 517 = .ok (.aload_n 1, 1) := by decide +kernel
set_option maxRecDepth 20000 in
theorem dL_law_518 : decode cL_law 518 = .ok (.bipush 10, 2) := by decide +kernel
set_option maxRecDepth 20000 in
theorem dL_law_520 : decode cL_law 520 = .ok (.invokevirtual 31, 3) := by decide +kernel
set_option maxRecDepth 20000 in
theorem dL_law_523 : decode cL_law 523 = .ok (.if_icmp .ge 7, 3) := by decide +kernel
set_option maxRecDepth 20000 in
theorem dL_law_526 : decode cL_law 526 = .ok (.iconst 1, 1) := by decide +kernel
set_option maxRecDepth 20000 in
theorem dL_law_527 : decode cL_law 527 = .ok (.goto 4, 3) := by decide +kernel
set_option maxRecDepth 20000 in
theorem dL_law_530 : decode cL_law 530 = .ok (.iconst 0, 1) := by decide +kernel
set_option maxRecDepth 20000 in
theorem dL_law_531 : decode cL_law 531 = .ok (.istore_n 2, 1) := by decide +kernel
set_option maxRecDepth 20000 in
theorem dL_law_532 : decode cL_law 532 = .ok (.iinc 18 1, 3) := by decide +kernel
set_option maxRecDepth 20000 in
theorem dL_law_535 : decode cL_law 535 = .ok (.goto (-115), 3) := by decide +kernel
set_option maxRecDepth 20000 in
theorem dL_law_538 : decode cL_law 538 = .ok (.iload_n 2, 1) := by decide +kernel
set_option maxRecDepth 20000 in
theorem dL_law_539 : decode cL_law 539 = .ok (.ifCond .eq 69, 3) := by decide +kernel
set_option maxRecDepth 20000 in
theorem dL_law_542 : decode cL_law 542 = .ok (.iload 12, 2) := by decide +kernel
set_option maxRecDepth 20000 in
theorem dL_law_544 : decode cL_law 544 = .ok (.iconst 2, 1) := by decide +kernel
set_option maxRecDepth 20000 in
theorem dL_law_545 : decode cL_law 545 = .ok (.if_icmp .gt 22, 3) := by decide +kernel
set_option maxRecDepth 20000 in
theorem dL_law_548 : decode cL_law 548 = .ok (.iload 16, 2) := by decide +kernel
set_option maxRecDepth 20000 in
theorem dL_law_550 : decode cL_law 550 = .ok (.ifCond .lt 17, 3) := by decide +kernel
set_option maxRecDepth 20000 in
theorem dL_law_553 : decode cL_law 553 = .ok (.aload_n 1, 1) := by decide +kernel
set_option maxRecDepth 20000 in
theorem dL_law_554 : decode cL_law 554 = .ok (.iconst 2, 1) := by decide +kernel
set_option maxRecDepth 20000 in
theorem dL_law_555 : decode cL_law 555 = .ok (.invokevirtual 31, 3) := by decide +kernel
set_option maxRecDepth 20000 in
theorem dL_law_558 : decode cL_law 558 = .ok (.iconst 1, 1) := by decide +kernel
set_option maxRecDepth 20000 in
theorem dL_law_559 : decode cL_law 559 = .ok (.if_icmp .ne 49, 3) := by decide +kernel
set_option maxRecDepth 20000 in
theorem dL_law_562 : decode cL_law 562 = .ok (.iload 11, 2) := by decide +kernel
set_option maxRecDepth 20000 in
theorem dL_law_564 : decode cL_law 564 = .ok (.ifCond .ne 44, 3) := by decide +kernel
set_option maxRecDepth 20000 in
theorem dL_law_567 : decode cL_law 567 = .ok (.iload 12, 2) := by decide +kernel
set_option maxRecDepth 20000 in
theorem dL_law_569 : decode cL_law 569 = .ok (.iconst 3, 1) := by decide +kernel
set_option maxRecDepth 20000 in
theorem dL_law_570 : decode cL_law 570 = .ok (.if_icmp .lt 27, 3) := by decide +kernel
set_option maxRecDepth 20000 in
theorem dL_law_573 : decode cL_law 573 = .ok (.iload 12, 2) := by decide +kernel
set_option maxRecDepth 20000 in
theorem dL_law_575 : decode cL_law 575 = .ok (.bipush 6, 2) := by decide +kernel
set_option maxRecDepth 20000 in
theorem dL_law_577 : decode cL_law 577 = .ok (.if_icmp .gt 20, 3) := by decide +kernel
set_option maxRecDepth 20000 in
theorem dL_law_580 : decode cL_law 580 = .ok (.iload 16, 2) := by decide +kernel
set_option maxRecDepth 20000 in
theorem dL_law_582 : decode cL_law 582 = .ok (.ifCond .lt 15, 3) := by decide +kernel
set_option maxRecDepth 20000 in
theorem dL_law_585 : decode cL_law 585 = .ok (.aload_n 1, 1) := by decide +kernel
set_option maxRecDepth 20000 in
theorem dL_law_586 : decode cL_law 586 = .ok (.iconst 2, 1) := by decide +kernel
set_option maxRecDepth 20000 in
theorem dL_law_587 : decode cL_law 587 = .ok (.invokevirtual 31, 3) := by decide +kernel
set_option maxRecDepth 20000 in
theorem dL_law_590 : decode cL_law 590 = .ok (.iload 11, 2) := by decide +kernel
set_option maxRecDepth 20000 in
theorem dL_law_592 : decode cL_law 592 = .ok (.iconst 1, 1) := by decide +kernel
set_option maxRecDepth 20000 in
theorem dL_law_593 : decode cL_law 593 = .ok (.iadd, 1) := by decide +kernel
set_option maxRecDepth 20000 in
theorem dL_law_594 : decode cL_law 594 = .ok (.if_icmp .ne 14, 3) := by decide +kernel
set_option maxRecDepth 20000 in
theorem dL_law_597 : decode cL_law 597 = .ok (.aload_n 1, 1) := by decide +kernel
set_option maxRecDepth 20000 in
theorem dL_law_598 : decode cL_law 598 = .ok (.invokestatic 105, 3) := by decide +kernel
set_option maxRecDepth 20000 in
theorem dL_law_601 : decode cL_law 601 = .ok (.ifCond .eq 7, 3) := by decide +kernel
set_option maxRecDepth 20000 in
theorem dL_law_604 : decode cL_law 604 = .ok (.iconst 1, 1) := by decide +kernel
set_option maxRecDepth 20000 in
theorem dL_law_605 : decode cL_law 605 = .ok (.goto 4, 3) := by decide +kernel
set_option maxRecDepth 20000 in
theorem dL_law_608 : decode cL_law 608 = .ok (.iconst 0, 1) := by decide +kernel
set_option maxRecDepth 20000 in
theorem dL_law_609 : decode cL_law 609 = .ok (.istore_n 2, 1) := by decide +kernel
set_option maxRecDepth 20000 in
theorem dL_law_610 : decode cL_law 610 = .ok (.iinc 4 1, 3) := by decide +kernel
set_option maxRecDepth 20000 in
theorem dL_law_613 : decode cL_law 613 = .ok (.goto (-581), 3) := by decide +kernel
set_option maxRecDepth 20000 in
theorem dL_law_616 : decode cL_law 616 = .ok (.iconst 0, 1) := by decide +kernel
set_option maxRecDepth 20000 in
theorem dL_law_617 : decode cL_law 617 = .ok (.istore 4, 2) := by decide +kernel
set_option maxRecDepth 20000 in
theorem dL_law_619 : decode cL_law 619 = .ok (.iload 4, 2) := by decide +kernel
set_option maxRecDepth 20000 in
theorem dL_law_621 : decode cL_law 621 = .ok (.iconst 5, 1) := by decide +kernel
set_option maxRecDepth 20000 in
theorem dL_law_622 : decode cL_law 622 = .ok (.if_icmp .ge 19, 3) := by decide +kernel
set_option maxRecDepth 20000 in
theorem dL_law_625 : decode cL_law 625 = .ok (.aload_n 1, 1) := by decide +kernel
set_option maxRecDepth 20000 in
theorem dL_law_626 : decode cL_law 626 = .ok (.iload 4, 2) := by decide +kernel
set_option maxRecDepth 20000 in
theorem dL_law_628 : decode cL_law 628 = .ok (.iconst 1, 1) := by decide +kernel
set_option maxRecDepth 20000 in
theorem dL_law_629 : decode cL_law 629 = .ok (.invokevirtual 41, 3) := by decide +kernel
set_option maxRecDepth 20000 in
theorem dL_law_632 : decode cL_law 632 = .ok (.ifCond .ne 9, 3) := by decide +kernel
set_option maxRecDepth 20000 in
theorem dL_law_635 : decode cL_law 635 = .ok (.iinc 4 1, 3) := by decide +kernel
set_option maxRecDepth 20000 in
theorem dL_law_638 : decode cL_law 638 = .ok (.goto (-19), 3) := by decide +kernel
set_option maxRecDepth 20000 in
theorem dL_law_641 : decode cL_law 641 = .ok (.aload_n 1, 1) := by decide +kernel
set_option maxRecDepth 20000 in
theorem dL_law_642 : decode cL_law 642 = .ok (.iload 4, 2) := by decide +kernel
set_option maxRecDepth 20000 in
theorem dL_law_644 : decode cL_law 644 = .ok (.invokevirtual 47, 3) := by decide +kernel
set_option maxRecDepth 20000 in
theorem dL_law_647 : decode cL_law 647 = .ok (.istore 5, 2) := by decide +kernel
set_option maxRecDepth 20000 in
theorem dL_law_649 : decode cL_law 649 = .ok (.iload_n 2, 1) := by decide +kernel
set_option maxRecDepth 20000 in
theorem dL_law_650 : decode cL_law 650 = .ok (.ifCond .eq 38, 3) := by decide +kernel
set_option maxRecDepth 20000 in
theorem dL_law_653 : decode cL_law 653 = .ok (.iload 5, 2) := by decide +kernel
set_option maxRecDepth 20000 in
theorem dL_law_655 : decode cL_law 655 = .ok (.ifCond .le 33, 3) := by decide +kernel
set_option maxRecDepth 20000 in
theorem dL_law_658 : decode cL_law 658 = .ok (.iload 5, 2) := by decide +kernel
set_option maxRecDepth 20000 in
theorem dL_law_660 : decode cL_law 660 = .ok (.bipush 60, 2) := by decide +kernel
set_option maxRecDepth 20000 in
theorem dL_law_662 : decode cL_law 662 = .ok (.if_icmp .gt 26, 3) := by decide +kernel
set_option maxRecDepth 20000 in
theorem dL_law_665 : decode cL_law 665 = .ok (.aload_n 1, 1) := by decide +kernel
set_option maxRecDepth 20000 in
theorem dL_law_666 : decode cL_law 666 = .ok (.iload 5, 2) := by decide +kernel
set_option maxRecDepth 20000 in
theorem dL_law_668 : decode cL_law 668 = .ok (.invokevirtual 97, 3) := by decide +kernel
set_option maxRecDepth 20000 in
theorem dL_law_671 : decode cL_law 671 = .ok (.pop, 1) := by decide +kernel
set_option maxRecDepth 20000 in
theorem dL_law_672 : decode cL_law 672 = .ok (.aload_n 1, 1) := by decide +kernel
set_option maxRecDepth 20000 in
theorem dL_law_673 : decode cL_law 673 = .ok (.iload 4, 2) := by decide +kernel
set_option maxRecDepth 20000 in
theorem dL_law_675 : decode cL_law 675 = .ok (.iconst 1, 1) := by decide +kernel
set_option maxRecDepth 20000 in
theorem dL_law_676 : decode cL_law 676 = .ok (.invokevirtual 41, 3) := by decide +kernel
set_option maxRecDepth 20000 in
theorem dL_law_679 : decode cL_law 679 = .ok (.ifCond .ne 7, 3) := by decide +kernel
set_option maxRecDepth 20000 in
theorem dL_law_682 : decode cL_law 682 = .ok (.iconst 1, 1) := by decide +kernel
set_option maxRecDepth 20000 in
theorem dL_law_683 : decode cL_law 683 = .ok (.goto 4, 3) := by decide +kernel
set_option maxRecDepth 20000 in
theorem dL_law_686 : decode cL_law 686 = .ok (.iconst 0, 1) := by decide +kernel
set_option maxRecDepth 20000 in
theorem dL_law_687 : decode cL_law 687 = .ok (.istore_n 2, 1) := by decide +kernel
set_option maxRecDepth 20000 in
theorem dL_law_688 : decode cL_law 688 = .ok (.iload_n 2, 1) := by decide +kernel
set_option maxRecDepth 20000 in
theorem dL_law_689 : decode cL_law 689 = .ok (.ireturn, 1) := by decide +kernel
end
section
/-! decode rows (printed by program) -/
theorem dX0_init_0 : decode cX0_init 0 = .ok (.aload_n 0, 1) := by decide +kernel
theorem dX0_init_1 : decode cX0_init 1 = .ok (.invokespecial 3, 3) := by decide +kernel
theorem dX0_init_4 : decode cX0_init 4 = .ok (.aload_n 0, 1) := by decide +kernel
theorem dX0_init_5 : decode cX0_init 5 = .ok (.bipush 60, 2) := by decide +kernel
theorem dX0_init_7 : decode cX0_init 7 = .ok (.newarray .char, 2) := by decide +kernel
theorem dX0_init_9 : decode cX0_init 9 = .ok (.putfield 9, 3) := by decide +kernel
theorem dX0_init_12 : decode cX0_init 12 = .ok (.return_, 1) := by decide +kernel
theorem dX1_init_0 : decode cX1_init 0 = .ok (.aload_n 0, 1) := by decide +kernel
theorem dX1_init_1 : decode cX1_init 1 = .ok (.invokespecial 3, 3) := by decide +kernel
theorem dX1_init_4 : decode cX1_init 4 = .ok (.aload_n 0, 1) := by decide +kernel
theorem dX1_init_5 : decode cX1_init 5 = .ok (.iconst 4, 1) := by decide +kernel
theorem dX1_init_6 : decode cX1_init 6 = .ok (.newarray .int, 2) := by decide +kernel
theorem dX1_init_8 : decode cX1_init 8 = .ok (.putfield 9, 3) := by decide +kernel
theorem dX1_init_11 : decode cX1_init 11 = .ok (.aload_n 0, 1) := by decide +kernel
theorem dX1_init_12 : decode cX1_init 12 = .ok (.iconst 4, 1) := by decide +kernel
theorem dX1_init_13 : decode cX1_init 13 = .ok (.newarray .int, 2) := by decide +kernel
theorem dX1_init_15 : decode cX1_init 15 = .ok (.putfield 15, 3) := by decide +kernel
theorem dX1_init_18 : decode cX1_init 18 = .ok (.aload_n 0, 1) := by decide +kernel
theorem dX1_init_19 : decode cX1_init 19 = .ok (.bipush 10, 2) := by decide +kernel
theorem dX1_init_21 : decode cX1_init 21 = .ok (.putfield 18, 3) := by decide +kernel
theorem dX1_init_24 : decode cX1_init 24 = .ok (.aload_n 0, 1) := by decide +kernel
theorem dX1_init_25 : decode cX1_init 25 = .ok (.iconst 1, 1) := by decide +kernel
theorem dX1_init_26 : decode cX1_init 26 = .ok (.putfield 22, 3) := by decide +kernel
theorem dX1_init_29 : decode cX1_init 29 = .ok (.return_, 1) := by decide +kernel
theorem dX1_copyRoom_0 : decode cX1_copyRoom 0 = .ok (.aload_n 1, 1) := by decide +kernel
theorem dX1_copyRoom_1 : decode cX1_copyRoom 1 = .ok (.getfield 9, 3) := by decide +kernel
theorem dX1_copyRoom_4 : decode cX1_copyRoom 4 = .ok (.iconst 0, 1) := by decide +kernel
theorem dX1_copyRoom_5 : decode cX1_copyRoom 5 = .ok (.aload_n 0, 1) := by decide +kernel
theorem dX1_copyRoom_6 : decode cX1_copyRoom 6 = .ok (.getfield 9, 3) := by decide +kernel
theorem dX1_copyRoom_9 : decode cX1_copyRoom 9 = .ok (.iconst 0, 1) := by decide +kernel
theorem dX1_copyRoom_10 : decode cX1_copyRoom 10 = .ok (.iconst 4, 1) := by decide +kernel
theorem dX1_copyRoom_11 : decode cX1_copyRoom 11 = .ok (.invokestatic 26, 3) := by decide +kernel
theorem dX1_copyRoom_14 : decode cX1_copyRoom 14 = .ok (.aload_n 1, 1) := by decide +kernel
theorem dX1_copyRoom_15 : decode cX1_copyRoom 15 = .ok (.getfield 15, 3) := by decide +kernel
theorem dX1_copyRoom_18 : decode cX1_copyRoom 18 = .ok (.iconst 0, 1) := by decide +kernel
theorem dX1_copyRoom_19 : decode cX1_copyRoom 19 = .ok (.aload_n 0, 1) := by decide +kernel
theorem dX1_copyRoom_20 : decode cX1_copyRoom 20 = .ok (.getfield 15, 3) := by decide +kernel
theorem dX1_copyRoom_23 : decode cX1_copyRoom 23 = .ok (.iconst 0, 1) := by decide +kernel
theorem dX1_copyRoom_24 : decode cX1_copyRoom 24 = .ok (.iconst 4, 1) := by decide +kernel
theorem dX1_copyRoom_25 : decode cX1_copyRoom 25 = .ok (.invokestatic 26, 3) := by decide +kernel
theorem dX1_copyRoom_28 : decode cX1_copyRoom 28 = .ok (.aload_n 0, 1) := by decide +kernel
theorem dX1_copyRoom_29 : decode cX1_copyRoom 29 = .ok (.aload_n 1, 1) := by decide +kernel
theorem dX1_copyRoom_30 : decode cX1_copyRoom 30 = .ok (.getfield 32, 3) := by decide +kernel
theorem dX1_copyRoom_33 : decode cX1_copyRoom 33 = .ok (.putfield 32, 3) := by decide +kernel
theorem dX1_copyRoom_36 : decode cX1_copyRoom 36 = .ok (.aload_n 0, 1) := by decide +kernel
theorem dX1_copyRoom_37 : decode cX1_copyRoom 37 = .ok (.aload_n 1, 1) := by decide +kernel
theorem dX1_copyRoom_38 : decode cX1_copyRoom 38 = .ok (.getfield 18, 3) := by decide +kernel
theorem dX1_copyRoom_41 : decode cX1_copyRoom 41 = .ok (.putfield 18, 3) := by decide +kernel
theorem dX1_copyRoom_44 : decode cX1_copyRoom 44 = .ok (.aload_n 0, 1) := by decide +kernel
theorem dX1_copyRoom_45 : decode cX1_copyRoom 45 = .ok (.aload_n 1, 1) := by decide +kernel
theorem dX1_copyRoom_46 : decode cX1_copyRoom 46 = .ok (.getfield 35, 3) := by decide +kernel
theorem dX1_copyRoom_49 : decode cX1_copyRoom 49 = .ok (.putfield 35, 3) := by decide +kernel
theorem dX1_copyRoom_52 : decode cX1_copyRoom 52 = .ok (.aload_n 0, 1) := by decide +kernel
theorem dX1_copyRoom_53 : decode cX1_copyRoom 53 = .ok (.aload_n 1, 1) := by decide +kernel
theorem dX1_copyRoom_54 : decode cX1_copyRoom 54 = .ok (.getfield 38, 3) := by decide +kernel
theorem dX1_copyRoom_57 : decode cX1_copyRoom 57 = .ok (.putfield 38, 3) := by decide +kernel
theorem dX1_copyRoom_60 : decode cX1_copyRoom 60 = .ok (.aload_n 0, 1) := by decide +kernel
theorem dX1_copyRoom_61 : decode cX1_copyRoom 61 = .ok (.aload_n 1, 1) := by decide +kernel
theorem dX1_copyRoom_62 : decode cX1_copyRoom 62 = .ok (.getfield 41, 3) := by decide +kernel
theorem dX1_copyRoom_65 : decode cX1_copyRoom 65 = .ok (.putfield 41, 3) := by decide +kernel
theorem dX1_copyRoom_68 : decode cX1_copyRoom 68 = .ok (.aload_n 0, 1) := by decide +kernel
theorem dX1_copyRoom_69 : decode cX1_copyRoom 69 = .ok (.aload_n 1, 1) := by decide +kernel
theorem dX1_copyRoom_70 : decode cX1_copyRoom 70 = .ok (.getfield 22, 3) := by decide +kernel
theorem dX1_copyRoom_73 : decode cX1_copyRoom 73 = .ok (.putfield 22, 3) := by decide +kernel
theorem dX1_copyRoom_76 : decode cX1_copyRoom 76 = .ok (.aload_n 0, 1) := by decide +kernel
theorem dX1_copyRoom_77 : decode cX1_copyRoom 77 = .ok (.aload_n 1, 1) := by decide +kernel
theorem dX1_copyRoom_78 : decode cX1_copyRoom 78 = .ok (.getfield 44, 3) := by decide +kernel
theorem dX1_copyRoom_81 : decode cX1_copyRoom 81 = .ok (.putfield 44, 3) := by decide +kernel
theorem dX1_copyRoom_84 : decode cX1_copyRoom 84 = .ok (.return_, 1) := by decide +kernel
theorem dX1_number_0 : decode cX1_number 0 = .ok (.iload_n 1, 1) := by decide +kernel
theorem dX1_number_1 : decode cX1_number 1 = .ok (.tableswitch 87 0 6 #[43, 48, 56, 61, 69, 74, 82], 43) := by decide +kernel
theorem dX1_number_44 : decode cX1_number 44 = .ok (.aload_n 0, 1) := by decide +kernel
theorem dX1_number_45 : decode cX1_number 45 = .ok (.getfield 18, 3) := by decide +kernel
theorem dX1_number_48 : decode cX1_number 48 = .ok (.ireturn, 1) := by decide +kernel
theorem dX1_number_49 : decode cX1_number 49 = .ok (.aload_n 0, 1) := by decide +kernel
theorem dX1_number_50 : decode cX1_number 50 = .ok (.getfield 35, 3) := by decide +kernel
theorem dX1_number_53 : decode cX1_number 53 = .ok (.invokestatic 47, 3) := by decide +kernel
theorem dX1_number_56 : decode cX1_number 56 = .ok (.ireturn, 1) := by decide +kernel
theorem dX1_number_57 : decode cX1_number 57 = .ok (.aload_n 0, 1) := by decide +kernel
theorem dX1_number_58 : decode cX1_number 58 = .ok (.getfield 38, 3) := by decide +kernel
theorem dX1_number_61 : decode cX1_number 61 = .ok (.ireturn, 1) := by decide +kernel
theorem dX1_number_62 : decode cX1_number 62 = .ok (.aload_n 0, 1) := by decide +kernel
theorem dX1_number_63 : decode cX1_number 63 = .ok (.getfield 41, 3) := by decide +kernel
theorem dX1_number_66 : decode cX1_number 66 = .ok (.invokestatic 47, 3) := by decide +kernel
theorem dX1_number_69 : decode cX1_number 69 = .ok (.ireturn, 1) := by decide +kernel
theorem dX1_number_70 : decode cX1_number 70 = .ok (.aload_n 0, 1) := by decide +kernel
theorem dX1_number_71 : decode cX1_number 71 = .ok (.getfield 32, 3) := by decide +kernel
theorem dX1_number_74 : decode cX1_number 74 = .ok (.ireturn, 1) := by decide +kernel
theorem dX1_number_75 : decode cX1_number 75 = .ok (.aload_n 0, 1) := by decide +kernel
theorem dX1_number_76 : decode cX1_number 76 = .ok (.getfield 22, 3) := by decide +kernel
theorem dX1_number_79 : decode cX1_number 79 = .ok (.invokestatic 47, 3) := by decide +kernel
theorem dX1_number_82 : decode cX1_number 82 = .ok (.ireturn, 1) := by decide +kernel
theorem dX1_number_83 : decode cX1_number 83 = .ok (.aload_n 0, 1) := by decide +kernel
theorem dX1_number_84 : decode cX1_number 84 = .ok (.getfield 44, 3) := by decide +kernel
theorem dX1_number_87 : decode cX1_number 87 = .ok (.ireturn, 1) := by decide +kernel
theorem dX1_number_88 : decode cX1_number 88 = .ok (.aload_n 0, 1) := by decide +kernel
theorem dX1_number_89 : decode cX1_number 89 = .ok (.iconst 0, 1) := by decide +kernel
theorem dX1_number_90 : decode cX1_number 90 = .ok (.invokevirtual 51, 3) := by decide +kernel
theorem dX1_number_93 : decode cX1_number 93 = .ok (.ireturn, 1) := by decide +kernel
theorem dX1_keyAt_0 : decode cX1_keyAt 0 = .ok (.iload_n 1, 1) := by decide +kernel
theorem dX1_keyAt_1 : decode cX1_keyAt 1 = .ok (.ifCond .lt 20, 3) := by decide +kernel
theorem dX1_keyAt_4 : decode cX1_keyAt 4 = .ok (.iload_n 1, 1) := by decide +kernel
theorem dX1_keyAt_5 : decode cX1_keyAt 5 = .ok (.aload_n 0, 1) := by decide +kernel
theorem dX1_keyAt_6 : decode cX1_keyAt 6 = .ok (.getfield 32, 3) := by decide +kernel
theorem dX1_keyAt_9 : decode cX1_keyAt 9 = .ok (.if_icmp .ge 12, 3) := by decide +kernel
theorem dX1_keyAt_12 : decode cX1_keyAt 12 = .ok (.aload_n 0, 1) := by decide +kernel
theorem dX1_keyAt_13 : decode cX1_keyAt 13 = .ok (.getfield 9, 3) := by decide +kernel
theorem dX1_keyAt_16 : decode cX1_keyAt 16 = .ok (.iload_n 1, 1) := by decide +kernel
theorem dX1_keyAt_17 : decode cX1_keyAt 17 = .ok (.iaload, 1) := by decide +kernel
theorem dX1_keyAt_18 : decode cX1_keyAt 18 = .ok (.goto 4, 3) := by decide +kernel
theorem dX1_keyAt_21 : decode cX1_keyAt 21 = .ok (.iconst (-1), 1) := by decide +kernel
theorem dX1_keyAt_22 : decode cX1_keyAt 22 = .ok (.ireturn, 1) := by decide +kernel
theorem dX1_darkAt_0 : decode cX1_darkAt 0 = .ok (.iload_n 1, 1) := by decide +kernel
theorem dX1_darkAt_1 : decode cX1_darkAt 1 = .ok (.ifCond .lt 20, 3) := by decide +kernel
theorem dX1_darkAt_4 : decode cX1_darkAt 4 = .ok (.iload_n 1, 1) := by decide +kernel
theorem dX1_darkAt_5 : decode cX1_darkAt 5 = .ok (.aload_n 0, 1) := by decide +kernel
theorem dX1_darkAt_6 : decode cX1_darkAt 6 = .ok (.getfield 32, 3) := by decide +kernel
theorem dX1_darkAt_9 : decode cX1_darkAt 9 = .ok (.if_icmp .ge 12, 3) := by decide +kernel
theorem dX1_darkAt_12 : decode cX1_darkAt 12 = .ok (.aload_n 0, 1) := by decide +kernel
theorem dX1_darkAt_13 : decode cX1_darkAt 13 = .ok (.getfield 15, 3) := by decide +kernel
theorem dX1_darkAt_16 : decode cX1_darkAt 16 = .ok (.iload_n 1, 1) := by decide +kernel
theorem dX1_darkAt_17 : decode cX1_darkAt 17 = .ok (.iaload, 1) := by decide +kernel
theorem dX1_darkAt_18 : decode cX1_darkAt 18 = .ok (.goto 4, 3) := by decide +kernel
theorem dX1_darkAt_21 : decode cX1_darkAt 21 = .ok (.iconst (-1), 1) := by decide +kernel
theorem dX1_darkAt_22 : decode cX1_darkAt 22 = .ok (.ireturn, 1) := by decide +kernel
theorem dX1_placeOf_0 : decode cX1_placeOf 0 = .ok (.iconst 0, 1) := by decide +kernel
theorem dX1_placeOf_1 : decode cX1_placeOf 1 = .ok (.istore_n 2, 1) := by decide +kernel
theorem dX1_placeOf_2 : decode cX1_placeOf 2 = .ok (.iload_n 2, 1) := by decide +kernel
theorem dX1_placeOf_3 : decode cX1_placeOf 3 = .ok (.aload_n 0, 1) := by decide +kernel
theorem dX1_placeOf_4 : decode cX1_placeOf 4 = .ok (.getfield 32, 3) := by decide +kernel
theorem dX1_placeOf_7 : decode cX1_placeOf 7 = .ok (.if_icmp .ge 21, 3) := by decide +kernel
theorem dX1_placeOf_10 : decode cX1_placeOf 10 = .ok (.aload_n 0, 1) := by decide +kernel
theorem dX1_placeOf_11 : decode cX1_placeOf 11 = .ok (.getfield 9, 3) := by decide +kernel
theorem dX1_placeOf_14 : decode cX1_placeOf 14 = .ok (.iload_n 2, 1) := by decide +kernel
theorem dX1_placeOf_15 : decode cX1_placeOf 15 = .ok (.iaload, 1) := by decide +kernel
theorem dX1_placeOf_16 : decode cX1_placeOf 16 = .ok (.iload_n 1, 1) := by decide +kernel
theorem dX1_placeOf_17 : decode cX1_placeOf 17 = .ok (.if_icmp .ne 5, 3) := by decide +kernel
theorem dX1_placeOf_20 : decode cX1_placeOf 20 = .ok (.iload_n 2, 1) := by decide +kernel
theorem dX1_placeOf_21 : decode cX1_placeOf 21 = .ok (.ireturn, 1) := by decide +kernel
theorem dX1_placeOf_22 : decode cX1_placeOf 22 = .ok (.iinc 2 1, 3) := by decide +kernel
theorem dX1_placeOf_25 : decode cX1_placeOf 25 = .ok (.goto (-23), 3) := by decide +kernel
theorem dX1_placeOf_28 : decode cX1_placeOf 28 = .ok (.iconst (-1), 1) := by decide +kernel
theorem dX1_placeOf_29 : decode cX1_placeOf 29 = .ok (.ireturn, 1) := by decide +kernel
theorem dX1_addThing_0 : decode cX1_addThing 0 = .ok (.aload_n 0, 1) := by decide +kernel
theorem dX1_addThing_1 : decode cX1_addThing 1 = .ok (.getfield 32, 3) := by decide +kernel
theorem dX1_addThing_4 : decode cX1_addThing 4 = .ok (.iconst 4, 1) := by decide +kernel
theorem dX1_addThing_5 : decode cX1_addThing 5 = .ok (.if_icmp .ge 33, 3) := by decide +kernel
theorem dX1_addThing_8 : decode cX1_addThing 8 = .ok (.aload_n 0, 1) := by decide +kernel
theorem dX1_addThing_9 : decode cX1_addThing 9 = .ok (.getfield 9, 3) := by decide +kernel
theorem dX1_addThing_12 : decode cX1_addThing 12 = .ok (.aload_n 0, 1) := by decide +kernel
theorem dX1_addThing_13 : decode cX1_addThing 13 = .ok (.getfield 32, 3) := by decide +kernel
theorem dX1_addThing_16 : decode cX1_addThing 16 = .ok (.iload_n 1, 1) := by decide +kernel
theorem dX1_addThing_17 : decode cX1_addThing 17 = .ok (.iastore, 1) := by decide +kernel
theorem dX1_addThing_18 : decode cX1_addThing 18 = .ok (.aload_n 0, 1) := by decide +kernel
theorem dX1_addThing_19 : decode cX1_addThing 19 = .ok (.getfield 15, 3) := by decide +kernel
theorem dX1_addThing_22 : decode cX1_addThing 22 = .ok (.aload_n 0, 1) := by decide +kernel
theorem dX1_addThing_23 : decode cX1_addThing 23 = .ok (.getfield 32, 3) := by decide +kernel
theorem dX1_addThing_26 : decode cX1_addThing 26 = .ok (.iconst 0, 1) := by decide +kernel
theorem dX1_addThing_27 : decode cX1_addThing 27 = .ok (.iastore, 1) := by decide +kernel
theorem dX1_addThing_28 : decode cX1_addThing 28 = .ok (.aload_n 0, 1) := by decide +kernel
theorem dX1_addThing_29 : decode cX1_addThing 29 = .ok (.dup, 1) := by decide +kernel
theorem dX1_addThing_30 : decode cX1_addThing 30 = .ok (.getfield 32, 3) := by decide +kernel
theorem dX1_addThing_33 : decode cX1_addThing 33 = .ok (.iconst 1, 1) := by decide +kernel
theorem dX1_addThing_34 : decode cX1_addThing 34 = .ok (.iadd, 1) := by decide +kernel
theorem dX1_addThing_35 : decode cX1_addThing 35 = .ok (.putfield 32, 3) := by decide +kernel
theorem dX1_addThing_38 : decode cX1_addThing 38 = .ok (.return_, 1) := by decide +kernel
theorem dX1_takeNewCandle_0 : decode cX1_takeNewCandle 0 = .ok (.aload_n 0, 1) := by decide +kernel
theorem dX1_takeNewCandle_1 : decode cX1_takeNewCandle 1 = .ok (.bipush 20, 2) := by decide +kernel
theorem dX1_takeNewCandle_3 : decode cX1_takeNewCandle 3 = .ok (.putfield 18, 3) := by decide +kernel
theorem dX1_takeNewCandle_6 : decode cX1_takeNewCandle 6 = .ok (.aload_n 0, 1) := by decide +kernel
theorem dX1_takeNewCandle_7 : decode cX1_takeNewCandle 7 = .ok (.iconst 0, 1) := by decide +kernel
theorem dX1_takeNewCandle_8 : decode cX1_takeNewCandle 8 = .ok (.putfield 38, 3) := by decide +kernel
theorem dX1_takeNewCandle_11 : decode cX1_takeNewCandle 11 = .ok (.aload_n 0, 1) := by decide +kernel
theorem dX1_takeNewCandle_12 : decode cX1_takeNewCandle 12 = .ok (.iconst 0, 1) := by decide +kernel
theorem dX1_takeNewCandle_13 : decode cX1_takeNewCandle 13 = .ok (.putfield 35, 3) := by decide +kernel
theorem dX1_takeNewCandle_16 : decode cX1_takeNewCandle 16 = .ok (.return_, 1) := by decide +kernel
theorem dX1_burntInBeat_0 : decode cX1_burntInBeat 0 = .ok (.iconst 1, 1) := by decide +kernel
theorem dX1_burntInBeat_1 : decode cX1_burntInBeat 1 = .ok (.iload_n 0, 1) := by decide +kernel
theorem dX1_burntInBeat_2 : decode cX1_burntInBeat 2 = .ok (.iconst 3, 1) := by decide +kernel
theorem dX1_burntInBeat_3 : decode cX1_burntInBeat 3 = .ok (.if_icmp .lt 7, 3) := by decide +kernel
theorem dX1_burntInBeat_6 : decode cX1_burntInBeat 6 = .ok (.iconst 1, 1) := by decide +kernel
theorem dX1_burntInBeat_7 : decode cX1_burntInBeat 7 = .ok (.goto 4, 3) := by decide +kernel
theorem dX1_burntInBeat_10 : decode cX1_burntInBeat 10 = .ok (.iconst 0, 1) := by decide +kernel
theorem dX1_burntInBeat_11 : decode cX1_burntInBeat 11 = .ok (.invokestatic 47, 3) := by decide +kernel
theorem dX1_burntInBeat_14 : decode cX1_burntInBeat 14 = .ok (.iadd, 1) := by decide +kernel
theorem dX1_burntInBeat_15 : decode cX1_burntInBeat 15 = .ok (.iload_n 0, 1) := by decide +kernel
theorem dX1_burntInBeat_16 : decode cX1_burntInBeat 16 = .ok (.bipush 6, 2) := by decide +kernel
theorem dX1_burntInBeat_18 : decode cX1_burntInBeat 18 = .ok (.if_icmp .lt 7, 3) := by decide +kernel
theorem dX1_burntInBeat_21 : decode cX1_burntInBeat 21 = .ok (.iconst 1, 1) := by decide +kernel
theorem dX1_burntInBeat_22 : decode cX1_burntInBeat 22 = .ok (.goto 4, 3) := by decide +kernel
theorem dX1_burntInBeat_25 : decode cX1_burntInBeat 25 = .ok (.iconst 0, 1) := by decide +kernel
theorem dX1_burntInBeat_26 : decode cX1_burntInBeat 26 = .ok (.invokestatic 47, 3) := by decide +kernel
theorem dX1_burntInBeat_29 : decode cX1_burntInBeat 29 = .ok (.iadd, 1) := by decide +kernel
theorem dX1_burntInBeat_30 : decode cX1_burntInBeat 30 = .ok (.ireturn, 1) := by decide +kernel
theorem dX1_burnForBeat_0 : decode cX1_burnForBeat 0 = .ok (.aload_n 0, 1) := by decide +kernel
theorem dX1_burnForBeat_1 : decode cX1_burnForBeat 1 = .ok (.getfield 35, 3) := by decide +kernel
theorem dX1_burnForBeat_4 : decode cX1_burnForBeat 4 = .ok (.ifCond .ne 4, 3) := by decide +kernel
theorem dX1_burnForBeat_7 : decode cX1_burnForBeat 7 = .ok (.return_, 1) := by decide +kernel
theorem dX1_burnForBeat_8 : decode cX1_burnForBeat 8 = .ok (.aload_n 0, 1) := by decide +kernel
theorem dX1_burnForBeat_9 : decode cX1_burnForBeat 9 = .ok (.dup, 1) := by decide +kernel
theorem dX1_burnForBeat_10 : decode cX1_burnForBeat 10 = .ok (.getfield 44, 3) := by decide +kernel
theorem dX1_burnForBeat_13 : decode cX1_burnForBeat 13 = .ok (.iconst 1, 1) := by decide +kernel
theorem dX1_burnForBeat_14 : decode cX1_burnForBeat 14 = .ok (.iadd, 1) := by decide +kernel
theorem dX1_burnForBeat_15 : decode cX1_burnForBeat 15 = .ok (.putfield 44, 3) := by decide +kernel
theorem dX1_burnForBeat_18 : decode cX1_burnForBeat 18 = .ok (.aload_n 0, 1) := by decide +kernel
theorem dX1_burnForBeat_19 : decode cX1_burnForBeat 19 = .ok (.iconst 0, 1) := by decide +kernel
theorem dX1_burnForBeat_20 : decode cX1_burnForBeat 20 = .ok (.aload_n 0, 1) := by decide +kernel
theorem dX1_burnForBeat_21 : decode cX1_burnForBeat 21 = .ok (.getfield 18, 3) := by decide +kernel
theorem dX1_burnForBeat_24 : decode cX1_burnForBeat 24 = .ok (.aload_n 0, 1) := by decide +kernel
theorem dX1_burnForBeat_25 : decode cX1_burnForBeat 25 = .ok (.getfield 38, 3) := by decide +kernel
theorem dX1_burnForBeat_28 : decode cX1_burnForBeat 28 = .ok (.invokestatic 55, 3) := by decide +kernel
theorem dX1_burnForBeat_31 : decode cX1_burnForBeat 31 = .ok (.isub, 1) := by decide +kernel
theorem dX1_burnForBeat_32 : decode cX1_burnForBeat 32 = .ok (.invokestatic 58, 3) := by decide +kernel
theorem dX1_burnForBeat_35 : decode cX1_burnForBeat 35 = .ok (.putfield 18, 3) := by decide +kernel
theorem dX1_burnForBeat_38 : decode cX1_burnForBeat 38 = .ok (.aload_n 0, 1) := by decide +kernel
theorem dX1_burnForBeat_39 : decode cX1_burnForBeat 39 = .ok (.aload_n 0, 1) := by decide +kernel
theorem dX1_burnForBeat_40 : decode cX1_burnForBeat 40 = .ok (.getfield 18, 3) := by decide +kernel
theorem dX1_burnForBeat_43 : decode cX1_burnForBeat 43 = .ok (.ifCond .le 7, 3) := by decide +kernel
theorem dX1_burnForBeat_46 : decode cX1_burnForBeat 46 = .ok (.iconst 1, 1) := by decide +kernel
theorem dX1_burnForBeat_47 : decode cX1_burnForBeat 47 = .ok (.goto 4, 3) := by decide +kernel
theorem dX1_burnForBeat_50 : decode cX1_burnForBeat 50 = .ok (.iconst 0, 1) := by decide +kernel
theorem dX1_burnForBeat_51 : decode cX1_burnForBeat 51 = .ok (.putfield 35, 3) := by decide +kernel
theorem dX1_burnForBeat_54 : decode cX1_burnForBeat 54 = .ok (.aload_n 0, 1) := by decide +kernel
theorem dX1_burnForBeat_55 : decode cX1_burnForBeat 55 = .ok (.getfield 35, 3) := by decide +kernel
theorem dX1_burnForBeat_58 : decode cX1_burnForBeat 58 = .ok (.ifCond .eq 18, 3) := by decide +kernel
theorem dX1_burnForBeat_61 : decode cX1_burnForBeat 61 = .ok (.aload_n 0, 1) := by decide +kernel
theorem dX1_burnForBeat_62 : decode cX1_burnForBeat 62 = .ok (.bipush 9, 2) := by decide +kernel
theorem dX1_burnForBeat_64 : decode cX1_burnForBeat 64 = .ok (.aload_n 0, 1) := by decide +kernel
theorem dX1_burnForBeat_65 : decode cX1_burnForBeat 65 = .ok (.getfield 38, 3) := by decide +kernel
theorem dX1_burnForBeat_68 : decode cX1_burnForBeat 68 = .ok (.iconst 1, 1) := by decide +kernel
theorem dX1_burnForBeat_69 : decode cX1_burnForBeat 69 = .ok (.iadd, 1) := by decide +kernel
theorem dX1_burnForBeat_70 : decode cX1_burnForBeat 70 = .ok (.invokestatic 64, 3) := by decide +kernel
theorem dX1_burnForBeat_73 : decode cX1_burnForBeat 73 = .ok (.putfield 38, 3) := by decide +kernel
theorem dX1_burnForBeat_76 : decode cX1_burnForBeat 76 = .ok (.return_, 1) := by decide +kernel
theorem dX1_beatsUntrimmed_0 : decode cX1_beatsUntrimmed 0 = .ok (.aload_n 0, 1) := by decide +kernel
theorem dX1_beatsUntrimmed_1 : decode cX1_beatsUntrimmed 1 = .ok (.getfield 18, 3) := by decide +kernel
theorem dX1_beatsUntrimmed_4 : decode cX1_beatsUntrimmed 4 = .ok (.istore_n 1, 1) := by decide +kernel
theorem dX1_beatsUntrimmed_5 : decode cX1_beatsUntrimmed 5 = .ok (.aload_n 0, 1) := by decide +kernel
theorem dX1_beatsUntrimmed_6 : decode cX1_beatsUntrimmed 6 = .ok (.getfield 38, 3) := by decide +kernel
theorem dX1_beatsUntrimmed_9 : decode cX1_beatsUntrimmed 9 = .ok (.istore_n 2, 1) := by decide +kernel
theorem dX1_beatsUntrimmed_10 : decode cX1_beatsUntrimmed 10 = .ok (.iconst 0, 1) := by decide +kernel
theorem dX1_beatsUntrimmed_11 : decode cX1_beatsUntrimmed 11 = .ok (.istore_n 3, 1) := by decide +kernel
theorem dX1_beatsUntrimmed_12 : decode cX1_beatsUntrimmed 12 = .ok (.iload_n 3, 1) := by decide +kernel
theorem dX1_beatsUntrimmed_13 : decode cX1_beatsUntrimmed 13 = .ok (.bipush 60, 2) := by decide +kernel
theorem dX1_beatsUntrimmed_15 : decode cX1_beatsUntrimmed 15 = .ok (.if_icmp .ge 31, 3) := by decide +kernel
theorem dX1_beatsUntrimmed_18 : decode cX1_beatsUntrimmed 18 = .ok (.iload_n 1, 1) := by decide +kernel
theorem dX1_beatsUntrimmed_19 : decode cX1_beatsUntrimmed 19 = .ok (.ifCond .gt 5, 3) := by decide +kernel
theorem dX1_beatsUntrimmed_22 : decode cX1_beatsUntrimmed 22 = .ok (.iload_n 3, 1) := by decide +kernel
theorem dX1_beatsUntrimmed_23 : decode cX1_beatsUntrimmed 23 = .ok (.ireturn, 1) := by decide +kernel
theorem dX1_beatsUntrimmed_24 : decode cX1_beatsUntrimmed 24 = .ok (.iload_n 1, 1) := by decide +kernel
theorem dX1_beatsUntrimmed_25 : decode cX1_beatsUntrimmed 25 = .ok (.iload_n 2, 1) := by decide +kernel
theorem dX1_beatsUntrimmed_26 : decode cX1_beatsUntrimmed 26 = .ok (.invokestatic 55, 3) := by decide +kernel
theorem dX1_beatsUntrimmed_29 : decode cX1_beatsUntrimmed 29 = .ok (.isub, 1) := by decide +kernel
theorem dX1_beatsUntrimmed_30 : decode cX1_beatsUntrimmed 30 = .ok (.istore_n 1, 1) := by decide +kernel
theorem dX1_beatsUntrimmed_31 : decode cX1_beatsUntrimmed 31 = .ok (.bipush 9, 2) := by decide +kernel
theorem dX1_beatsUntrimmed_33 : decode cX1_beatsUntrimmed 33 = .ok (.iload_n 2, 1) := by decide +kernel
theorem dX1_beatsUntrimmed_34 : decode cX1_beatsUntrimmed 34 = .ok (.iconst 1, 1) := by decide +kernel
theorem dX1_beatsUntrimmed_35 : decode cX1_beatsUntrimmed 35 = .ok (.iadd, 1) := by decide +kernel
theorem dX1_beatsUntrimmed_36 : decode cX1_beatsUntrimmed 36 = .ok (.invokestatic 64, 3) := by decide +kernel
theorem dX1_beatsUntrimmed_39 : decode cX1_beatsUntrimmed 39 = .ok (.istore_n 2, 1) := by decide +kernel
theorem dX1_beatsUntrimmed_40 : decode cX1_beatsUntrimmed 40 = .ok (.iinc 3 1, 3) := by decide +kernel
theorem dX1_beatsUntrimmed_43 : decode cX1_beatsUntrimmed 43 = .ok (.goto (-31), 3) := by decide +kernel
theorem dX1_beatsUntrimmed_46 : decode cX1_beatsUntrimmed 46 = .ok (.bipush 60, 2) := by decide +kernel
theorem dX1_beatsUntrimmed_48 : decode cX1_beatsUntrimmed 48 = .ok (.ireturn, 1) := by decide +kernel
theorem dX1_beatsSaved_0 : decode cX1_beatsSaved 0 = .ok (.aload_n 0, 1) := by decide +kernel
theorem dX1_beatsSaved_1 : decode cX1_beatsSaved 1 = .ok (.getfield 35, 3) := by decide +kernel
theorem dX1_beatsSaved_4 : decode cX1_beatsSaved 4 = .ok (.ifCond .eq 15, 3) := by decide +kernel
theorem dX1_beatsSaved_7 : decode cX1_beatsSaved 7 = .ok (.aload_n 0, 1) := by decide +kernel
theorem dX1_beatsSaved_8 : decode cX1_beatsSaved 8 = .ok (.getfield 18, 3) := by decide +kernel
theorem dX1_beatsSaved_11 : decode cX1_beatsSaved 11 = .ok (.aload_n 0, 1) := by decide +kernel
theorem dX1_beatsSaved_12 : decode cX1_beatsSaved 12 = .ok (.invokevirtual 67, 3) := by decide +kernel
theorem dX1_beatsSaved_15 : decode cX1_beatsSaved 15 = .ok (.isub, 1) := by decide +kernel
theorem dX1_beatsSaved_16 : decode cX1_beatsSaved 16 = .ok (.goto 4, 3) := by decide +kernel
theorem dX1_beatsSaved_19 : decode cX1_beatsSaved 19 = .ok (.iconst 0, 1) := by decide +kernel
theorem dX1_beatsSaved_20 : decode cX1_beatsSaved 20 = .ok (.ireturn, 1) := by decide +kernel
theorem dX1_ageThings_0 : decode cX1_ageThings 0 = .ok (.iconst 0, 1) := by decide +kernel
theorem dX1_ageThings_1 : decode cX1_ageThings 1 = .ok (.istore_n 2, 1) := by decide +kernel
theorem dX1_ageThings_2 : decode cX1_ageThings 2 = .ok (.iconst 0, 1) := by decide +kernel
theorem dX1_ageThings_3 : decode cX1_ageThings 3 = .ok (.istore_n 3, 1) := by decide +kernel
theorem dX1_ageThings_4 : decode cX1_ageThings 4 = .ok (.iload_n 3, 1) := by decide +kernel
theorem dX1_ageThings_5 : decode cX1_ageThings 5 = .ok (.aload_n 0, 1) := by decide +kernel
theorem dX1_ageThings_6 : decode cX1_ageThings 6 = .ok (.getfield 32, 3) := by decide +kernel
theorem dX1_ageThings_9 : decode cX1_ageThings 9 = .ok (.if_icmp .ge 59, 3) := by decide +kernel
theorem dX1_ageThings_12 : decode cX1_ageThings 12 = .ok (.aload_n 0, 1) := by decide +kernel
theorem dX1_ageThings_13 : decode cX1_ageThings 13 = .ok (.getfield 35, 3) := by decide +kernel
theorem dX1_ageThings_16 : decode cX1_ageThings 16 = .ok (.ifCond .eq 7, 3) := by decide +kernel
theorem dX1_ageThings_19 : decode cX1_ageThings 19 = .ok (.iconst 0, 1) := by decide +kernel
theorem dX1_ageThings_20 : decode cX1_ageThings 20 = .ok (.goto 11, 3) := by decide +kernel
theorem dX1_ageThings_23 : decode cX1_ageThings 23 = .ok (.aload_n 0, 1) := by decide +kernel
theorem dX1_ageThings_24 : decode cX1_ageThings 24 = .ok (.getfield 15, 3) := by decide +kernel
theorem dX1_ageThings_27 : decode cX1_ageThings 27 = .ok (.iload_n 3, 1) := by decide +kernel
theorem dX1_ageThings_28 : decode cX1_ageThings 28 = .ok (.iaload, 1) := by decide +kernel
theorem dX1_ageThings_29 : decode cX1_ageThings 29 = .ok (.iconst 1, 1) := by decide +kernel
theorem dX1_ageThings_30 : decode cX1_ageThings 30 = .ok (.iadd, 1) := by decide +kernel
theorem dX1_ageThings_31 : decode cX1_ageThings 31 = .ok (.istore 4, 2) := by decide +kernel
theorem dX1_ageThings_33 : decode cX1_ageThings 33 = .ok (.iload 4, 2) := by decide +kernel
theorem dX1_ageThings_35 : decode cX1_ageThings 35 = .ok (.iload_n 1, 1) := by decide +kernel
theorem dX1_ageThings_36 : decode cX1_ageThings 36 = .ok (.if_icmp .ge 26, 3) := by decide +kernel
theorem dX1_ageThings_39 : decode cX1_ageThings 39 = .ok (.aload_n 0, 1) := by decide +kernel
theorem dX1_ageThings_40 : decode cX1_ageThings 40 = .ok (.getfield 9, 3) := by decide +kernel
theorem dX1_ageThings_43 : decode cX1_ageThings 43 = .ok (.iload_n 2, 1) := by decide +kernel
theorem dX1_ageThings_44 : decode cX1_ageThings 44 = .ok (.aload_n 0, 1) := by decide +kernel
theorem dX1_ageThings_45 : decode cX1_ageThings 45 = .ok (.getfield 9, 3) := by decide +kernel
theorem dX1_ageThings_48 : decode cX1_ageThings 48 = .ok (.iload_n 3, 1) := by decide +kernel
theorem dX1_ageThings_49 : decode cX1_ageThings 49 = .ok (.iaload, 1) := by decide +kernel
theorem dX1_ageThings_50 : decode cX1_ageThings 50 = .ok (.iastore, 1) := by decide +kernel
theorem dX1_ageThings_51 : decode cX1_ageThings 51 = .ok (.aload_n 0, 1) := by decide +kernel
theorem dX1_ageThings_52 : decode cX1_ageThings 52 = .ok (.getfield 15, 3) := by decide +kernel
theorem dX1_ageThings_55 : decode cX1_ageThings 55 = .ok (.iload_n 2, 1) := by decide +kernel
theorem dX1_ageThings_56 : decode cX1_ageThings 56 = .ok (.iload 4, 2) := by decide +kernel
theorem dX1_ageThings_58 : decode cX1_ageThings 58 = .ok (.iastore, 1) := by decide +kernel
theorem dX1_ageThings_59 : decode cX1_ageThings 59 = .ok (.iinc 2 1, 3) := by decide +kernel
theorem dX1_ageThings_62 : decode cX1_ageThings 62 = .ok (.iinc 3 1, 3) := by decide +kernel
theorem dX1_ageThings_65 : decode cX1_ageThings 65 = .ok (.goto (-61), 3) := by decide +kernel
theorem dX1_ageThings_68 : decode cX1_ageThings 68 = .ok (.aload_n 0, 1) := by decide +kernel
theorem dX1_ageThings_69 : decode cX1_ageThings 69 = .ok (.getfield 32, 3) := by decide +kernel
theorem dX1_ageThings_72 : decode cX1_ageThings 72 = .ok (.iload_n 2, 1) := by decide +kernel
theorem dX1_ageThings_73 : decode cX1_ageThings 73 = .ok (.isub, 1) := by decide +kernel
theorem dX1_ageThings_74 : decode cX1_ageThings 74 = .ok (.istore_n 3, 1) := by decide +kernel
theorem dX1_ageThings_75 : decode cX1_ageThings 75 = .ok (.aload_n 0, 1) := by decide +kernel
theorem dX1_ageThings_76 : decode cX1_ageThings 76 = .ok (.iload_n 2, 1) := by decide +kernel
theorem dX1_ageThings_77 : decode cX1_ageThings 77 = .ok (.putfield 32, 3) := by decide +kernel
theorem dX1_ageThings_80 : decode cX1_ageThings 80 = .ok (.iload_n 3, 1) := by decide +kernel
theorem dX1_ageThings_81 : decode cX1_ageThings 81 = .ok (.ireturn, 1) := by decide +kernel
theorem dX1_beatsToFirstForgotten_0 : decode cX1_beatsToFirstForgotten 0 = .ok (.iload_n 1, 1) := by decide +kernel
theorem dX1_beatsToFirstForgotten_1 : decode cX1_beatsToFirstForgotten 1 = .ok (.iconst 1, 1) := by decide +kernel
theorem dX1_beatsToFirstForgotten_2 : decode cX1_beatsToFirstForgotten 2 = .ok (.if_icmp .le 9, 3) := by decide +kernel
theorem dX1_beatsToFirstForgotten_5 : decode cX1_beatsToFirstForgotten 5 = .ok (.iload_n 1, 1) := by decide +kernel
theorem dX1_beatsToFirstForgotten_6 : decode cX1_beatsToFirstForgotten 6 = .ok (.iload_n 2, 1) := by decide +kernel
theorem dX1_beatsToFirstForgotten_7 : decode cX1_beatsToFirstForgotten 7 = .ok (.iadd, 1) := by decide +kernel
theorem dX1_beatsToFirstForgotten_8 : decode cX1_beatsToFirstForgotten 8 = .ok (.iconst 1, 1) := by decide +kernel
theorem dX1_beatsToFirstForgotten_9 : decode cX1_beatsToFirstForgotten 9 = .ok (.isub, 1) := by decide +kernel
theorem dX1_beatsToFirstForgotten_10 : decode cX1_beatsToFirstForgotten 10 = .ok (.ireturn, 1) := by decide +kernel
theorem dX1_beatsToFirstForgotten_11 : decode cX1_beatsToFirstForgotten 11 = .ok (.iconst 0, 1) := by decide +kernel
theorem dX1_beatsToFirstForgotten_12 : decode cX1_beatsToFirstForgotten 12 = .ok (.istore_n 3, 1) := by decide +kernel
theorem dX1_beatsToFirstForgotten_13 : decode cX1_beatsToFirstForgotten 13 = .ok (.iconst 0, 1) := by decide +kernel
theorem dX1_beatsToFirstForgotten_14 : decode cX1_beatsToFirstForgotten 14 = .ok (.istore 4, 2) := by decide +kernel
theorem dX1_beatsToFirstForgotten_16 : decode cX1_beatsToFirstForgotten 16 = .ok (.iload 4, 2) := by decide +kernel
theorem dX1_beatsToFirstForgotten_18 : decode cX1_beatsToFirstForgotten 18 = .ok (.aload_n 0, 1) := by decide +kernel
theorem dX1_beatsToFirstForgotten_19 : decode cX1_beatsToFirstForgotten 19 = .ok (.getfield 32, 3) := by decide +kernel
theorem dX1_beatsToFirstForgotten_22 : decode cX1_beatsToFirstForgotten 22 = .ok (.if_icmp .ge 21, 3) := by decide +kernel
theorem dX1_beatsToFirstForgotten_25 : decode cX1_beatsToFirstForgotten 25 = .ok (.iload_n 3, 1) := by decide +kernel
theorem dX1_beatsToFirstForgotten_26 : decode cX1_beatsToFirstForgotten 26 = .ok (.aload_n 0, 1) := by decide +kernel
theorem dX1_beatsToFirstForgotten_27 : decode cX1_beatsToFirstForgotten 27 = .ok (.getfield 15, 3) := by decide +kernel
theorem dX1_beatsToFirstForgotten_30 : decode cX1_beatsToFirstForgotten 30 = .ok (.iload 4, 2) := by decide +kernel
theorem dX1_beatsToFirstForgotten_32 : decode cX1_beatsToFirstForgotten 32 = .ok (.iaload, 1) := by decide +kernel
theorem dX1_beatsToFirstForgotten_33 : decode cX1_beatsToFirstForgotten 33 = .ok (.invokestatic 58, 3) := by decide +kernel
theorem dX1_beatsToFirstForgotten_36 : decode cX1_beatsToFirstForgotten 36 = .ok (.istore_n 3, 1) := by decide +kernel
theorem dX1_beatsToFirstForgotten_37 : decode cX1_beatsToFirstForgotten 37 = .ok (.iinc 4 1, 3) := by decide +kernel
theorem dX1_beatsToFirstForgotten_40 : decode cX1_beatsToFirstForgotten 40 = .ok (.goto (-24), 3) := by decide +kernel
theorem dX1_beatsToFirstForgotten_43 : decode cX1_beatsToFirstForgotten 43 = .ok (.iconst 1, 1) := by decide +kernel
theorem dX1_beatsToFirstForgotten_44 : decode cX1_beatsToFirstForgotten 44 = .ok (.iload_n 2, 1) := by decide +kernel
theorem dX1_beatsToFirstForgotten_45 : decode cX1_beatsToFirstForgotten 45 = .ok (.iload_n 3, 1) := by decide +kernel
theorem dX1_beatsToFirstForgotten_46 : decode cX1_beatsToFirstForgotten 46 = .ok (.isub, 1) := by decide +kernel
theorem dX1_beatsToFirstForgotten_47 : decode cX1_beatsToFirstForgotten 47 = .ok (.invokestatic 58, 3) := by decide +kernel
theorem dX1_beatsToFirstForgotten_50 : decode cX1_beatsToFirstForgotten 50 = .ok (.ireturn, 1) := by decide +kernel
theorem dX2_init_0 : decode cX2_init 0 = .ok (.aload_n 0, 1) := by decide +kernel
theorem dX2_init_1 : decode cX2_init 1 = .ok (.invokespecial 3, 3) := by decide +kernel
theorem dX2_init_4 : decode cX2_init 4 = .ok (.aload_n 0, 1) := by decide +kernel
theorem dX2_init_5 : decode cX2_init 5 = .ok (.bipush 6, 2) := by decide +kernel
theorem dX2_init_7 : decode cX2_init 7 = .ok (.anewarray 9, 3) := by decide +kernel
theorem dX2_init_10 : decode cX2_init 10 = .ok (.putfield 11, 3) := by decide +kernel
theorem dX2_init_13 : decode cX2_init 13 = .ok (.iconst 0, 1) := by decide +kernel
theorem dX2_init_14 : decode cX2_init 14 = .ok (.istore_n 1, 1) := by decide +kernel
theorem dX2_init_15 : decode cX2_init 15 = .ok (.iload_n 1, 1) := by decide +kernel
theorem dX2_init_16 : decode cX2_init 16 = .ok (.bipush 6, 2) := by decide +kernel
theorem dX2_init_18 : decode cX2_init 18 = .ok (.if_icmp .ge 22, 3) := by decide +kernel
theorem dX2_init_21 : decode cX2_init 21 = .ok (.aload_n 0, 1) := by decide +kernel
theorem dX2_init_22 : decode cX2_init 22 = .ok (.getfield 11, 3) := by decide +kernel
theorem dX2_init_25 : decode cX2_init 25 = .ok (.iload_n 1, 1) := by decide +kernel
theorem dX2_init_26 : decode cX2_init 26 = .ok (.new 9, 3) := by decide +kernel
theorem dX2_init_29 : decode cX2_init 29 = .ok (.dup, 1) := by decide +kernel
theorem dX2_init_30 : decode cX2_init 30 = .ok (.invokespecial 17, 3) := by decide +kernel
theorem dX2_init_33 : decode cX2_init 33 = .ok (.aastore, 1) := by decide +kernel
theorem dX2_init_34 : decode cX2_init 34 = .ok (.iinc 1 1, 3) := by decide +kernel
theorem dX2_init_37 : decode cX2_init 37 = .ok (.goto (-22), 3) := by decide +kernel
theorem dX2_init_40 : decode cX2_init 40 = .ok (.return_, 1) := by decide +kernel
theorem dX2_push_0 : decode cX2_push 0 = .ok (.aload_n 0, 1) := by decide +kernel
theorem dX2_push_1 : decode cX2_push 1 = .ok (.getfield 18, 3) := by decide +kernel
theorem dX2_push_4 : decode cX2_push 4 = .ok (.bipush 6, 2) := by decide +kernel
theorem dX2_push_6 : decode cX2_push 6 = .ok (.if_icmp .lt 7, 3) := by decide +kernel
theorem dX2_push_9 : decode cX2_push 9 = .ok (.aload_n 0, 1) := by decide +kernel
theorem dX2_push_10 : decode cX2_push 10 = .ok (.invokevirtual 22, 3) := by decide +kernel
theorem dX2_push_13 : decode cX2_push 13 = .ok (.aload_n 0, 1) := by decide +kernel
theorem dX2_push_14 : decode cX2_push 14 = .ok (.getfield 11, 3) := by decide +kernel
theorem dX2_push_17 : decode cX2_push 17 = .ok (.aload_n 0, 1) := by decide +kernel
theorem dX2_push_18 : decode cX2_push 18 = .ok (.getfield 18, 3) := by decide +kernel
theorem dX2_push_21 : decode cX2_push 21 = .ok (.aaload, 1) := by decide +kernel
theorem dX2_push_22 : decode cX2_push 22 = .ok (.aload_n 1, 1) := by decide +kernel
theorem dX2_push_23 : decode cX2_push 23 = .ok (.invokevirtual 25, 3) := by decide +kernel
theorem dX2_push_26 : decode cX2_push 26 = .ok (.aload_n 0, 1) := by decide +kernel
theorem dX2_push_27 : decode cX2_push 27 = .ok (.dup, 1) := by decide +kernel
theorem dX2_push_28 : decode cX2_push 28 = .ok (.getfield 18, 3) := by decide +kernel
theorem dX2_push_31 : decode cX2_push 31 = .ok (.iconst 1, 1) := by decide +kernel
theorem dX2_push_32 : decode cX2_push 32 = .ok (.iadd, 1) := by decide +kernel
theorem dX2_push_33 : decode cX2_push 33 = .ok (.putfield 18, 3) := by decide +kernel
theorem dX2_push_36 : decode cX2_push 36 = .ok (.return_, 1) := by decide +kernel
theorem dX2_dropOldest_0 : decode cX2_dropOldest 0 = .ok (.aload_n 0, 1) := by decide +kernel
theorem dX2_dropOldest_1 : decode cX2_dropOldest 1 = .ok (.getfield 11, 3) := by decide +kernel
theorem dX2_dropOldest_4 : decode cX2_dropOldest 4 = .ok (.iconst 0, 1) := by decide +kernel
theorem dX2_dropOldest_5 : decode cX2_dropOldest 5 = .ok (.aaload, 1) := by decide +kernel
theorem dX2_dropOldest_6 : decode cX2_dropOldest 6 = .ok (.astore_n 1, 1) := by decide +kernel
theorem dX2_dropOldest_7 : decode cX2_dropOldest 7 = .ok (.iconst 1, 1) := by decide +kernel
theorem dX2_dropOldest_8 : decode cX2_dropOldest 8 = .ok (.istore_n 2, 1) := by decide +kernel
theorem dX2_dropOldest_9 : decode cX2_dropOldest 9 = .ok (.iload_n 2, 1) := by decide +kernel
theorem dX2_dropOldest_10 : decode cX2_dropOldest 10 = .ok (.bipush 6, 2) := by decide +kernel
theorem dX2_dropOldest_12 : decode cX2_dropOldest 12 = .ok (.if_icmp .ge 23, 3) := by decide +kernel
theorem dX2_dropOldest_15 : decode cX2_dropOldest 15 = .ok (.aload_n 0, 1) := by decide +kernel
theorem dX2_dropOldest_16 : decode cX2_dropOldest 16 = .ok (.getfield 11, 3) := by decide +kernel
theorem dX2_dropOldest_19 : decode cX2_dropOldest 19 = .ok (.iload_n 2, 1) := by decide +kernel
theorem dX2_dropOldest_20 : decode cX2_dropOldest 20 = .ok (.iconst 1, 1) := by decide +kernel
theorem dX2_dropOldest_21 : decode cX2_dropOldest 21 = .ok (.isub, 1) := by decide +kernel
theorem dX2_dropOldest_22 : decode cX2_dropOldest 22 = .ok (.aload_n 0, 1) := by decide +kernel
theorem dX2_dropOldest_23 : decode cX2_dropOldest 23 = .ok (.getfield 11, 3) := by decide +kernel
theorem dX2_dropOldest_26 : decode cX2_dropOldest 26 = .ok (.iload_n 2, 1) := by decide +kernel
theorem dX2_dropOldest_27 : decode cX2_dropOldest 27 = .ok (.aaload, 1) := by decide +kernel
theorem dX2_dropOldest_28 : decode cX2_dropOldest 28 = .ok (.aastore, 1) := by decide +kernel
theorem dX2_dropOldest_29 : decode cX2_dropOldest 29 = .ok (.iinc 2 1, 3) := by decide +kernel
theorem dX2_dropOldest_32 : decode cX2_dropOldest 32 = .ok (.goto (-23), 3) := by decide +kernel
theorem dX2_dropOldest_35 : decode cX2_dropOldest 35 = .ok (.aload_n 0, 1) := by decide +kernel
theorem dX2_dropOldest_36 : decode cX2_dropOldest 36 = .ok (.getfield 11, 3) := by decide +kernel
theorem dX2_dropOldest_39 : decode cX2_dropOldest 39 = .ok (.iconst 5, 1) := by decide +kernel
theorem dX2_dropOldest_40 : decode cX2_dropOldest 40 = .ok (.aload_n 1, 1) := by decide +kernel
theorem dX2_dropOldest_41 : decode cX2_dropOldest 41 = .ok (.aastore, 1) := by decide +kernel
theorem dX2_dropOldest_42 : decode cX2_dropOldest 42 = .ok (.aload_n 0, 1) := by decide +kernel
theorem dX2_dropOldest_43 : decode cX2_dropOldest 43 = .ok (.iconst 5, 1) := by decide +kernel
theorem dX2_dropOldest_44 : decode cX2_dropOldest 44 = .ok (.putfield 18, 3) := by decide +kernel
theorem dX2_dropOldest_47 : decode cX2_dropOldest 47 = .ok (.return_, 1) := by decide +kernel
theorem dX2_popInto_0 : decode cX2_popInto 0 = .ok (.aload_n 0, 1) := by decide +kernel
theorem dX2_popInto_1 : decode cX2_popInto 1 = .ok (.getfield 18, 3) := by decide +kernel
theorem dX2_popInto_4 : decode cX2_popInto 4 = .ok (.ifCond .le 26, 3) := by decide +kernel
theorem dX2_popInto_7 : decode cX2_popInto 7 = .ok (.aload_n 0, 1) := by decide +kernel
theorem dX2_popInto_8 : decode cX2_popInto 8 = .ok (.dup, 1) := by decide +kernel
theorem dX2_popInto_9 : decode cX2_popInto 9 = .ok (.getfield 18, 3) := by decide +kernel
theorem dX2_popInto_12 : decode cX2_popInto 12 = .ok (.iconst 1, 1) := by decide +kernel
theorem dX2_popInto_13 : decode cX2_popInto 13 = .ok (.isub, 1) := by decide +kernel
theorem dX2_popInto_14 : decode cX2_popInto 14 = .ok (.putfield 18, 3) := by decide +kernel
theorem dX2_popInto_17 : decode cX2_popInto 17 = .ok (.aload_n 1, 1) := by decide +kernel
theorem dX2_popInto_18 : decode cX2_popInto 18 = .ok (.aload_n 0, 1) := by decide +kernel
theorem dX2_popInto_19 : decode cX2_popInto 19 = .ok (.getfield 11, 3) := by decide +kernel
theorem dX2_popInto_22 : decode cX2_popInto 22 = .ok (.aload_n 0, 1) := by decide +kernel
theorem dX2_popInto_23 : decode cX2_popInto 23 = .ok (.getfield 18, 3) := by decide +kernel
theorem dX2_popInto_26 : decode cX2_popInto 26 = .ok (.aaload, 1) := by decide +kernel
theorem dX2_popInto_27 : decode cX2_popInto 27 = .ok (.invokevirtual 25, 3) := by decide +kernel
theorem dX2_popInto_30 : decode cX2_popInto 30 = .ok (.aload_n 0, 1) := by decide +kernel
theorem dX2_popInto_31 : decode cX2_popInto 31 = .ok (.getfield 18, 3) := by decide +kernel
theorem dX2_popInto_34 : decode cX2_popInto 34 = .ok (.ireturn, 1) := by decide +kernel
theorem dX3_init_0 : decode cX3_init 0 = .ok (.aload_n 0, 1) := by decide +kernel
theorem dX3_init_1 : decode cX3_init 1 = .ok (.invokespecial 3, 3) := by decide +kernel
theorem dX3_init_4 : decode cX3_init 4 = .ok (.aload_n 0, 1) := by decide +kernel
theorem dX3_init_5 : decode cX3_init 5 = .ok (.bipush 6, 2) := by decide +kernel
theorem dX3_init_7 : decode cX3_init 7 = .ok (.anewarray 9, 3) := by decide +kernel
theorem dX3_init_10 : decode cX3_init 10 = .ok (.putfield 11, 3) := by decide +kernel
theorem dX3_init_13 : decode cX3_init 13 = .ok (.iconst 0, 1) := by decide +kernel
theorem dX3_init_14 : decode cX3_init 14 = .ok (.istore_n 1, 1) := by decide +kernel
theorem dX3_init_15 : decode cX3_init 15 = .ok (.iload_n 1, 1) := by decide +kernel
theorem dX3_init_16 : decode cX3_init 16 = .ok (.bipush 6, 2) := by decide +kernel
theorem dX3_init_18 : decode cX3_init 18 = .ok (.if_icmp .ge 22, 3) := by decide +kernel
theorem dX3_init_21 : decode cX3_init 21 = .ok (.aload_n 0, 1) := by decide +kernel
theorem dX3_init_22 : decode cX3_init 22 = .ok (.getfield 11, 3) := by decide +kernel
theorem dX3_init_25 : decode cX3_init 25 = .ok (.iload_n 1, 1) := by decide +kernel
theorem dX3_init_26 : decode cX3_init 26 = .ok (.new 9, 3) := by decide +kernel
theorem dX3_init_29 : decode cX3_init 29 = .ok (.dup, 1) := by decide +kernel
theorem dX3_init_30 : decode cX3_init 30 = .ok (.invokespecial 17, 3) := by decide +kernel
theorem dX3_init_33 : decode cX3_init 33 = .ok (.aastore, 1) := by decide +kernel
theorem dX3_init_34 : decode cX3_init 34 = .ok (.iinc 1 1, 3) := by decide +kernel
theorem dX3_init_37 : decode cX3_init 37 = .ok (.goto (-22), 3) := by decide +kernel
theorem dX3_init_40 : decode cX3_init 40 = .ok (.aload_n 0, 1) := by decide +kernel
theorem dX3_init_41 : decode cX3_init 41 = .ok (.bipush 12, 2) := by decide +kernel
theorem dX3_init_43 : decode cX3_init 43 = .ok (.putfield 18, 3) := by decide +kernel
theorem dX3_init_46 : decode cX3_init 46 = .ok (.aload_n 0, 1) := by decide +kernel
theorem dX3_init_47 : decode cX3_init 47 = .ok (.iconst (-1), 1) := by decide +kernel
theorem dX3_init_48 : decode cX3_init 48 = .ok (.putfield 22, 3) := by decide +kernel
theorem dX3_init_51 : decode cX3_init 51 = .ok (.aload_n 0, 1) := by decide +kernel
theorem dX3_init_52 : decode cX3_init 52 = .ok (.bipush 12, 2) := by decide +kernel
theorem dX3_init_54 : decode cX3_init 54 = .ok (.putfield 25, 3) := by decide +kernel
theorem dX3_init_57 : decode cX3_init 57 = .ok (.return_, 1) := by decide +kernel
theorem dX3_copyFrom_0 : decode cX3_copyFrom 0 = .ok (.iconst 0, 1) := by decide +kernel
theorem dX3_copyFrom_1 : decode cX3_copyFrom 1 = .ok (.istore_n 2, 1) := by decide +kernel
theorem dX3_copyFrom_2 : decode cX3_copyFrom 2 = .ok (.iload_n 2, 1) := by decide +kernel
theorem dX3_copyFrom_3 : decode cX3_copyFrom 3 = .ok (.bipush 6, 2) := by decide +kernel
theorem dX3_copyFrom_5 : decode cX3_copyFrom 5 = .ok (.if_icmp .ge 24, 3) := by decide +kernel
theorem dX3_copyFrom_8 : decode cX3_copyFrom 8 = .ok (.aload_n 0, 1) := by decide +kernel
theorem dX3_copyFrom_9 : decode cX3_copyFrom 9 = .ok (.getfield 11, 3) := by decide +kernel
theorem dX3_copyFrom_12 : decode cX3_copyFrom 12 = .ok (.iload_n 2, 1) := by decide +kernel
theorem dX3_copyFrom_13 : decode cX3_copyFrom 13 = .ok (.aaload, 1) := by decide +kernel
theorem dX3_copyFrom_14 : decode cX3_copyFrom 14 = .ok (.aload_n 1, 1) := by decide +kernel
theorem dX3_copyFrom_15 : decode cX3_copyFrom 15 = .ok (.getfield 11, 3) := by decide +kernel
theorem dX3_copyFrom_18 : decode cX3_copyFrom 18 = .ok (.iload_n 2, 1) := by decide +kernel
theorem dX3_copyFrom_19 : decode cX3_copyFrom 19 = .ok (.aaload, 1) := by decide +kernel
theorem dX3_copyFrom_20 : decode cX3_copyFrom 20 = .ok (.invokevirtual 28, 3) := by decide +kernel
theorem dX3_copyFrom_23 : decode cX3_copyFrom 23 = .ok (.iinc 2 1, 3) := by decide +kernel
theorem dX3_copyFrom_26 : decode cX3_copyFrom 26 = .ok (.goto (-24), 3) := by decide +kernel
theorem dX3_copyFrom_29 : decode cX3_copyFrom 29 = .ok (.aload_n 0, 1) := by decide +kernel
theorem dX3_copyFrom_30 : decode cX3_copyFrom 30 = .ok (.aload_n 1, 1) := by decide +kernel
theorem dX3_copyFrom_31 : decode cX3_copyFrom 31 = .ok (.getfield 32, 3) := by decide +kernel
theorem dX3_copyFrom_34 : decode cX3_copyFrom 34 = .ok (.putfield 32, 3) := by decide +kernel
theorem dX3_copyFrom_37 : decode cX3_copyFrom 37 = .ok (.aload_n 0, 1) := by decide +kernel
theorem dX3_copyFrom_38 : decode cX3_copyFrom 38 = .ok (.aload_n 1, 1) := by decide +kernel
theorem dX3_copyFrom_39 : decode cX3_copyFrom 39 = .ok (.getfield 18, 3) := by decide +kernel
theorem dX3_copyFrom_42 : decode cX3_copyFrom 42 = .ok (.putfield 18, 3) := by decide +kernel
theorem dX3_copyFrom_45 : decode cX3_copyFrom 45 = .ok (.aload_n 0, 1) := by decide +kernel
theorem dX3_copyFrom_46 : decode cX3_copyFrom 46 = .ok (.aload_n 1, 1) := by decide +kernel
theorem dX3_copyFrom_47 : decode cX3_copyFrom 47 = .ok (.getfield 35, 3) := by decide +kernel
theorem dX3_copyFrom_50 : decode cX3_copyFrom 50 = .ok (.putfield 35, 3) := by decide +kernel
theorem dX3_copyFrom_53 : decode cX3_copyFrom 53 = .ok (.aload_n 0, 1) := by decide +kernel
theorem dX3_copyFrom_54 : decode cX3_copyFrom 54 = .ok (.aload_n 1, 1) := by decide +kernel
theorem dX3_copyFrom_55 : decode cX3_copyFrom 55 = .ok (.getfield 38, 3) := by decide +kernel
theorem dX3_copyFrom_58 : decode cX3_copyFrom 58 = .ok (.putfield 38, 3) := by decide +kernel
theorem dX3_copyFrom_61 : decode cX3_copyFrom 61 = .ok (.aload_n 0, 1) := by decide +kernel
theorem dX3_copyFrom_62 : decode cX3_copyFrom 62 = .ok (.aload_n 1, 1) := by decide +kernel
theorem dX3_copyFrom_63 : decode cX3_copyFrom 63 = .ok (.getfield 41, 3) := by decide +kernel
theorem dX3_copyFrom_66 : decode cX3_copyFrom 66 = .ok (.putfield 41, 3) := by decide +kernel
theorem dX3_copyFrom_69 : decode cX3_copyFrom 69 = .ok (.aload_n 0, 1) := by decide +kernel
theorem dX3_copyFrom_70 : decode cX3_copyFrom 70 = .ok (.aload_n 1, 1) := by decide +kernel
theorem dX3_copyFrom_71 : decode cX3_copyFrom 71 = .ok (.getfield 44, 3) := by decide +kernel
theorem dX3_copyFrom_74 : decode cX3_copyFrom 74 = .ok (.putfield 44, 3) := by decide +kernel
theorem dX3_copyFrom_77 : decode cX3_copyFrom 77 = .ok (.aload_n 0, 1) := by decide +kernel
theorem dX3_copyFrom_78 : decode cX3_copyFrom 78 = .ok (.aload_n 1, 1) := by decide +kernel
theorem dX3_copyFrom_79 : decode cX3_copyFrom 79 = .ok (.getfield 22, 3) := by decide +kernel
theorem dX3_copyFrom_82 : decode cX3_copyFrom 82 = .ok (.putfield 22, 3) := by decide +kernel
theorem dX3_copyFrom_85 : decode cX3_copyFrom 85 = .ok (.aload_n 0, 1) := by decide +kernel
theorem dX3_copyFrom_86 : decode cX3_copyFrom 86 = .ok (.aload_n 1, 1) := by decide +kernel
theorem dX3_copyFrom_87 : decode cX3_copyFrom 87 = .ok (.getfield 47, 3) := by decide +kernel
theorem dX3_copyFrom_90 : decode cX3_copyFrom 90 = .ok (.putfield 47, 3) := by decide +kernel
theorem dX3_copyFrom_93 : decode cX3_copyFrom 93 = .ok (.aload_n 0, 1) := by decide +kernel
theorem dX3_copyFrom_94 : decode cX3_copyFrom 94 = .ok (.aload_n 1, 1) := by decide +kernel
theorem dX3_copyFrom_95 : decode cX3_copyFrom 95 = .ok (.getfield 25, 3) := by decide +kernel
theorem dX3_copyFrom_98 : decode cX3_copyFrom 98 = .ok (.putfield 25, 3) := by decide +kernel
theorem dX3_copyFrom_101 : decode cX3_copyFrom 101 = .ok (.return_, 1) := by decide +kernel
theorem dX3_roomAt_0 : decode cX3_roomAt 0 = .ok (.aload_n 0, 1) := by decide +kernel
theorem dX3_roomAt_1 : decode cX3_roomAt 1 = .ok (.getfield 11, 3) := by decide +kernel
theorem dX3_roomAt_4 : decode cX3_roomAt 4 = .ok (.iload_n 1, 1) := by decide +kernel
theorem dX3_roomAt_5 : decode cX3_roomAt 5 = .ok (.bipush 6, 2) := by decide +kernel
theorem dX3_roomAt_7 : decode cX3_roomAt 7 = .ok (.invokestatic 50, 3) := by decide +kernel
theorem dX3_roomAt_10 : decode cX3_roomAt 10 = .ok (.aaload, 1) := by decide +kernel
theorem dX3_roomAt_11 : decode cX3_roomAt 11 = .ok (.areturn, 1) := by decide +kernel
theorem dX3_candlesBurning_0 : decode cX3_candlesBurning 0 = .ok (.iconst 0, 1) := by decide +kernel
theorem dX3_candlesBurning_1 : decode cX3_candlesBurning 1 = .ok (.istore_n 1, 1) := by decide +kernel
theorem dX3_candlesBurning_2 : decode cX3_candlesBurning 2 = .ok (.iconst 0, 1) := by decide +kernel
theorem dX3_candlesBurning_3 : decode cX3_candlesBurning 3 = .ok (.istore_n 2, 1) := by decide +kernel
theorem dX3_candlesBurning_4 : decode cX3_candlesBurning 4 = .ok (.iload_n 2, 1) := by decide +kernel
theorem dX3_candlesBurning_5 : decode cX3_candlesBurning 5 = .ok (.bipush 6, 2) := by decide +kernel
theorem dX3_candlesBurning_7 : decode cX3_candlesBurning 7 = .ok (.if_icmp .ge 24, 3) := by decide +kernel
theorem dX3_candlesBurning_10 : decode cX3_candlesBurning 10 = .ok (.iload_n 1, 1) := by decide +kernel
theorem dX3_candlesBurning_11 : decode cX3_candlesBurning 11 = .ok (.aload_n 0, 1) := by decide +kernel
theorem dX3_candlesBurning_12 : decode cX3_candlesBurning 12 = .ok (.getfield 11, 3) := by decide +kernel
theorem dX3_candlesBurning_15 : decode cX3_candlesBurning 15 = .ok (.iload_n 2, 1) := by decide +kernel
theorem dX3_candlesBurning_16 : decode cX3_candlesBurning 16 = .ok (.aaload, 1) := by decide +kernel
theorem dX3_candlesBurning_17 : decode cX3_candlesBurning 17 = .ok (.getfield 56, 3) := by decide +kernel
theorem dX3_candlesBurning_20 : decode cX3_candlesBurning 20 = .ok (.invokestatic 60, 3) := by decide +kernel
theorem dX3_candlesBurning_23 : decode cX3_candlesBurning 23 = .ok (.iadd, 1) := by decide +kernel
theorem dX3_candlesBurning_24 : decode cX3_candlesBurning 24 = .ok (.istore_n 1, 1) := by decide +kernel
theorem dX3_candlesBurning_25 : decode cX3_candlesBurning 25 = .ok (.iinc 2 1, 3) := by decide +kernel
theorem dX3_candlesBurning_28 : decode cX3_candlesBurning 28 = .ok (.goto (-24), 3) := by decide +kernel
theorem dX3_candlesBurning_31 : decode cX3_candlesBurning 31 = .ok (.iload_n 1, 1) := by decide +kernel
theorem dX3_candlesBurning_32 : decode cX3_candlesBurning 32 = .ok (.ireturn, 1) := by decide +kernel
theorem dX3_candlesBurningFrom_0 : decode cX3_candlesBurningFrom 0 = .ok (.iconst 0, 1) := by decide +kernel
theorem dX3_candlesBurningFrom_1 : decode cX3_candlesBurningFrom 1 = .ok (.istore_n 3, 1) := by decide +kernel
theorem dX3_candlesBurningFrom_2 : decode cX3_candlesBurningFrom 2 = .ok (.iconst 0, 1) := by decide +kernel
theorem dX3_candlesBurningFrom_3 : decode cX3_candlesBurningFrom 3 = .ok (.istore 4, 2) := by decide +kernel
theorem dX3_candlesBurningFrom_5 : decode cX3_candlesBurningFrom 5 = .ok (.iload 4, 2) := by decide +kernel
theorem dX3_candlesBurningFrom_7 : decode cX3_candlesBurningFrom 7 = .ok (.iload_n 2, 1) := by decide +kernel
theorem dX3_candlesBurningFrom_8 : decode cX3_candlesBurningFrom 8 = .ok (.if_icmp .ge 26, 3) := by decide +kernel
theorem dX3_candlesBurningFrom_11 : decode cX3_candlesBurningFrom 11 = .ok (.iload_n 3, 1) := by decide +kernel
theorem dX3_candlesBurningFrom_12 : decode cX3_candlesBurningFrom 12 = .ok (.aload_n 0, 1) := by decide +kernel
theorem dX3_candlesBurningFrom_13 : decode cX3_candlesBurningFrom 13 = .ok (.iload_n 1, 1) := by decide +kernel
theorem dX3_candlesBurningFrom_14 : decode cX3_candlesBurningFrom 14 = .ok (.iload 4, 2) := by decide +kernel
theorem dX3_candlesBurningFrom_16 : decode cX3_candlesBurningFrom 16 = .ok (.iadd, 1) := by decide +kernel
theorem dX3_candlesBurningFrom_17 : decode cX3_candlesBurningFrom 17 = .ok (.invokevirtual 64, 3) := by decide +kernel
theorem dX3_candlesBurningFrom_20 : decode cX3_candlesBurningFrom 20 = .ok (.getfield 56, 3) := by decide +kernel
theorem dX3_candlesBurningFrom_23 : decode cX3_candlesBurningFrom 23 = .ok (.invokestatic 60, 3) := by decide +kernel
theorem dX3_candlesBurningFrom_26 : decode cX3_candlesBurningFrom 26 = .ok (.iadd, 1) := by decide +kernel
theorem dX3_candlesBurningFrom_27 : decode cX3_candlesBurningFrom 27 = .ok (.istore_n 3, 1) := by decide +kernel
theorem dX3_candlesBurningFrom_28 : decode cX3_candlesBurningFrom 28 = .ok (.iinc 4 1, 3) := by decide +kernel
theorem dX3_candlesBurningFrom_31 : decode cX3_candlesBurningFrom 31 = .ok (.goto (-26), 3) := by decide +kernel
theorem dX3_candlesBurningFrom_34 : decode cX3_candlesBurningFrom 34 = .ok (.iload_n 3, 1) := by decide +kernel
theorem dX3_candlesBurningFrom_35 : decode cX3_candlesBurningFrom 35 = .ok (.ireturn, 1) := by decide +kernel
theorem dX3_thingsInAll_0 : decode cX3_thingsInAll 0 = .ok (.iconst 0, 1) := by decide +kernel
theorem dX3_thingsInAll_1 : decode cX3_thingsInAll 1 = .ok (.istore_n 1, 1) := by decide +kernel
theorem dX3_thingsInAll_2 : decode cX3_thingsInAll 2 = .ok (.iconst 0, 1) := by decide +kernel
theorem dX3_thingsInAll_3 : decode cX3_thingsInAll 3 = .ok (.istore_n 2, 1) := by decide +kernel
theorem dX3_thingsInAll_4 : decode cX3_thingsInAll 4 = .ok (.iload_n 2, 1) := by decide +kernel
theorem dX3_thingsInAll_5 : decode cX3_thingsInAll 5 = .ok (.bipush 6, 2) := by decide +kernel
theorem dX3_thingsInAll_7 : decode cX3_thingsInAll 7 = .ok (.if_icmp .ge 21, 3) := by decide +kernel
theorem dX3_thingsInAll_10 : decode cX3_thingsInAll 10 = .ok (.iload_n 1, 1) := by decide +kernel
theorem dX3_thingsInAll_11 : decode cX3_thingsInAll 11 = .ok (.aload_n 0, 1) := by decide +kernel
theorem dX3_thingsInAll_12 : decode cX3_thingsInAll 12 = .ok (.getfield 11, 3) := by decide +kernel
theorem dX3_thingsInAll_15 : decode cX3_thingsInAll 15 = .ok (.iload_n 2, 1) := by decide +kernel
theorem dX3_thingsInAll_16 : decode cX3_thingsInAll 16 = .ok (.aaload, 1) := by decide +kernel
theorem dX3_thingsInAll_17 : decode cX3_thingsInAll 17 = .ok (.getfield 68, 3) := by decide +kernel
theorem dX3_thingsInAll_20 : decode cX3_thingsInAll 20 = .ok (.iadd, 1) := by decide +kernel
theorem dX3_thingsInAll_21 : decode cX3_thingsInAll 21 = .ok (.istore_n 1, 1) := by decide +kernel
theorem dX3_thingsInAll_22 : decode cX3_thingsInAll 22 = .ok (.iinc 2 1, 3) := by decide +kernel
theorem dX3_thingsInAll_25 : decode cX3_thingsInAll 25 = .ok (.goto (-21), 3) := by decide +kernel
theorem dX3_thingsInAll_28 : decode cX3_thingsInAll 28 = .ok (.iload_n 1, 1) := by decide +kernel
theorem dX3_thingsInAll_29 : decode cX3_thingsInAll 29 = .ok (.ireturn, 1) := by decide +kernel
theorem dX3_roomOf_0 : decode cX3_roomOf 0 = .ok (.iconst 0, 1) := by decide +kernel
theorem dX3_roomOf_1 : decode cX3_roomOf 1 = .ok (.istore_n 2, 1) := by decide +kernel
theorem dX3_roomOf_2 : decode cX3_roomOf 2 = .ok (.iload_n 2, 1) := by decide +kernel
theorem dX3_roomOf_3 : decode cX3_roomOf 3 = .ok (.bipush 6, 2) := by decide +kernel
theorem dX3_roomOf_5 : decode cX3_roomOf 5 = .ok (.if_icmp .ge 25, 3) := by decide +kernel
theorem dX3_roomOf_8 : decode cX3_roomOf 8 = .ok (.aload_n 0, 1) := by decide +kernel
theorem dX3_roomOf_9 : decode cX3_roomOf 9 = .ok (.getfield 11, 3) := by decide +kernel
theorem dX3_roomOf_12 : decode cX3_roomOf 12 = .ok (.iload_n 2, 1) := by decide +kernel
theorem dX3_roomOf_13 : decode cX3_roomOf 13 = .ok (.aaload, 1) := by decide +kernel
theorem dX3_roomOf_14 : decode cX3_roomOf 14 = .ok (.iload_n 1, 1) := by decide +kernel
theorem dX3_roomOf_15 : decode cX3_roomOf 15 = .ok (.invokevirtual 71, 3) := by decide +kernel
theorem dX3_roomOf_18 : decode cX3_roomOf 18 = .ok (.iconst (-1), 1) := by decide +kernel
theorem dX3_roomOf_19 : decode cX3_roomOf 19 = .ok (.if_icmp .eq 5, 3) := by decide +kernel
theorem dX3_roomOf_22 : decode cX3_roomOf 22 = .ok (.iload_n 2, 1) := by decide +kernel
theorem dX3_roomOf_23 : decode cX3_roomOf 23 = .ok (.ireturn, 1) := by decide +kernel
theorem dX3_roomOf_24 : decode cX3_roomOf 24 = .ok (.iinc 2 1, 3) := by decide +kernel
theorem dX3_roomOf_27 : decode cX3_roomOf 27 = .ok (.goto (-25), 3) := by decide +kernel
theorem dX3_roomOf_30 : decode cX3_roomOf 30 = .ok (.iconst (-1), 1) := by decide +kernel
theorem dX3_roomOf_31 : decode cX3_roomOf 31 = .ok (.ireturn, 1) := by decide +kernel
theorem dX3_thingNumber_0 : decode cX3_thingNumber 0 = .ok (.aload_n 0, 1) := by decide +kernel
theorem dX3_thingNumber_1 : decode cX3_thingNumber 1 = .ok (.iload_n 1, 1) := by decide +kernel
theorem dX3_thingNumber_2 : decode cX3_thingNumber 2 = .ok (.invokevirtual 75, 3) := by decide +kernel
theorem dX3_thingNumber_5 : decode cX3_thingNumber 5 = .ok (.istore_n 3, 1) := by decide +kernel
theorem dX3_thingNumber_6 : decode cX3_thingNumber 6 = .ok (.iload_n 3, 1) := by decide +kernel
theorem dX3_thingNumber_7 : decode cX3_thingNumber 7 = .ok (.iconst (-1), 1) := by decide +kernel
theorem dX3_thingNumber_8 : decode cX3_thingNumber 8 = .ok (.if_icmp .ne 5, 3) := by decide +kernel
theorem dX3_thingNumber_11 : decode cX3_thingNumber 11 = .ok (.iconst (-1), 1) := by decide +kernel
theorem dX3_thingNumber_12 : decode cX3_thingNumber 12 = .ok (.ireturn, 1) := by decide +kernel
theorem dX3_thingNumber_13 : decode cX3_thingNumber 13 = .ok (.aload_n 0, 1) := by decide +kernel
theorem dX3_thingNumber_14 : decode cX3_thingNumber 14 = .ok (.iload_n 3, 1) := by decide +kernel
theorem dX3_thingNumber_15 : decode cX3_thingNumber 15 = .ok (.invokevirtual 64, 3) := by decide +kernel
theorem dX3_thingNumber_18 : decode cX3_thingNumber 18 = .ok (.astore 4, 2) := by decide +kernel
theorem dX3_thingNumber_20 : decode cX3_thingNumber 20 = .ok (.aload 4, 2) := by decide +kernel
theorem dX3_thingNumber_22 : decode cX3_thingNumber 22 = .ok (.iload_n 1, 1) := by decide +kernel
theorem dX3_thingNumber_23 : decode cX3_thingNumber 23 = .ok (.invokevirtual 71, 3) := by decide +kernel
theorem dX3_thingNumber_26 : decode cX3_thingNumber 26 = .ok (.istore 5, 2) := by decide +kernel
theorem dX3_thingNumber_28 : decode cX3_thingNumber 28 = .ok (.iload_n 2, 1) := by decide +kernel
theorem dX3_thingNumber_29 : decode cX3_thingNumber 29 = .ok (.lookupswitch 37 #[(0, 27), (1, 29)], 27) := by decide +kernel
theorem dX3_thingNumber_56 : decode cX3_thingNumber 56 = .ok (.iload_n 3, 1) := by decide +kernel
theorem dX3_thingNumber_57 : decode cX3_thingNumber 57 = .ok (.ireturn, 1) := by decide +kernel
theorem dX3_thingNumber_58 : decode cX3_thingNumber 58 = .ok (.aload 4, 2) := by decide +kernel
theorem dX3_thingNumber_60 : decode cX3_thingNumber 60 = .ok (.iload 5, 2) := by decide +kernel
theorem dX3_thingNumber_62 : decode cX3_thingNumber 62 = .ok (.invokevirtual 78, 3) := by decide +kernel
theorem dX3_thingNumber_65 : decode cX3_thingNumber 65 = .ok (.ireturn, 1) := by decide +kernel
theorem dX3_thingNumber_66 : decode cX3_thingNumber 66 = .ok (.iload 5, 2) := by decide +kernel
theorem dX3_thingNumber_68 : decode cX3_thingNumber 68 = .ok (.ireturn, 1) := by decide +kernel
theorem dX3_canStrike_0 : decode cX3_canStrike 0 = .ok (.aload_n 0, 1) := by decide +kernel
theorem dX3_canStrike_1 : decode cX3_canStrike 1 = .ok (.invokevirtual 81, 3) := by decide +kernel
theorem dX3_canStrike_4 : decode cX3_canStrike 4 = .ok (.ifCond .ne 18, 3) := by decide +kernel
theorem dX3_canStrike_7 : decode cX3_canStrike 7 = .ok (.aload_n 0, 1) := by decide +kernel
theorem dX3_canStrike_8 : decode cX3_canStrike 8 = .ok (.iload_n 1, 1) := by decide +kernel
theorem dX3_canStrike_9 : decode cX3_canStrike 9 = .ok (.invokevirtual 64, 3) := by decide +kernel
theorem dX3_canStrike_12 : decode cX3_canStrike 12 = .ok (.getfield 85, 3) := by decide +kernel
theorem dX3_canStrike_15 : decode cX3_canStrike 15 = .ok (.ifCond .le 7, 3) := by decide +kernel
theorem dX3_canStrike_18 : decode cX3_canStrike 18 = .ok (.iconst 1, 1) := by decide +kernel
theorem dX3_canStrike_19 : decode cX3_canStrike 19 = .ok (.goto 4, 3) := by decide +kernel
theorem dX3_canStrike_22 : decode cX3_canStrike 22 = .ok (.iconst 0, 1) := by decide +kernel
theorem dX3_canStrike_23 : decode cX3_canStrike 23 = .ok (.ireturn, 1) := by decide +kernel
theorem dX3_canLight_0 : decode cX3_canLight 0 = .ok (.aload_n 0, 1) := by decide +kernel
theorem dX3_canLight_1 : decode cX3_canLight 1 = .ok (.iload_n 1, 1) := by decide +kernel
theorem dX3_canLight_2 : decode cX3_canLight 2 = .ok (.invokevirtual 64, 3) := by decide +kernel
theorem dX3_canLight_5 : decode cX3_canLight 5 = .ok (.astore_n 3, 1) := by decide +kernel
theorem dX3_canLight_6 : decode cX3_canLight 6 = .ok (.aload_n 3, 1) := by decide +kernel
theorem dX3_canLight_7 : decode cX3_canLight 7 = .ok (.getfield 56, 3) := by decide +kernel
theorem dX3_canLight_10 : decode cX3_canLight 10 = .ok (.ifCond .ne 34, 3) := by decide +kernel
theorem dX3_canLight_13 : decode cX3_canLight 13 = .ok (.aload_n 3, 1) := by decide +kernel
theorem dX3_canLight_14 : decode cX3_canLight 14 = .ok (.getfield 85, 3) := by decide +kernel
theorem dX3_canLight_17 : decode cX3_canLight 17 = .ok (.ifCond .le 27, 3) := by decide +kernel
theorem dX3_canLight_20 : decode cX3_canLight 20 = .ok (.aload_n 0, 1) := by decide +kernel
theorem dX3_canLight_21 : decode cX3_canLight 21 = .ok (.iload_n 2, 1) := by decide +kernel
theorem dX3_canLight_22 : decode cX3_canLight 22 = .ok (.invokevirtual 64, 3) := by decide +kernel
theorem dX3_canLight_25 : decode cX3_canLight 25 = .ok (.getfield 56, 3) := by decide +kernel
theorem dX3_canLight_28 : decode cX3_canLight 28 = .ok (.ifCond .eq 16, 3) := by decide +kernel
theorem dX3_canLight_31 : decode cX3_canLight 31 = .ok (.aload_n 0, 1) := by decide +kernel
theorem dX3_canLight_32 : decode cX3_canLight 32 = .ok (.iload_n 1, 1) := by decide +kernel
theorem dX3_canLight_33 : decode cX3_canLight 33 = .ok (.iload_n 2, 1) := by decide +kernel
theorem dX3_canLight_34 : decode cX3_canLight 34 = .ok (.invokevirtual 88, 3) := by decide +kernel
theorem dX3_canLight_37 : decode cX3_canLight 37 = .ok (.ifCond .eq 7, 3) := by decide +kernel
theorem dX3_canLight_40 : decode cX3_canLight 40 = .ok (.iconst 1, 1) := by decide +kernel
theorem dX3_canLight_41 : decode cX3_canLight 41 = .ok (.goto 4, 3) := by decide +kernel
theorem dX3_canLight_44 : decode cX3_canLight 44 = .ok (.iconst 0, 1) := by decide +kernel
theorem dX3_canLight_45 : decode cX3_canLight 45 = .ok (.ireturn, 1) := by decide +kernel
theorem dX3_areJoined_0 : decode cX3_areJoined 0 = .ok (.iload_n 2, 1) := by decide +kernel
theorem dX3_areJoined_1 : decode cX3_areJoined 1 = .ok (.iload_n 1, 1) := by decide +kernel
theorem dX3_areJoined_2 : decode cX3_areJoined 2 = .ok (.iconst 1, 1) := by decide +kernel
theorem dX3_areJoined_3 : decode cX3_areJoined 3 = .ok (.iadd, 1) := by decide +kernel
theorem dX3_areJoined_4 : decode cX3_areJoined 4 = .ok (.bipush 6, 2) := by decide +kernel
theorem dX3_areJoined_6 : decode cX3_areJoined 6 = .ok (.invokestatic 50, 3) := by decide +kernel
theorem dX3_areJoined_9 : decode cX3_areJoined 9 = .ok (.if_icmp .ne 12, 3) := by decide +kernel
theorem dX3_areJoined_12 : decode cX3_areJoined 12 = .ok (.aload_n 0, 1) := by decide +kernel
theorem dX3_areJoined_13 : decode cX3_areJoined 13 = .ok (.iload_n 1, 1) := by decide +kernel
theorem dX3_areJoined_14 : decode cX3_areJoined 14 = .ok (.invokevirtual 64, 3) := by decide +kernel
theorem dX3_areJoined_17 : decode cX3_areJoined 17 = .ok (.getfield 92, 3) := by decide +kernel
theorem dX3_areJoined_20 : decode cX3_areJoined 20 = .ok (.ireturn, 1) := by decide +kernel
theorem dX3_areJoined_21 : decode cX3_areJoined 21 = .ok (.iload_n 1, 1) := by decide +kernel
theorem dX3_areJoined_22 : decode cX3_areJoined 22 = .ok (.iload_n 2, 1) := by decide +kernel
theorem dX3_areJoined_23 : decode cX3_areJoined 23 = .ok (.iconst 1, 1) := by decide +kernel
theorem dX3_areJoined_24 : decode cX3_areJoined 24 = .ok (.iadd, 1) := by decide +kernel
theorem dX3_areJoined_25 : decode cX3_areJoined 25 = .ok (.bipush 6, 2) := by decide +kernel
theorem dX3_areJoined_27 : decode cX3_areJoined 27 = .ok (.invokestatic 50, 3) := by decide +kernel
theorem dX3_areJoined_30 : decode cX3_areJoined 30 = .ok (.if_icmp .ne 12, 3) := by decide +kernel
theorem dX3_areJoined_33 : decode cX3_areJoined 33 = .ok (.aload_n 0, 1) := by decide +kernel
theorem dX3_areJoined_34 : decode cX3_areJoined 34 = .ok (.iload_n 2, 1) := by decide +kernel
theorem dX3_areJoined_35 : decode cX3_areJoined 35 = .ok (.invokevirtual 64, 3) := by decide +kernel
theorem dX3_areJoined_38 : decode cX3_areJoined 38 = .ok (.getfield 92, 3) := by decide +kernel
theorem dX3_areJoined_41 : decode cX3_areJoined 41 = .ok (.ireturn, 1) := by decide +kernel
theorem dX3_areJoined_42 : decode cX3_areJoined 42 = .ok (.iconst 0, 1) := by decide +kernel
theorem dX3_areJoined_43 : decode cX3_areJoined 43 = .ok (.ireturn, 1) := by decide +kernel
theorem dX3_kindle_0 : decode cX3_kindle 0 = .ok (.aload_n 0, 1) := by decide +kernel
theorem dX3_kindle_1 : decode cX3_kindle 1 = .ok (.iload_n 1, 1) := by decide +kernel
theorem dX3_kindle_2 : decode cX3_kindle 2 = .ok (.invokevirtual 64, 3) := by decide +kernel
theorem dX3_kindle_5 : decode cX3_kindle 5 = .ok (.astore_n 2, 1) := by decide +kernel
theorem dX3_kindle_6 : decode cX3_kindle 6 = .ok (.aload_n 2, 1) := by decide +kernel
theorem dX3_kindle_7 : decode cX3_kindle 7 = .ok (.iconst 1, 1) := by decide +kernel
theorem dX3_kindle_8 : decode cX3_kindle 8 = .ok (.putfield 56, 3) := by decide +kernel
theorem dX3_kindle_11 : decode cX3_kindle 11 = .ok (.aload_n 2, 1) := by decide +kernel
theorem dX3_kindle_12 : decode cX3_kindle 12 = .ok (.getfield 85, 3) := by decide +kernel
theorem dX3_kindle_15 : decode cX3_kindle 15 = .ok (.ireturn, 1) := by decide +kernel
theorem dX3_hasNewCandle_0 : decode cX3_hasNewCandle 0 = .ok (.aload_n 0, 1) := by decide +kernel
theorem dX3_hasNewCandle_1 : decode cX3_hasNewCandle 1 = .ok (.getfield 18, 3) := by decide +kernel
theorem dX3_hasNewCandle_4 : decode cX3_hasNewCandle 4 = .ok (.ifCond .le 7, 3) := by decide +kernel
theorem dX3_hasNewCandle_7 : decode cX3_hasNewCandle 7 = .ok (.iconst 1, 1) := by decide +kernel
theorem dX3_hasNewCandle_8 : decode cX3_hasNewCandle 8 = .ok (.goto 4, 3) := by decide +kernel
theorem dX3_hasNewCandle_11 : decode cX3_hasNewCandle 11 = .ok (.iconst 0, 1) := by decide +kernel
theorem dX3_hasNewCandle_12 : decode cX3_hasNewCandle 12 = .ok (.ireturn, 1) := by decide +kernel
theorem dX3_putNewCandle_0 : decode cX3_putNewCandle 0 = .ok (.aload_n 0, 1) := by decide +kernel
theorem dX3_putNewCandle_1 : decode cX3_putNewCandle 1 = .ok (.iload_n 1, 1) := by decide +kernel
theorem dX3_putNewCandle_2 : decode cX3_putNewCandle 2 = .ok (.invokevirtual 64, 3) := by decide +kernel
theorem dX3_putNewCandle_5 : decode cX3_putNewCandle 5 = .ok (.invokevirtual 105, 3) := by decide +kernel
theorem dX3_putNewCandle_8 : decode cX3_putNewCandle 8 = .ok (.aload_n 0, 1) := by decide +kernel
theorem dX3_putNewCandle_9 : decode cX3_putNewCandle 9 = .ok (.dup, 1) := by decide +kernel
theorem dX3_putNewCandle_10 : decode cX3_putNewCandle 10 = .ok (.getfield 18, 3) := by decide +kernel
theorem dX3_putNewCandle_13 : decode cX3_putNewCandle 13 = .ok (.iconst 1, 1) := by decide +kernel
theorem dX3_putNewCandle_14 : decode cX3_putNewCandle 14 = .ok (.isub, 1) := by decide +kernel
theorem dX3_putNewCandle_15 : decode cX3_putNewCandle 15 = .ok (.putfield 18, 3) := by decide +kernel
theorem dX3_putNewCandle_18 : decode cX3_putNewCandle 18 = .ok (.aload_n 0, 1) := by decide +kernel
theorem dX3_putNewCandle_19 : decode cX3_putNewCandle 19 = .ok (.getfield 18, 3) := by decide +kernel
theorem dX3_putNewCandle_22 : decode cX3_putNewCandle 22 = .ok (.ireturn, 1) := by decide +kernel
theorem dX3_canKeep_0 : decode cX3_canKeep 0 = .ok (.aload_n 0, 1) := by decide +kernel
theorem dX3_canKeep_1 : decode cX3_canKeep 1 = .ok (.iload_n 2, 1) := by decide +kernel
theorem dX3_canKeep_2 : decode cX3_canKeep 2 = .ok (.invokevirtual 75, 3) := by decide +kernel
theorem dX3_canKeep_5 : decode cX3_canKeep 5 = .ok (.iconst (-1), 1) := by decide +kernel
theorem dX3_canKeep_6 : decode cX3_canKeep 6 = .ok (.if_icmp .ne 19, 3) := by decide +kernel
theorem dX3_canKeep_9 : decode cX3_canKeep 9 = .ok (.aload_n 0, 1) := by decide +kernel
theorem dX3_canKeep_10 : decode cX3_canKeep 10 = .ok (.iload_n 1, 1) := by decide +kernel
theorem dX3_canKeep_11 : decode cX3_canKeep 11 = .ok (.invokevirtual 64, 3) := by decide +kernel
theorem dX3_canKeep_14 : decode cX3_canKeep 14 = .ok (.getfield 68, 3) := by decide +kernel
theorem dX3_canKeep_17 : decode cX3_canKeep 17 = .ok (.iconst 4, 1) := by decide +kernel
theorem dX3_canKeep_18 : decode cX3_canKeep 18 = .ok (.if_icmp .ge 7, 3) := by decide +kernel
theorem dX3_canKeep_21 : decode cX3_canKeep 21 = .ok (.iconst 1, 1) := by decide +kernel
theorem dX3_canKeep_22 : decode cX3_canKeep 22 = .ok (.goto 4, 3) := by decide +kernel
theorem dX3_canKeep_25 : decode cX3_canKeep 25 = .ok (.iconst 0, 1) := by decide +kernel
theorem dX3_canKeep_26 : decode cX3_canKeep 26 = .ok (.ireturn, 1) := by decide +kernel
theorem dX3_putThing_0 : decode cX3_putThing 0 = .ok (.aload_n 0, 1) := by decide +kernel
theorem dX3_putThing_1 : decode cX3_putThing 1 = .ok (.iload_n 1, 1) := by decide +kernel
theorem dX3_putThing_2 : decode cX3_putThing 2 = .ok (.invokevirtual 64, 3) := by decide +kernel
theorem dX3_putThing_5 : decode cX3_putThing 5 = .ok (.astore_n 3, 1) := by decide +kernel
theorem dX3_putThing_6 : decode cX3_putThing 6 = .ok (.aload_n 3, 1) := by decide +kernel
theorem dX3_putThing_7 : decode cX3_putThing 7 = .ok (.iload_n 2, 1) := by decide +kernel
theorem dX3_putThing_8 : decode cX3_putThing 8 = .ok (.invokevirtual 115, 3) := by decide +kernel
theorem dX3_putThing_11 : decode cX3_putThing 11 = .ok (.aload_n 3, 1) := by decide +kernel
theorem dX3_putThing_12 : decode cX3_putThing 12 = .ok (.getfield 68, 3) := by decide +kernel
theorem dX3_putThing_15 : decode cX3_putThing 15 = .ok (.ireturn, 1) := by decide +kernel
theorem dX3_beginDraught_0 : decode cX3_beginDraught 0 = .ok (.aload_n 0, 1) := by decide +kernel
theorem dX3_beginDraught_1 : decode cX3_beginDraught 1 = .ok (.iload_n 1, 1) := by decide +kernel
theorem dX3_beginDraught_2 : decode cX3_beginDraught 2 = .ok (.putfield 22, 3) := by decide +kernel
theorem dX3_beginDraught_5 : decode cX3_beginDraught 5 = .ok (.aload_n 0, 1) := by decide +kernel
theorem dX3_beginDraught_6 : decode cX3_beginDraught 6 = .ok (.iload_n 2, 1) := by decide +kernel
theorem dX3_beginDraught_7 : decode cX3_beginDraught 7 = .ok (.putfield 47, 3) := by decide +kernel
theorem dX3_beginDraught_10 : decode cX3_beginDraught 10 = .ok (.aload_n 0, 1) := by decide +kernel
theorem dX3_beginDraught_11 : decode cX3_beginDraught 11 = .ok (.iload_n 1, 1) := by decide +kernel
theorem dX3_beginDraught_12 : decode cX3_beginDraught 12 = .ok (.aload_n 0, 1) := by decide +kernel
theorem dX3_beginDraught_13 : decode cX3_beginDraught 13 = .ok (.invokevirtual 125, 3) := by decide +kernel
theorem dX3_beginDraught_16 : decode cX3_beginDraught 16 = .ok (.invokevirtual 128, 3) := by decide +kernel
theorem dX3_beginDraught_19 : decode cX3_beginDraught 19 = .ok (.ireturn, 1) := by decide +kernel
theorem dX3_roomsBlown_0 : decode cX3_roomsBlown 0 = .ok (.iconst 0, 1) := by decide +kernel
theorem dX3_roomsBlown_1 : decode cX3_roomsBlown 1 = .ok (.istore_n 1, 1) := by decide +kernel
theorem dX3_roomsBlown_2 : decode cX3_roomsBlown 2 = .ok (.iload_n 1, 1) := by decide +kernel
theorem dX3_roomsBlown_3 : decode cX3_roomsBlown 3 = .ok (.aload_n 0, 1) := by decide +kernel
theorem dX3_roomsBlown_4 : decode cX3_roomsBlown 4 = .ok (.getfield 47, 3) := by decide +kernel
theorem dX3_roomsBlown_7 : decode cX3_roomsBlown 7 = .ok (.if_icmp .ge 40, 3) := by decide +kernel
theorem dX3_roomsBlown_10 : decode cX3_roomsBlown 10 = .ok (.aload_n 0, 1) := by decide +kernel
theorem dX3_roomsBlown_11 : decode cX3_roomsBlown 11 = .ok (.aload_n 0, 1) := by decide +kernel
theorem dX3_roomsBlown_12 : decode cX3_roomsBlown 12 = .ok (.getfield 22, 3) := by decide +kernel
theorem dX3_roomsBlown_15 : decode cX3_roomsBlown 15 = .ok (.iload_n 1, 1) := by decide +kernel
theorem dX3_roomsBlown_16 : decode cX3_roomsBlown 16 = .ok (.iadd, 1) := by decide +kernel
theorem dX3_roomsBlown_17 : decode cX3_roomsBlown 17 = .ok (.invokevirtual 64, 3) := by decide +kernel
theorem dX3_roomsBlown_20 : decode cX3_roomsBlown 20 = .ok (.astore_n 2, 1) := by decide +kernel
theorem dX3_roomsBlown_21 : decode cX3_roomsBlown 21 = .ok (.aload_n 2, 1) := by decide +kernel
theorem dX3_roomsBlown_22 : decode cX3_roomsBlown 22 = .ok (.getfield 131, 3) := by decide +kernel
theorem dX3_roomsBlown_25 : decode cX3_roomsBlown 25 = .ok (.ifCond .eq 5, 3) := by decide +kernel
theorem dX3_roomsBlown_28 : decode cX3_roomsBlown 28 = .ok (.iload_n 1, 1) := by decide +kernel
theorem dX3_roomsBlown_29 : decode cX3_roomsBlown 29 = .ok (.ireturn, 1) := by decide +kernel
theorem dX3_roomsBlown_30 : decode cX3_roomsBlown 30 = .ok (.aload_n 2, 1) := by decide +kernel
theorem dX3_roomsBlown_31 : decode cX3_roomsBlown 31 = .ok (.getfield 92, 3) := by decide +kernel
theorem dX3_roomsBlown_34 : decode cX3_roomsBlown 34 = .ok (.ifCond .ne 7, 3) := by decide +kernel
theorem dX3_roomsBlown_37 : decode cX3_roomsBlown 37 = .ok (.iload_n 1, 1) := by decide +kernel
theorem dX3_roomsBlown_38 : decode cX3_roomsBlown 38 = .ok (.iconst 1, 1) := by decide +kernel
theorem dX3_roomsBlown_39 : decode cX3_roomsBlown 39 = .ok (.iadd, 1) := by decide +kernel
theorem dX3_roomsBlown_40 : decode cX3_roomsBlown 40 = .ok (.ireturn, 1) := by decide +kernel
theorem dX3_roomsBlown_41 : decode cX3_roomsBlown 41 = .ok (.iinc 1 1, 3) := by decide +kernel
theorem dX3_roomsBlown_44 : decode cX3_roomsBlown 44 = .ok (.goto (-42), 3) := by decide +kernel
theorem dX3_roomsBlown_47 : decode cX3_roomsBlown 47 = .ok (.aload_n 0, 1) := by decide +kernel
theorem dX3_roomsBlown_48 : decode cX3_roomsBlown 48 = .ok (.getfield 47, 3) := by decide +kernel
theorem dX3_roomsBlown_51 : decode cX3_roomsBlown 51 = .ok (.ireturn, 1) := by decide +kernel
theorem dX3_isInDraught_0 : decode cX3_isInDraught 0 = .ok (.iload_n 1, 1) := by decide +kernel
theorem dX3_isInDraught_1 : decode cX3_isInDraught 1 = .ok (.aload_n 0, 1) := by decide +kernel
theorem dX3_isInDraught_2 : decode cX3_isInDraught 2 = .ok (.getfield 22, 3) := by decide +kernel
theorem dX3_isInDraught_5 : decode cX3_isInDraught 5 = .ok (.isub, 1) := by decide +kernel
theorem dX3_isInDraught_6 : decode cX3_isInDraught 6 = .ok (.bipush 6, 2) := by decide +kernel
theorem dX3_isInDraught_8 : decode cX3_isInDraught 8 = .ok (.invokestatic 50, 3) := by decide +kernel
theorem dX3_isInDraught_11 : decode cX3_isInDraught 11 = .ok (.aload_n 0, 1) := by decide +kernel
theorem dX3_isInDraught_12 : decode cX3_isInDraught 12 = .ok (.invokevirtual 125, 3) := by decide +kernel
theorem dX3_isInDraught_15 : decode cX3_isInDraught 15 = .ok (.if_icmp .ge 7, 3) := by decide +kernel
theorem dX3_isInDraught_18 : decode cX3_isInDraught 18 = .ok (.iconst 1, 1) := by decide +kernel
theorem dX3_isInDraught_19 : decode cX3_isInDraught 19 = .ok (.goto 4, 3) := by decide +kernel
theorem dX3_isInDraught_22 : decode cX3_isInDraught 22 = .ok (.iconst 0, 1) := by decide +kernel
theorem dX3_isInDraught_23 : decode cX3_isInDraught 23 = .ok (.ireturn, 1) := by decide +kernel
theorem dX3_blow_0 : decode cX3_blow 0 = .ok (.aload_n 0, 1) := by decide +kernel
theorem dX3_blow_1 : decode cX3_blow 1 = .ok (.invokevirtual 125, 3) := by decide +kernel
theorem dX3_blow_4 : decode cX3_blow 4 = .ok (.istore_n 1, 1) := by decide +kernel
theorem dX3_blow_5 : decode cX3_blow 5 = .ok (.aload_n 0, 1) := by decide +kernel
theorem dX3_blow_6 : decode cX3_blow 6 = .ok (.dup, 1) := by decide +kernel
theorem dX3_blow_7 : decode cX3_blow 7 = .ok (.getfield 44, 3) := by decide +kernel
theorem dX3_blow_10 : decode cX3_blow 10 = .ok (.aload_n 0, 1) := by decide +kernel
theorem dX3_blow_11 : decode cX3_blow 11 = .ok (.aload_n 0, 1) := by decide +kernel
theorem dX3_blow_12 : decode cX3_blow 12 = .ok (.getfield 22, 3) := by decide +kernel
theorem dX3_blow_15 : decode cX3_blow 15 = .ok (.iload_n 1, 1) := by decide +kernel
theorem dX3_blow_16 : decode cX3_blow 16 = .ok (.invokevirtual 128, 3) := by decide +kernel
theorem dX3_blow_19 : decode cX3_blow 19 = .ok (.iadd, 1) := by decide +kernel
theorem dX3_blow_20 : decode cX3_blow 20 = .ok (.putfield 44, 3) := by decide +kernel
theorem dX3_blow_23 : decode cX3_blow 23 = .ok (.iconst 0, 1) := by decide +kernel
theorem dX3_blow_24 : decode cX3_blow 24 = .ok (.istore_n 2, 1) := by decide +kernel
theorem dX3_blow_25 : decode cX3_blow 25 = .ok (.iload_n 2, 1) := by decide +kernel
theorem dX3_blow_26 : decode cX3_blow 26 = .ok (.iload_n 1, 1) := by decide +kernel
theorem dX3_blow_27 : decode cX3_blow 27 = .ok (.if_icmp .ge 23, 3) := by decide +kernel
theorem dX3_blow_30 : decode cX3_blow 30 = .ok (.aload_n 0, 1) := by decide +kernel
theorem dX3_blow_31 : decode cX3_blow 31 = .ok (.aload_n 0, 1) := by decide +kernel
theorem dX3_blow_32 : decode cX3_blow 32 = .ok (.getfield 22, 3) := by decide +kernel
theorem dX3_blow_35 : decode cX3_blow 35 = .ok (.iload_n 2, 1) := by decide +kernel
theorem dX3_blow_36 : decode cX3_blow 36 = .ok (.iadd, 1) := by decide +kernel
theorem dX3_blow_37 : decode cX3_blow 37 = .ok (.invokevirtual 64, 3) := by decide +kernel
theorem dX3_blow_40 : decode cX3_blow 40 = .ok (.iconst 0, 1) := by decide +kernel
theorem dX3_blow_41 : decode cX3_blow 41 = .ok (.putfield 56, 3) := by decide +kernel
theorem dX3_blow_44 : decode cX3_blow 44 = .ok (.iinc 2 1, 3) := by decide +kernel
theorem dX3_blow_47 : decode cX3_blow 47 = .ok (.goto (-22), 3) := by decide +kernel
theorem dX3_blow_50 : decode cX3_blow 50 = .ok (.aload_n 0, 1) := by decide +kernel
theorem dX3_blow_51 : decode cX3_blow 51 = .ok (.iconst (-1), 1) := by decide +kernel
theorem dX3_blow_52 : decode cX3_blow 52 = .ok (.putfield 22, 3) := by decide +kernel
theorem dX3_blow_55 : decode cX3_blow 55 = .ok (.aload_n 0, 1) := by decide +kernel
theorem dX3_blow_56 : decode cX3_blow 56 = .ok (.iconst 0, 1) := by decide +kernel
theorem dX3_blow_57 : decode cX3_blow 57 = .ok (.putfield 47, 3) := by decide +kernel
theorem dX3_blow_60 : decode cX3_blow 60 = .ok (.return_, 1) := by decide +kernel
theorem dX3_passBeats_0 : decode cX3_passBeats 0 = .ok (.iconst 0, 1) := by decide +kernel
theorem dX3_passBeats_1 : decode cX3_passBeats 1 = .ok (.istore_n 2, 1) := by decide +kernel
theorem dX3_passBeats_2 : decode cX3_passBeats 2 = .ok (.iconst 0, 1) := by decide +kernel
theorem dX3_passBeats_3 : decode cX3_passBeats 3 = .ok (.istore_n 3, 1) := by decide +kernel
theorem dX3_passBeats_4 : decode cX3_passBeats 4 = .ok (.iload_n 3, 1) := by decide +kernel
theorem dX3_passBeats_5 : decode cX3_passBeats 5 = .ok (.iload_n 1, 1) := by decide +kernel
theorem dX3_passBeats_6 : decode cX3_passBeats 6 = .ok (.if_icmp .ge 16, 3) := by decide +kernel
theorem dX3_passBeats_9 : decode cX3_passBeats 9 = .ok (.iload_n 2, 1) := by decide +kernel
theorem dX3_passBeats_10 : decode cX3_passBeats 10 = .ok (.aload_n 0, 1) := by decide +kernel
theorem dX3_passBeats_11 : decode cX3_passBeats 11 = .ok (.invokevirtual 134, 3) := by decide +kernel
theorem dX3_passBeats_14 : decode cX3_passBeats 14 = .ok (.iadd, 1) := by decide +kernel
theorem dX3_passBeats_15 : decode cX3_passBeats 15 = .ok (.istore_n 2, 1) := by decide +kernel
theorem dX3_passBeats_16 : decode cX3_passBeats 16 = .ok (.iinc 3 1, 3) := by decide +kernel
theorem dX3_passBeats_19 : decode cX3_passBeats 19 = .ok (.goto (-15), 3) := by decide +kernel
theorem dX3_passBeats_22 : decode cX3_passBeats 22 = .ok (.iload_n 2, 1) := by decide +kernel
theorem dX3_passBeats_23 : decode cX3_passBeats 23 = .ok (.ireturn, 1) := by decide +kernel
theorem dX3_passBeat_0 : decode cX3_passBeat 0 = .ok (.iconst 0, 1) := by decide +kernel
theorem dX3_passBeat_1 : decode cX3_passBeat 1 = .ok (.istore_n 1, 1) := by decide +kernel
theorem dX3_passBeat_2 : decode cX3_passBeat 2 = .ok (.iload_n 1, 1) := by decide +kernel
theorem dX3_passBeat_3 : decode cX3_passBeat 3 = .ok (.bipush 6, 2) := by decide +kernel
theorem dX3_passBeat_5 : decode cX3_passBeat 5 = .ok (.if_icmp .ge 18, 3) := by decide +kernel
theorem dX3_passBeat_8 : decode cX3_passBeat 8 = .ok (.aload_n 0, 1) := by decide +kernel
theorem dX3_passBeat_9 : decode cX3_passBeat 9 = .ok (.getfield 11, 3) := by decide +kernel
theorem dX3_passBeat_12 : decode cX3_passBeat 12 = .ok (.iload_n 1, 1) := by decide +kernel
theorem dX3_passBeat_13 : decode cX3_passBeat 13 = .ok (.aaload, 1) := by decide +kernel
theorem dX3_passBeat_14 : decode cX3_passBeat 14 = .ok (.invokevirtual 137, 3) := by decide +kernel
theorem dX3_passBeat_17 : decode cX3_passBeat 17 = .ok (.iinc 1 1, 3) := by decide +kernel
theorem dX3_passBeat_20 : decode cX3_passBeat 20 = .ok (.goto (-18), 3) := by decide +kernel
theorem dX3_passBeat_23 : decode cX3_passBeat 23 = .ok (.aload_n 0, 1) := by decide +kernel
theorem dX3_passBeat_24 : decode cX3_passBeat 24 = .ok (.invokevirtual 140, 3) := by decide +kernel
theorem dX3_passBeat_27 : decode cX3_passBeat 27 = .ok (.iconst 0, 1) := by decide +kernel
theorem dX3_passBeat_28 : decode cX3_passBeat 28 = .ok (.istore_n 1, 1) := by decide +kernel
theorem dX3_passBeat_29 : decode cX3_passBeat 29 = .ok (.iconst 0, 1) := by decide +kernel
theorem dX3_passBeat_30 : decode cX3_passBeat 30 = .ok (.istore_n 2, 1) := by decide +kernel
theorem dX3_passBeat_31 : decode cX3_passBeat 31 = .ok (.iload_n 2, 1) := by decide +kernel
theorem dX3_passBeat_32 : decode cX3_passBeat 32 = .ok (.bipush 6, 2) := by decide +kernel
theorem dX3_passBeat_34 : decode cX3_passBeat 34 = .ok (.if_icmp .ge 25, 3) := by decide +kernel
theorem dX3_passBeat_37 : decode cX3_passBeat 37 = .ok (.iload_n 1, 1) := by decide +kernel
theorem dX3_passBeat_38 : decode cX3_passBeat 38 = .ok (.aload_n 0, 1) := by decide +kernel
theorem dX3_passBeat_39 : decode cX3_passBeat 39 = .ok (.getfield 11, 3) := by decide +kernel
theorem dX3_passBeat_42 : decode cX3_passBeat 42 = .ok (.iload_n 2, 1) := by decide +kernel
theorem dX3_passBeat_43 : decode cX3_passBeat 43 = .ok (.aaload, 1) := by decide +kernel
theorem dX3_passBeat_44 : decode cX3_passBeat 44 = .ok (.aload_n 0, 1) := by decide +kernel
theorem dX3_passBeat_45 : decode cX3_passBeat 45 = .ok (.getfield 25, 3) := by decide +kernel
theorem dX3_passBeat_48 : decode cX3_passBeat 48 = .ok (.invokevirtual 143, 3) := by decide +kernel
theorem dX3_passBeat_51 : decode cX3_passBeat 51 = .ok (.iadd, 1) := by decide +kernel
theorem dX3_passBeat_52 : decode cX3_passBeat 52 = .ok (.istore_n 1, 1) := by decide +kernel
theorem dX3_passBeat_53 : decode cX3_passBeat 53 = .ok (.iinc 2 1, 3) := by decide +kernel
theorem dX3_passBeat_56 : decode cX3_passBeat 56 = .ok (.goto (-25), 3) := by decide +kernel
theorem dX3_passBeat_59 : decode cX3_passBeat 59 = .ok (.aload_n 0, 1) := by decide +kernel
theorem dX3_passBeat_60 : decode cX3_passBeat 60 = .ok (.dup, 1) := by decide +kernel
theorem dX3_passBeat_61 : decode cX3_passBeat 61 = .ok (.getfield 35, 3) := by decide +kernel
theorem dX3_passBeat_64 : decode cX3_passBeat 64 = .ok (.iload_n 1, 1) := by decide +kernel
theorem dX3_passBeat_65 : decode cX3_passBeat 65 = .ok (.iadd, 1) := by decide +kernel
theorem dX3_passBeat_66 : decode cX3_passBeat 66 = .ok (.putfield 35, 3) := by decide +kernel
theorem dX3_passBeat_69 : decode cX3_passBeat 69 = .ok (.aload_n 0, 1) := by decide +kernel
theorem dX3_passBeat_70 : decode cX3_passBeat 70 = .ok (.dup, 1) := by decide +kernel
theorem dX3_passBeat_71 : decode cX3_passBeat 71 = .ok (.getfield 32, 3) := by decide +kernel
theorem dX3_passBeat_74 : decode cX3_passBeat 74 = .ok (.iconst 1, 1) := by decide +kernel
theorem dX3_passBeat_75 : decode cX3_passBeat 75 = .ok (.iadd, 1) := by decide +kernel
theorem dX3_passBeat_76 : decode cX3_passBeat 76 = .ok (.putfield 32, 3) := by decide +kernel
theorem dX3_passBeat_79 : decode cX3_passBeat 79 = .ok (.iload_n 1, 1) := by decide +kernel
theorem dX3_passBeat_80 : decode cX3_passBeat 80 = .ok (.ireturn, 1) := by decide +kernel
theorem dX3_readThing_0 : decode cX3_readThing 0 = .ok (.aload_n 0, 1) := by decide +kernel
theorem dX3_readThing_1 : decode cX3_readThing 1 = .ok (.iload_n 1, 1) := by decide +kernel
theorem dX3_readThing_2 : decode cX3_readThing 2 = .ok (.invokevirtual 75, 3) := by decide +kernel
theorem dX3_readThing_5 : decode cX3_readThing 5 = .ok (.istore_n 2, 1) := by decide +kernel
theorem dX3_readThing_6 : decode cX3_readThing 6 = .ok (.iload_n 2, 1) := by decide +kernel
theorem dX3_readThing_7 : decode cX3_readThing 7 = .ok (.iconst (-1), 1) := by decide +kernel
theorem dX3_readThing_8 : decode cX3_readThing 8 = .ok (.if_icmp .ne 5, 3) := by decide +kernel
theorem dX3_readThing_11 : decode cX3_readThing 11 = .ok (.iconst (-1), 1) := by decide +kernel
theorem dX3_readThing_12 : decode cX3_readThing 12 = .ok (.ireturn, 1) := by decide +kernel
theorem dX3_readThing_13 : decode cX3_readThing 13 = .ok (.aload_n 0, 1) := by decide +kernel
theorem dX3_readThing_14 : decode cX3_readThing 14 = .ok (.iload_n 2, 1) := by decide +kernel
theorem dX3_readThing_15 : decode cX3_readThing 15 = .ok (.invokevirtual 64, 3) := by decide +kernel
theorem dX3_readThing_18 : decode cX3_readThing 18 = .ok (.astore_n 3, 1) := by decide +kernel
theorem dX3_readThing_19 : decode cX3_readThing 19 = .ok (.aload_n 0, 1) := by decide +kernel
theorem dX3_readThing_20 : decode cX3_readThing 20 = .ok (.dup, 1) := by decide +kernel
theorem dX3_readThing_21 : decode cX3_readThing 21 = .ok (.getfield 38, 3) := by decide +kernel
theorem dX3_readThing_24 : decode cX3_readThing 24 = .ok (.iconst 1, 1) := by decide +kernel
theorem dX3_readThing_25 : decode cX3_readThing 25 = .ok (.iadd, 1) := by decide +kernel
theorem dX3_readThing_26 : decode cX3_readThing 26 = .ok (.putfield 38, 3) := by decide +kernel
theorem dX3_readThing_29 : decode cX3_readThing 29 = .ok (.aload_n 3, 1) := by decide +kernel
theorem dX3_readThing_30 : decode cX3_readThing 30 = .ok (.getfield 56, 3) := by decide +kernel
theorem dX3_readThing_33 : decode cX3_readThing 33 = .ok (.ifCond .eq 17, 3) := by decide +kernel
theorem dX3_readThing_36 : decode cX3_readThing 36 = .ok (.aload_n 3, 1) := by decide +kernel
theorem dX3_readThing_37 : decode cX3_readThing 37 = .ok (.iconst 0, 1) := by decide +kernel
theorem dX3_readThing_38 : decode cX3_readThing 38 = .ok (.putfield 146, 3) := by decide +kernel
theorem dX3_readThing_41 : decode cX3_readThing 41 = .ok (.aload_n 0, 1) := by decide +kernel
theorem dX3_readThing_42 : decode cX3_readThing 42 = .ok (.iconst 1, 1) := by decide +kernel
theorem dX3_readThing_43 : decode cX3_readThing 43 = .ok (.invokevirtual 149, 3) := by decide +kernel
theorem dX3_readThing_46 : decode cX3_readThing 46 = .ok (.pop, 1) := by decide +kernel
theorem dX3_readThing_47 : decode cX3_readThing 47 = .ok (.goto 19, 3) := by decide +kernel
theorem dX3_readThing_50 : decode cX3_readThing 50 = .ok (.aload_n 0, 1) := by decide +kernel
theorem dX3_readThing_51 : decode cX3_readThing 51 = .ok (.dup, 1) := by decide +kernel
theorem dX3_readThing_52 : decode cX3_readThing 52 = .ok (.getfield 41, 3) := by decide +kernel
theorem dX3_readThing_55 : decode cX3_readThing 55 = .ok (.iconst 1, 1) := by decide +kernel
theorem dX3_readThing_56 : decode cX3_readThing 56 = .ok (.iadd, 1) := by decide +kernel
theorem dX3_readThing_57 : decode cX3_readThing 57 = .ok (.putfield 41, 3) := by decide +kernel
theorem dX3_readThing_60 : decode cX3_readThing 60 = .ok (.aload_n 0, 1) := by decide +kernel
theorem dX3_readThing_61 : decode cX3_readThing 61 = .ok (.iconst 3, 1) := by decide +kernel
theorem dX3_readThing_62 : decode cX3_readThing 62 = .ok (.invokevirtual 149, 3) := by decide +kernel
theorem dX3_readThing_65 : decode cX3_readThing 65 = .ok (.pop, 1) := by decide +kernel
theorem dX3_readThing_66 : decode cX3_readThing 66 = .ok (.iload_n 2, 1) := by decide +kernel
theorem dX3_readThing_67 : decode cX3_readThing 67 = .ok (.ireturn, 1) := by decide +kernel
theorem dX3_beatsLit_0 : decode cX3_beatsLit 0 = .ok (.aload_n 0, 1) := by decide +kernel
theorem dX3_beatsLit_1 : decode cX3_beatsLit 1 = .ok (.iload_n 1, 1) := by decide +kernel
theorem dX3_beatsLit_2 : decode cX3_beatsLit 2 = .ok (.invokevirtual 64, 3) := by decide +kernel
theorem dX3_beatsLit_5 : decode cX3_beatsLit 5 = .ok (.astore_n 2, 1) := by decide +kernel
theorem dX3_beatsLit_6 : decode cX3_beatsLit 6 = .ok (.aload_n 2, 1) := by decide +kernel
theorem dX3_beatsLit_7 : decode cX3_beatsLit 7 = .ok (.getfield 56, 3) := by decide +kernel
theorem dX3_beatsLit_10 : decode cX3_beatsLit 10 = .ok (.ifCond .ne 5, 3) := by decide +kernel
theorem dX3_beatsLit_13 : decode cX3_beatsLit 13 = .ok (.iconst 0, 1) := by decide +kernel
theorem dX3_beatsLit_14 : decode cX3_beatsLit 14 = .ok (.ireturn, 1) := by decide +kernel
theorem dX3_beatsLit_15 : decode cX3_beatsLit 15 = .ok (.aload_n 0, 1) := by decide +kernel
theorem dX3_beatsLit_16 : decode cX3_beatsLit 16 = .ok (.iload_n 1, 1) := by decide +kernel
theorem dX3_beatsLit_17 : decode cX3_beatsLit 17 = .ok (.invokevirtual 152, 3) := by decide +kernel
theorem dX3_beatsLit_20 : decode cX3_beatsLit 20 = .ok (.ifCond .eq 7, 3) := by decide +kernel
theorem dX3_beatsLit_23 : decode cX3_beatsLit 23 = .ok (.iconst 1, 1) := by decide +kernel
theorem dX3_beatsLit_24 : decode cX3_beatsLit 24 = .ok (.goto 7, 3) := by decide +kernel
theorem dX3_beatsLit_27 : decode cX3_beatsLit 27 = .ok (.aload_n 2, 1) := by decide +kernel
theorem dX3_beatsLit_28 : decode cX3_beatsLit 28 = .ok (.invokevirtual 155, 3) := by decide +kernel
theorem dX3_beatsLit_31 : decode cX3_beatsLit 31 = .ok (.ireturn, 1) := by decide +kernel
theorem dX3_beatsToForgetting_0 : decode cX3_beatsToForgetting 0 = .ok (.iconst (-1), 1) := by decide +kernel
theorem dX3_beatsToForgetting_1 : decode cX3_beatsToForgetting 1 = .ok (.istore_n 1, 1) := by decide +kernel
theorem dX3_beatsToForgetting_2 : decode cX3_beatsToForgetting 2 = .ok (.iconst 0, 1) := by decide +kernel
theorem dX3_beatsToForgetting_3 : decode cX3_beatsToForgetting 3 = .ok (.istore_n 2, 1) := by decide +kernel
theorem dX3_beatsToForgetting_4 : decode cX3_beatsToForgetting 4 = .ok (.iload_n 2, 1) := by decide +kernel
theorem dX3_beatsToForgetting_5 : decode cX3_beatsToForgetting 5 = .ok (.bipush 6, 2) := by decide +kernel
theorem dX3_beatsToForgetting_7 : decode cX3_beatsToForgetting 7 = .ok (.if_icmp .ge 55, 3) := by decide +kernel
theorem dX3_beatsToForgetting_10 : decode cX3_beatsToForgetting 10 = .ok (.aload_n 0, 1) := by decide +kernel
theorem dX3_beatsToForgetting_11 : decode cX3_beatsToForgetting 11 = .ok (.getfield 11, 3) := by decide +kernel
theorem dX3_beatsToForgetting_14 : decode cX3_beatsToForgetting 14 = .ok (.iload_n 2, 1) := by decide +kernel
theorem dX3_beatsToForgetting_15 : decode cX3_beatsToForgetting 15 = .ok (.aaload, 1) := by decide +kernel
theorem dX3_beatsToForgetting_16 : decode cX3_beatsToForgetting 16 = .ok (.getfield 68, 3) := by decide +kernel
theorem dX3_beatsToForgetting_19 : decode cX3_beatsToForgetting 19 = .ok (.ifCond .le 37, 3) := by decide +kernel
theorem dX3_beatsToForgetting_22 : decode cX3_beatsToForgetting 22 = .ok (.aload_n 0, 1) := by decide +kernel
theorem dX3_beatsToForgetting_23 : decode cX3_beatsToForgetting 23 = .ok (.getfield 11, 3) := by decide +kernel
theorem dX3_beatsToForgetting_26 : decode cX3_beatsToForgetting 26 = .ok (.iload_n 2, 1) := by decide +kernel
theorem dX3_beatsToForgetting_27 : decode cX3_beatsToForgetting 27 = .ok (.aaload, 1) := by decide +kernel
theorem dX3_beatsToForgetting_28 : decode cX3_beatsToForgetting 28 = .ok (.aload_n 0, 1) := by decide +kernel
theorem dX3_beatsToForgetting_29 : decode cX3_beatsToForgetting 29 = .ok (.iload_n 2, 1) := by decide +kernel
theorem dX3_beatsToForgetting_30 : decode cX3_beatsToForgetting 30 = .ok (.invokevirtual 158, 3) := by decide +kernel
theorem dX3_beatsToForgetting_33 : decode cX3_beatsToForgetting 33 = .ok (.aload_n 0, 1) := by decide +kernel
theorem dX3_beatsToForgetting_34 : decode cX3_beatsToForgetting 34 = .ok (.getfield 25, 3) := by decide +kernel
theorem dX3_beatsToForgetting_37 : decode cX3_beatsToForgetting 37 = .ok (.invokevirtual 161, 3) := by decide +kernel
theorem dX3_beatsToForgetting_40 : decode cX3_beatsToForgetting 40 = .ok (.istore_n 3, 1) := by decide +kernel
theorem dX3_beatsToForgetting_41 : decode cX3_beatsToForgetting 41 = .ok (.iload_n 1, 1) := by decide +kernel
theorem dX3_beatsToForgetting_42 : decode cX3_beatsToForgetting 42 = .ok (.iconst (-1), 1) := by decide +kernel
theorem dX3_beatsToForgetting_43 : decode cX3_beatsToForgetting 43 = .ok (.if_icmp .ne 7, 3) := by decide +kernel
theorem dX3_beatsToForgetting_46 : decode cX3_beatsToForgetting 46 = .ok (.iload_n 3, 1) := by decide +kernel
theorem dX3_beatsToForgetting_47 : decode cX3_beatsToForgetting 47 = .ok (.goto 8, 3) := by decide +kernel
theorem dX3_beatsToForgetting_50 : decode cX3_beatsToForgetting 50 = .ok (.iload_n 1, 1) := by decide +kernel
theorem dX3_beatsToForgetting_51 : decode cX3_beatsToForgetting 51 = .ok (.iload_n 3, 1) := by decide +kernel
theorem dX3_beatsToForgetting_52 : decode cX3_beatsToForgetting 52 = .ok (.invokestatic 164, 3) := by decide +kernel
theorem dX3_beatsToForgetting_55 : decode cX3_beatsToForgetting 55 = .ok (.istore_n 1, 1) := by decide +kernel
theorem dX3_beatsToForgetting_56 : decode cX3_beatsToForgetting 56 = .ok (.iinc 2 1, 3) := by decide +kernel
theorem dX3_beatsToForgetting_59 : decode cX3_beatsToForgetting 59 = .ok (.goto (-55), 3) := by decide +kernel
theorem dX3_beatsToForgetting_62 : decode cX3_beatsToForgetting 62 = .ok (.iload_n 1, 1) := by decide +kernel
theorem dX3_beatsToForgetting_63 : decode cX3_beatsToForgetting 63 = .ok (.ireturn, 1) := by decide +kernel
theorem dX3_candlesToLight_0 : decode cX3_candlesToLight 0 = .ok (.aload_n 0, 1) := by decide +kernel
theorem dX3_candlesToLight_1 : decode cX3_candlesToLight 1 = .ok (.invokevirtual 81, 3) := by decide +kernel
theorem dX3_candlesToLight_4 : decode cX3_candlesToLight 4 = .ok (.ifCond .ne 20, 3) := by decide +kernel
theorem dX3_candlesToLight_7 : decode cX3_candlesToLight 7 = .ok (.aload_n 0, 1) := by decide +kernel
theorem dX3_candlesToLight_8 : decode cX3_candlesToLight 8 = .ok (.iload_n 1, 1) := by decide +kernel
theorem dX3_candlesToLight_9 : decode cX3_candlesToLight 9 = .ok (.invokevirtual 64, 3) := by decide +kernel
theorem dX3_candlesToLight_12 : decode cX3_candlesToLight 12 = .ok (.getfield 85, 3) := by decide +kernel
theorem dX3_candlesToLight_15 : decode cX3_candlesToLight 15 = .ok (.ifCond .le 7, 3) := by decide +kernel
theorem dX3_candlesToLight_18 : decode cX3_candlesToLight 18 = .ok (.iconst 1, 1) := by decide +kernel
theorem dX3_candlesToLight_19 : decode cX3_candlesToLight 19 = .ok (.goto 4, 3) := by decide +kernel
theorem dX3_candlesToLight_22 : decode cX3_candlesToLight 22 = .ok (.iconst (-1), 1) := by decide +kernel
theorem dX3_candlesToLight_23 : decode cX3_candlesToLight 23 = .ok (.ireturn, 1) := by decide +kernel
theorem dX3_candlesToLight_24 : decode cX3_candlesToLight 24 = .ok (.aload_n 0, 1) := by decide +kernel
theorem dX3_candlesToLight_25 : decode cX3_candlesToLight 25 = .ok (.iload_n 1, 1) := by decide +kernel
theorem dX3_candlesToLight_26 : decode cX3_candlesToLight 26 = .ok (.iconst (-1), 1) := by decide +kernel
theorem dX3_candlesToLight_27 : decode cX3_candlesToLight 27 = .ok (.invokevirtual 167, 3) := by decide +kernel
theorem dX3_candlesToLight_30 : decode cX3_candlesToLight 30 = .ok (.istore_n 2, 1) := by decide +kernel
theorem dX3_candlesToLight_31 : decode cX3_candlesToLight 31 = .ok (.aload_n 0, 1) := by decide +kernel
theorem dX3_candlesToLight_32 : decode cX3_candlesToLight 32 = .ok (.iload_n 1, 1) := by decide +kernel
theorem dX3_candlesToLight_33 : decode cX3_candlesToLight 33 = .ok (.iconst 1, 1) := by decide +kernel
theorem dX3_candlesToLight_34 : decode cX3_candlesToLight 34 = .ok (.invokevirtual 167, 3) := by decide +kernel
theorem dX3_candlesToLight_37 : decode cX3_candlesToLight 37 = .ok (.istore_n 3, 1) := by decide +kernel
theorem dX3_candlesToLight_38 : decode cX3_candlesToLight 38 = .ok (.iload_n 2, 1) := by decide +kernel
theorem dX3_candlesToLight_39 : decode cX3_candlesToLight 39 = .ok (.iconst (-1), 1) := by decide +kernel
theorem dX3_candlesToLight_40 : decode cX3_candlesToLight 40 = .ok (.if_icmp .ne 5, 3) := by decide +kernel
theorem dX3_candlesToLight_43 : decode cX3_candlesToLight 43 = .ok (.iload_n 3, 1) := by decide +kernel
theorem dX3_candlesToLight_44 : decode cX3_candlesToLight 44 = .ok (.ireturn, 1) := by decide +kernel
theorem dX3_candlesToLight_45 : decode cX3_candlesToLight 45 = .ok (.iload_n 3, 1) := by decide +kernel
theorem dX3_candlesToLight_46 : decode cX3_candlesToLight 46 = .ok (.iconst (-1), 1) := by decide +kernel
theorem dX3_candlesToLight_47 : decode cX3_candlesToLight 47 = .ok (.if_icmp .ne 7, 3) := by decide +kernel
theorem dX3_candlesToLight_50 : decode cX3_candlesToLight 50 = .ok (.iload_n 2, 1) := by decide +kernel
theorem dX3_candlesToLight_51 : decode cX3_candlesToLight 51 = .ok (.goto 8, 3) := by decide +kernel
theorem dX3_candlesToLight_54 : decode cX3_candlesToLight 54 = .ok (.iload_n 2, 1) := by decide +kernel
theorem dX3_candlesToLight_55 : decode cX3_candlesToLight 55 = .ok (.iload_n 3, 1) := by decide +kernel
theorem dX3_candlesToLight_56 : decode cX3_candlesToLight 56 = .ok (.invokestatic 164, 3) := by decide +kernel
theorem dX3_candlesToLight_59 : decode cX3_candlesToLight 59 = .ok (.ireturn, 1) := by decide +kernel
theorem dX3_candlesOnWay_0 : decode cX3_candlesOnWay 0 = .ok (.iconst 0, 1) := by decide +kernel
theorem dX3_candlesOnWay_1 : decode cX3_candlesOnWay 1 = .ok (.istore_n 3, 1) := by decide +kernel
theorem dX3_candlesOnWay_2 : decode cX3_candlesOnWay 2 = .ok (.iload_n 3, 1) := by decide +kernel
theorem dX3_candlesOnWay_3 : decode cX3_candlesOnWay 3 = .ok (.bipush 6, 2) := by decide +kernel
theorem dX3_candlesOnWay_5 : decode cX3_candlesOnWay 5 = .ok (.if_icmp .ge 71, 3) := by decide +kernel
theorem dX3_candlesOnWay_8 : decode cX3_candlesOnWay 8 = .ok (.iload_n 1, 1) := by decide +kernel
theorem dX3_candlesOnWay_9 : decode cX3_candlesOnWay 9 = .ok (.iload_n 3, 1) := by decide +kernel
theorem dX3_candlesOnWay_10 : decode cX3_candlesOnWay 10 = .ok (.iload_n 2, 1) := by decide +kernel
theorem dX3_candlesOnWay_11 : decode cX3_candlesOnWay 11 = .ok (.imul, 1) := by decide +kernel
theorem dX3_candlesOnWay_12 : decode cX3_candlesOnWay 12 = .ok (.iadd, 1) := by decide +kernel
theorem dX3_candlesOnWay_13 : decode cX3_candlesOnWay 13 = .ok (.bipush 6, 2) := by decide +kernel
theorem dX3_candlesOnWay_15 : decode cX3_candlesOnWay 15 = .ok (.invokestatic 50, 3) := by decide +kernel
theorem dX3_candlesOnWay_18 : decode cX3_candlesOnWay 18 = .ok (.istore 4, 2) := by decide +kernel
theorem dX3_candlesOnWay_20 : decode cX3_candlesOnWay 20 = .ok (.aload_n 0, 1) := by decide +kernel
theorem dX3_candlesOnWay_21 : decode cX3_candlesOnWay 21 = .ok (.iload 4, 2) := by decide +kernel
theorem dX3_candlesOnWay_23 : decode cX3_candlesOnWay 23 = .ok (.invokevirtual 64, 3) := by decide +kernel
theorem dX3_candlesOnWay_26 : decode cX3_candlesOnWay 26 = .ok (.getfield 56, 3) := by decide +kernel
theorem dX3_candlesOnWay_29 : decode cX3_candlesOnWay 29 = .ok (.ifCond .eq 5, 3) := by decide +kernel
theorem dX3_candlesOnWay_32 : decode cX3_candlesOnWay 32 = .ok (.iload_n 3, 1) := by decide +kernel
theorem dX3_candlesOnWay_33 : decode cX3_candlesOnWay 33 = .ok (.ireturn, 1) := by decide +kernel
theorem dX3_candlesOnWay_34 : decode cX3_candlesOnWay 34 = .ok (.iload 4, 2) := by decide +kernel
theorem dX3_candlesOnWay_36 : decode cX3_candlesOnWay 36 = .ok (.iload_n 2, 1) := by decide +kernel
theorem dX3_candlesOnWay_37 : decode cX3_candlesOnWay 37 = .ok (.iadd, 1) := by decide +kernel
theorem dX3_candlesOnWay_38 : decode cX3_candlesOnWay 38 = .ok (.bipush 6, 2) := by decide +kernel
theorem dX3_candlesOnWay_40 : decode cX3_candlesOnWay 40 = .ok (.invokestatic 50, 3) := by decide +kernel
theorem dX3_candlesOnWay_43 : decode cX3_candlesOnWay 43 = .ok (.istore 5, 2) := by decide +kernel
theorem dX3_candlesOnWay_45 : decode cX3_candlesOnWay 45 = .ok (.aload_n 0, 1) := by decide +kernel
theorem dX3_candlesOnWay_46 : decode cX3_candlesOnWay 46 = .ok (.iload 4, 2) := by decide +kernel
theorem dX3_candlesOnWay_48 : decode cX3_candlesOnWay 48 = .ok (.invokevirtual 64, 3) := by decide +kernel
theorem dX3_candlesOnWay_51 : decode cX3_candlesOnWay 51 = .ok (.getfield 85, 3) := by decide +kernel
theorem dX3_candlesOnWay_54 : decode cX3_candlesOnWay 54 = .ok (.ifCond .eq 14, 3) := by decide +kernel
theorem dX3_candlesOnWay_57 : decode cX3_candlesOnWay 57 = .ok (.aload_n 0, 1) := by decide +kernel
theorem dX3_candlesOnWay_58 : decode cX3_candlesOnWay 58 = .ok (.iload 4, 2) := by decide +kernel
theorem dX3_candlesOnWay_60 : decode cX3_candlesOnWay 60 = .ok (.iload 5, 2) := by decide +kernel
theorem dX3_candlesOnWay_62 : decode cX3_candlesOnWay 62 = .ok (.invokevirtual 88, 3) := by decide +kernel
theorem dX3_candlesOnWay_65 : decode cX3_candlesOnWay 65 = .ok (.ifCond .ne 5, 3) := by decide +kernel
theorem dX3_candlesOnWay_68 : decode cX3_candlesOnWay 68 = .ok (.iconst (-1), 1) := by decide +kernel
theorem dX3_candlesOnWay_69 : decode cX3_candlesOnWay 69 = .ok (.ireturn, 1) := by decide +kernel
theorem dX3_candlesOnWay_70 : decode cX3_candlesOnWay 70 = .ok (.iinc 3 1, 3) := by decide +kernel
theorem dX3_candlesOnWay_73 : decode cX3_candlesOnWay 73 = .ok (.goto (-71), 3) := by decide +kernel
theorem dX3_candlesOnWay_76 : decode cX3_candlesOnWay 76 = .ok (.iconst (-1), 1) := by decide +kernel
theorem dX3_candlesOnWay_77 : decode cX3_candlesOnWay 77 = .ok (.ireturn, 1) := by decide +kernel
theorem dX3_neediest_0 : decode cX3_neediest 0 = .ok (.iconst (-1), 1) := by decide +kernel
theorem dX3_neediest_1 : decode cX3_neediest 1 = .ok (.istore_n 1, 1) := by decide +kernel
theorem dX3_neediest_2 : decode cX3_neediest 2 = .ok (.iconst 0, 1) := by decide +kernel
theorem dX3_neediest_3 : decode cX3_neediest 3 = .ok (.istore_n 2, 1) := by decide +kernel
theorem dX3_neediest_4 : decode cX3_neediest 4 = .ok (.iload_n 2, 1) := by decide +kernel
theorem dX3_neediest_5 : decode cX3_neediest 5 = .ok (.bipush 6, 2) := by decide +kernel
theorem dX3_neediest_7 : decode cX3_neediest 7 = .ok (.if_icmp .ge 37, 3) := by decide +kernel
theorem dX3_neediest_10 : decode cX3_neediest 10 = .ok (.aload_n 0, 1) := by decide +kernel
theorem dX3_neediest_11 : decode cX3_neediest 11 = .ok (.getfield 11, 3) := by decide +kernel
theorem dX3_neediest_14 : decode cX3_neediest 14 = .ok (.iload_n 2, 1) := by decide +kernel
theorem dX3_neediest_15 : decode cX3_neediest 15 = .ok (.aaload, 1) := by decide +kernel
theorem dX3_neediest_16 : decode cX3_neediest 16 = .ok (.getfield 68, 3) := by decide +kernel
theorem dX3_neediest_19 : decode cX3_neediest 19 = .ok (.ifCond .le 19, 3) := by decide +kernel
theorem dX3_neediest_22 : decode cX3_neediest 22 = .ok (.iload_n 1, 1) := by decide +kernel
theorem dX3_neediest_23 : decode cX3_neediest 23 = .ok (.iconst (-1), 1) := by decide +kernel
theorem dX3_neediest_24 : decode cX3_neediest 24 = .ok (.if_icmp .eq 12, 3) := by decide +kernel
theorem dX3_neediest_27 : decode cX3_neediest 27 = .ok (.aload_n 0, 1) := by decide +kernel
theorem dX3_neediest_28 : decode cX3_neediest 28 = .ok (.iload_n 2, 1) := by decide +kernel
theorem dX3_neediest_29 : decode cX3_neediest 29 = .ok (.iload_n 1, 1) := by decide +kernel
theorem dX3_neediest_30 : decode cX3_neediest 30 = .ok (.invokevirtual 170, 3) := by decide +kernel
theorem dX3_neediest_33 : decode cX3_neediest 33 = .ok (.ifCond .eq 5, 3) := by decide +kernel
theorem dX3_neediest_36 : decode cX3_neediest 36 = .ok (.iload_n 2, 1) := by decide +kernel
theorem dX3_neediest_37 : decode cX3_neediest 37 = .ok (.istore_n 1, 1) := by decide +kernel
theorem dX3_neediest_38 : decode cX3_neediest 38 = .ok (.iinc 2 1, 3) := by decide +kernel
theorem dX3_neediest_41 : decode cX3_neediest 41 = .ok (.goto (-37), 3) := by decide +kernel
theorem dX3_neediest_44 : decode cX3_neediest 44 = .ok (.iload_n 1, 1) := by decide +kernel
theorem dX3_neediest_45 : decode cX3_neediest 45 = .ok (.ireturn, 1) := by decide +kernel
theorem dX3_isNeedier_0 : decode cX3_isNeedier 0 = .ok (.aload_n 0, 1) := by decide +kernel
theorem dX3_isNeedier_1 : decode cX3_isNeedier 1 = .ok (.iload_n 1, 1) := by decide +kernel
theorem dX3_isNeedier_2 : decode cX3_isNeedier 2 = .ok (.invokevirtual 64, 3) := by decide +kernel
theorem dX3_isNeedier_5 : decode cX3_isNeedier 5 = .ok (.astore_n 3, 1) := by decide +kernel
theorem dX3_isNeedier_6 : decode cX3_isNeedier 6 = .ok (.aload_n 0, 1) := by decide +kernel
theorem dX3_isNeedier_7 : decode cX3_isNeedier 7 = .ok (.iload_n 2, 1) := by decide +kernel
theorem dX3_isNeedier_8 : decode cX3_isNeedier 8 = .ok (.invokevirtual 64, 3) := by decide +kernel
theorem dX3_isNeedier_11 : decode cX3_isNeedier 11 = .ok (.astore 4, 2) := by decide +kernel
theorem dX3_isNeedier_13 : decode cX3_isNeedier 13 = .ok (.aload_n 3, 1) := by decide +kernel
theorem dX3_isNeedier_14 : decode cX3_isNeedier 14 = .ok (.getfield 85, 3) := by decide +kernel
theorem dX3_isNeedier_17 : decode cX3_isNeedier 17 = .ok (.aload 4, 2) := by decide +kernel
theorem dX3_isNeedier_19 : decode cX3_isNeedier 19 = .ok (.getfield 85, 3) := by decide +kernel
theorem dX3_isNeedier_22 : decode cX3_isNeedier 22 = .ok (.if_icmp .eq 21, 3) := by decide +kernel
theorem dX3_isNeedier_25 : decode cX3_isNeedier 25 = .ok (.aload_n 3, 1) := by decide +kernel
theorem dX3_isNeedier_26 : decode cX3_isNeedier 26 = .ok (.getfield 85, 3) := by decide +kernel
theorem dX3_isNeedier_29 : decode cX3_isNeedier 29 = .ok (.aload 4, 2) := by decide +kernel
theorem dX3_isNeedier_31 : decode cX3_isNeedier 31 = .ok (.getfield 85, 3) := by decide +kernel
theorem dX3_isNeedier_34 : decode cX3_isNeedier 34 = .ok (.if_icmp .ge 7, 3) := by decide +kernel
theorem dX3_isNeedier_37 : decode cX3_isNeedier 37 = .ok (.iconst 1, 1) := by decide +kernel
theorem dX3_isNeedier_38 : decode cX3_isNeedier 38 = .ok (.goto 4, 3) := by decide +kernel
theorem dX3_isNeedier_41 : decode cX3_isNeedier 41 = .ok (.iconst 0, 1) := by decide +kernel
theorem dX3_isNeedier_42 : decode cX3_isNeedier 42 = .ok (.ireturn, 1) := by decide +kernel
theorem dX3_isNeedier_43 : decode cX3_isNeedier 43 = .ok (.aload_n 3, 1) := by decide +kernel
theorem dX3_isNeedier_44 : decode cX3_isNeedier 44 = .ok (.getfield 68, 3) := by decide +kernel
theorem dX3_isNeedier_47 : decode cX3_isNeedier 47 = .ok (.aload 4, 2) := by decide +kernel
theorem dX3_isNeedier_49 : decode cX3_isNeedier 49 = .ok (.getfield 68, 3) := by decide +kernel
theorem dX3_isNeedier_52 : decode cX3_isNeedier 52 = .ok (.if_icmp .le 7, 3) := by decide +kernel
theorem dX3_isNeedier_55 : decode cX3_isNeedier 55 = .ok (.iconst 1, 1) := by decide +kernel
theorem dX3_isNeedier_56 : decode cX3_isNeedier 56 = .ok (.goto 4, 3) := by decide +kernel
theorem dX3_isNeedier_59 : decode cX3_isNeedier 59 = .ok (.iconst 0, 1) := by decide +kernel
theorem dX3_isNeedier_60 : decode cX3_isNeedier 60 = .ok (.ireturn, 1) := by decide +kernel
theorem dX3_shareInLight_0 : decode cX3_shareInLight 0 = .ok (.aload_n 0, 1) := by decide +kernel
theorem dX3_shareInLight_1 : decode cX3_shareInLight 1 = .ok (.invokevirtual 173, 3) := by decide +kernel
theorem dX3_shareInLight_4 : decode cX3_shareInLight 4 = .ok (.istore_n 1, 1) := by decide +kernel
theorem dX3_shareInLight_5 : decode cX3_shareInLight 5 = .ok (.iload_n 1, 1) := by decide +kernel
theorem dX3_shareInLight_6 : decode cX3_shareInLight 6 = .ok (.ifCond .ne 5, 3) := by decide +kernel
theorem dX3_shareInLight_9 : decode cX3_shareInLight 9 = .ok (.dconst 1, 1) := by decide +kernel
theorem dX3_shareInLight_10 : decode cX3_shareInLight 10 = .ok (.dreturn, 1) := by decide +kernel
theorem dX3_shareInLight_11 : decode cX3_shareInLight 11 = .ok (.iconst 0, 1) := by decide +kernel
theorem dX3_shareInLight_12 : decode cX3_shareInLight 12 = .ok (.istore_n 2, 1) := by decide +kernel
theorem dX3_shareInLight_13 : decode cX3_shareInLight 13 = .ok (.iconst 0, 1) := by decide +kernel
theorem dX3_shareInLight_14 : decode cX3_shareInLight 14 = .ok (.istore_n 3, 1) := by decide +kernel
theorem dX3_shareInLight_15 : decode cX3_shareInLight 15 = .ok (.iload_n 3, 1) := by decide +kernel
theorem dX3_shareInLight_16 : decode cX3_shareInLight 16 = .ok (.bipush 6, 2) := by decide +kernel
theorem dX3_shareInLight_18 : decode cX3_shareInLight 18 = .ok (.if_icmp .ge 37, 3) := by decide +kernel
theorem dX3_shareInLight_21 : decode cX3_shareInLight 21 = .ok (.iload_n 2, 1) := by decide +kernel
theorem dX3_shareInLight_22 : decode cX3_shareInLight 22 = .ok (.aload_n 0, 1) := by decide +kernel
theorem dX3_shareInLight_23 : decode cX3_shareInLight 23 = .ok (.getfield 11, 3) := by decide +kernel
theorem dX3_shareInLight_26 : decode cX3_shareInLight 26 = .ok (.iload_n 3, 1) := by decide +kernel
theorem dX3_shareInLight_27 : decode cX3_shareInLight 27 = .ok (.aaload, 1) := by decide +kernel
theorem dX3_shareInLight_28 : decode cX3_shareInLight 28 = .ok (.getfield 56, 3) := by decide +kernel
theorem dX3_shareInLight_31 : decode cX3_shareInLight 31 = .ok (.ifCond .eq 15, 3) := by decide +kernel
theorem dX3_shareInLight_34 : decode cX3_shareInLight 34 = .ok (.aload_n 0, 1) := by decide +kernel
theorem dX3_shareInLight_35 : decode cX3_shareInLight 35 = .ok (.getfield 11, 3) := by decide +kernel
theorem dX3_shareInLight_38 : decode cX3_shareInLight 38 = .ok (.iload_n 3, 1) := by decide +kernel
theorem dX3_shareInLight_39 : decode cX3_shareInLight 39 = .ok (.aaload, 1) := by decide +kernel
theorem dX3_shareInLight_40 : decode cX3_shareInLight 40 = .ok (.getfield 68, 3) := by decide +kernel
theorem dX3_shareInLight_43 : decode cX3_shareInLight 43 = .ok (.goto 4, 3) := by decide +kernel
theorem dX3_shareInLight_46 : decode cX3_shareInLight 46 = .ok (.iconst 0, 1) := by decide +kernel
theorem dX3_shareInLight_47 : decode cX3_shareInLight 47 = .ok (.iadd, 1) := by decide +kernel
theorem dX3_shareInLight_48 : decode cX3_shareInLight 48 = .ok (.istore_n 2, 1) := by decide +kernel
theorem dX3_shareInLight_49 : decode cX3_shareInLight 49 = .ok (.iinc 3 1, 3) := by decide +kernel
theorem dX3_shareInLight_52 : decode cX3_shareInLight 52 = .ok (.goto (-37), 3) := by decide +kernel
theorem dX3_shareInLight_55 : decode cX3_shareInLight 55 = .ok (.iload_n 2, 1) := by decide +kernel
theorem dX3_shareInLight_56 : decode cX3_shareInLight 56 = .ok (.i2d, 1) := by decide +kernel
theorem dX3_shareInLight_57 : decode cX3_shareInLight 57 = .ok (.iload_n 1, 1) := by decide +kernel
theorem dX3_shareInLight_58 : decode cX3_shareInLight 58 = .ok (.i2d, 1) := by decide +kernel
theorem dX3_shareInLight_59 : decode cX3_shareInLight 59 = .ok (.ddiv, 1) := by decide +kernel
theorem dX3_shareInLight_60 : decode cX3_shareInLight 60 = .ok (.dreturn, 1) := by decide +kernel
theorem dX4_init_0 : decode cX4_init 0 = .ok (.aload_n 0, 1) := by decide +kernel
theorem dX4_init_1 : decode cX4_init 1 = .ok (.invokespecial 1, 3) := by decide +kernel
theorem dX4_init_4 : decode cX4_init 4 = .ok (.aload_n 0, 1) := by decide +kernel
theorem dX4_init_5 : decode cX4_init 5 = .ok (.new 7, 3) := by decide +kernel
theorem dX4_init_8 : decode cX4_init 8 = .ok (.dup, 1) := by decide +kernel
theorem dX4_init_9 : decode cX4_init 9 = .ok (.invokespecial 9, 3) := by decide +kernel
theorem dX4_init_12 : decode cX4_init 12 = .ok (.putfield 10, 3) := by decide +kernel
theorem dX4_init_15 : decode cX4_init 15 = .ok (.aload_n 0, 1) := by decide +kernel
theorem dX4_init_16 : decode cX4_init 16 = .ok (.new 16, 3) := by decide +kernel
theorem dX4_init_19 : decode cX4_init 19 = .ok (.dup, 1) := by decide +kernel
theorem dX4_init_20 : decode cX4_init 20 = .ok (.invokespecial 18, 3) := by decide +kernel
theorem dX4_init_23 : decode cX4_init 23 = .ok (.putfield 19, 3) := by decide +kernel
theorem dX4_init_26 : decode cX4_init 26 = .ok (.aload_n 0, 1) := by decide +kernel
theorem dX4_init_27 : decode cX4_init 27 = .ok (.new 23, 3) := by decide +kernel
theorem dX4_init_30 : decode cX4_init 30 = .ok (.dup, 1) := by decide +kernel
theorem dX4_init_31 : decode cX4_init 31 = .ok (.invokespecial 25, 3) := by decide +kernel
theorem dX4_init_34 : decode cX4_init 34 = .ok (.putfield 26, 3) := by decide +kernel
theorem dX4_init_37 : decode cX4_init 37 = .ok (.return_, 1) := by decide +kernel
theorem dX4_strike_0 : decode cX4_strike 0 = .ok (.iload_n 1, 1) := by decide +kernel
theorem dX4_strike_1 : decode cX4_strike 1 = .ok (.invokestatic 30, 3) := by decide +kernel
theorem dX4_strike_4 : decode cX4_strike 4 = .ok (.aload_n 0, 1) := by decide +kernel
theorem dX4_strike_5 : decode cX4_strike 5 = .ok (.getfield 10, 3) := by decide +kernel
theorem dX4_strike_8 : decode cX4_strike 8 = .ok (.iload_n 1, 1) := by decide +kernel
theorem dX4_strike_9 : decode cX4_strike 9 = .ok (.invokevirtual 34, 3) := by decide +kernel
theorem dX4_strike_12 : decode cX4_strike 12 = .ok (.ifCond .ne 13, 3) := by decide +kernel
theorem dX4_strike_15 : decode cX4_strike 15 = .ok (.new 38, 3) := by decide +kernel
theorem dX4_strike_18 : decode cX4_strike 18 = .ok (.dup, 1) := by decide +kernel
theorem dX4_strike_19 : decode cX4_strike 19 = .ok (.ldc 40, 2) := by decide +kernel
theorem dX4_strike_21 : decode cX4_strike 21 = .ok (.invokespecial 42, 3) := by decide +kernel
theorem dX4_strike_24 : decode cX4_strike 24 = .ok (.athrow, 1) := by decide +kernel
theorem dX4_strike_25 : decode cX4_strike 25 = .ok (.aload_n 0, 1) := by decide +kernel
theorem dX4_strike_26 : decode cX4_strike 26 = .ok (.getfield 19, 3) := by decide +kernel
theorem dX4_strike_29 : decode cX4_strike 29 = .ok (.aload_n 0, 1) := by decide +kernel
theorem dX4_strike_30 : decode cX4_strike 30 = .ok (.getfield 10, 3) := by decide +kernel
theorem dX4_strike_33 : decode cX4_strike 33 = .ok (.invokevirtual 45, 3) := by decide +kernel
theorem dX4_strike_36 : decode cX4_strike 36 = .ok (.aload_n 0, 1) := by decide +kernel
theorem dX4_strike_37 : decode cX4_strike 37 = .ok (.getfield 10, 3) := by decide +kernel
theorem dX4_strike_40 : decode cX4_strike 40 = .ok (.iload_n 1, 1) := by decide +kernel
theorem dX4_strike_41 : decode cX4_strike 41 = .ok (.invokevirtual 49, 3) := by decide +kernel
theorem dX4_strike_44 : decode cX4_strike 44 = .ok (.ireturn, 1) := by decide +kernel
theorem dX4_light_0 : decode cX4_light 0 = .ok (.iload_n 1, 1) := by decide +kernel
theorem dX4_light_1 : decode cX4_light 1 = .ok (.invokestatic 30, 3) := by decide +kernel
theorem dX4_light_4 : decode cX4_light 4 = .ok (.iload_n 2, 1) := by decide +kernel
theorem dX4_light_5 : decode cX4_light 5 = .ok (.invokestatic 30, 3) := by decide +kernel
theorem dX4_light_8 : decode cX4_light 8 = .ok (.aload_n 0, 1) := by decide +kernel
theorem dX4_light_9 : decode cX4_light 9 = .ok (.getfield 10, 3) := by decide +kernel
theorem dX4_light_12 : decode cX4_light 12 = .ok (.iload_n 1, 1) := by decide +kernel
theorem dX4_light_13 : decode cX4_light 13 = .ok (.iload_n 2, 1) := by decide +kernel
theorem dX4_light_14 : decode cX4_light 14 = .ok (.invokevirtual 53, 3) := by decide +kernel
theorem dX4_light_17 : decode cX4_light 17 = .ok (.ifCond .ne 13, 3) := by decide +kernel
theorem dX4_light_20 : decode cX4_light 20 = .ok (.new 38, 3) := by decide +kernel
theorem dX4_light_23 : decode cX4_light 23 = .ok (.dup, 1) := by decide +kernel
theorem dX4_light_24 : decode cX4_light 24 = .ok (.ldc 57, 2) := by decide +kernel
theorem dX4_light_26 : decode cX4_light 26 = .ok (.invokespecial 42, 3) := by decide +kernel
theorem dX4_light_29 : decode cX4_light 29 = .ok (.athrow, 1) := by decide +kernel
theorem dX4_light_30 : decode cX4_light 30 = .ok (.aload_n 0, 1) := by decide +kernel
theorem dX4_light_31 : decode cX4_light 31 = .ok (.getfield 19, 3) := by decide +kernel
theorem dX4_light_34 : decode cX4_light 34 = .ok (.aload_n 0, 1) := by decide +kernel
theorem dX4_light_35 : decode cX4_light 35 = .ok (.getfield 10, 3) := by decide +kernel
theorem dX4_light_38 : decode cX4_light 38 = .ok (.invokevirtual 45, 3) := by decide +kernel
theorem dX4_light_41 : decode cX4_light 41 = .ok (.aload_n 0, 1) := by decide +kernel
theorem dX4_light_42 : decode cX4_light 42 = .ok (.getfield 10, 3) := by decide +kernel
theorem dX4_light_45 : decode cX4_light 45 = .ok (.iload_n 1, 1) := by decide +kernel
theorem dX4_light_46 : decode cX4_light 46 = .ok (.invokevirtual 49, 3) := by decide +kernel
theorem dX4_light_49 : decode cX4_light 49 = .ok (.ireturn, 1) := by decide +kernel
theorem dX4_fresh_0 : decode cX4_fresh 0 = .ok (.iload_n 1, 1) := by decide +kernel
theorem dX4_fresh_1 : decode cX4_fresh 1 = .ok (.invokestatic 30, 3) := by decide +kernel
theorem dX4_fresh_4 : decode cX4_fresh 4 = .ok (.aload_n 0, 1) := by decide +kernel
theorem dX4_fresh_5 : decode cX4_fresh 5 = .ok (.getfield 10, 3) := by decide +kernel
theorem dX4_fresh_8 : decode cX4_fresh 8 = .ok (.invokevirtual 59, 3) := by decide +kernel
theorem dX4_fresh_11 : decode cX4_fresh 11 = .ok (.ifCond .ne 13, 3) := by decide +kernel
theorem dX4_fresh_14 : decode cX4_fresh 14 = .ok (.new 38, 3) := by decide +kernel
theorem dX4_fresh_17 : decode cX4_fresh 17 = .ok (.dup, 1) := by decide +kernel
theorem dX4_fresh_18 : decode cX4_fresh 18 = .ok (.ldc 63, 2) := by decide +kernel
theorem dX4_fresh_20 : decode cX4_fresh 20 = .ok (.invokespecial 42, 3) := by decide +kernel
theorem dX4_fresh_23 : decode cX4_fresh 23 = .ok (.athrow, 1) := by decide +kernel
theorem dX4_fresh_24 : decode cX4_fresh 24 = .ok (.aload_n 0, 1) := by decide +kernel
theorem dX4_fresh_25 : decode cX4_fresh 25 = .ok (.getfield 19, 3) := by decide +kernel
theorem dX4_fresh_28 : decode cX4_fresh 28 = .ok (.aload_n 0, 1) := by decide +kernel
theorem dX4_fresh_29 : decode cX4_fresh 29 = .ok (.getfield 10, 3) := by decide +kernel
theorem dX4_fresh_32 : decode cX4_fresh 32 = .ok (.invokevirtual 45, 3) := by decide +kernel
theorem dX4_fresh_35 : decode cX4_fresh 35 = .ok (.aload_n 0, 1) := by decide +kernel
theorem dX4_fresh_36 : decode cX4_fresh 36 = .ok (.getfield 10, 3) := by decide +kernel
theorem dX4_fresh_39 : decode cX4_fresh 39 = .ok (.iload_n 1, 1) := by decide +kernel
theorem dX4_fresh_40 : decode cX4_fresh 40 = .ok (.invokevirtual 65, 3) := by decide +kernel
theorem dX4_fresh_43 : decode cX4_fresh 43 = .ok (.ireturn, 1) := by decide +kernel
theorem dX4_door_0 : decode cX4_door 0 = .ok (.iload_n 1, 1) := by decide +kernel
theorem dX4_door_1 : decode cX4_door 1 = .ok (.invokestatic 68, 3) := by decide +kernel
theorem dX4_door_4 : decode cX4_door 4 = .ok (.ifCond .ne 13, 3) := by decide +kernel
theorem dX4_door_7 : decode cX4_door 7 = .ok (.new 71, 3) := by decide +kernel
theorem dX4_door_10 : decode cX4_door 10 = .ok (.dup, 1) := by decide +kernel
theorem dX4_door_11 : decode cX4_door 11 = .ok (.ldc 73, 2) := by decide +kernel
theorem dX4_door_13 : decode cX4_door 13 = .ok (.invokespecial 75, 3) := by decide +kernel
theorem dX4_door_16 : decode cX4_door 16 = .ok (.athrow, 1) := by decide +kernel
theorem dX4_door_17 : decode cX4_door 17 = .ok (.aload_n 0, 1) := by decide +kernel
theorem dX4_door_18 : decode cX4_door 18 = .ok (.getfield 19, 3) := by decide +kernel
theorem dX4_door_21 : decode cX4_door 21 = .ok (.aload_n 0, 1) := by decide +kernel
theorem dX4_door_22 : decode cX4_door 22 = .ok (.getfield 10, 3) := by decide +kernel
theorem dX4_door_25 : decode cX4_door 25 = .ok (.invokevirtual 45, 3) := by decide +kernel
theorem dX4_door_28 : decode cX4_door 28 = .ok (.aload_n 0, 1) := by decide +kernel
theorem dX4_door_29 : decode cX4_door 29 = .ok (.getfield 10, 3) := by decide +kernel
theorem dX4_door_32 : decode cX4_door 32 = .ok (.iload_n 1, 1) := by decide +kernel
theorem dX4_door_33 : decode cX4_door 33 = .ok (.invokevirtual 76, 3) := by decide +kernel
theorem dX4_door_36 : decode cX4_door 36 = .ok (.astore_n 3, 1) := by decide +kernel
theorem dX4_door_37 : decode cX4_door 37 = .ok (.aload_n 3, 1) := by decide +kernel
theorem dX4_door_38 : decode cX4_door 38 = .ok (.getfield 80, 3) := by decide +kernel
theorem dX4_door_41 : decode cX4_door 41 = .ok (.istore 4, 2) := by decide +kernel
theorem dX4_door_43 : decode cX4_door 43 = .ok (.aload_n 3, 1) := by decide +kernel
theorem dX4_door_44 : decode cX4_door 44 = .ok (.iload_n 2, 1) := by decide +kernel
theorem dX4_door_45 : decode cX4_door 45 = .ok (.putfield 80, 3) := by decide +kernel
theorem dX4_door_48 : decode cX4_door 48 = .ok (.iload 4, 2) := by decide +kernel
theorem dX4_door_50 : decode cX4_door 50 = .ok (.invokestatic 86, 3) := by decide +kernel
theorem dX4_door_53 : decode cX4_door 53 = .ok (.ireturn, 1) := by decide +kernel
theorem dX4_shield_0 : decode cX4_shield 0 = .ok (.iload_n 1, 1) := by decide +kernel
theorem dX4_shield_1 : decode cX4_shield 1 = .ok (.invokestatic 30, 3) := by decide +kernel
theorem dX4_shield_4 : decode cX4_shield 4 = .ok (.aload_n 0, 1) := by decide +kernel
theorem dX4_shield_5 : decode cX4_shield 5 = .ok (.getfield 19, 3) := by decide +kernel
theorem dX4_shield_8 : decode cX4_shield 8 = .ok (.aload_n 0, 1) := by decide +kernel
theorem dX4_shield_9 : decode cX4_shield 9 = .ok (.getfield 10, 3) := by decide +kernel
theorem dX4_shield_12 : decode cX4_shield 12 = .ok (.invokevirtual 45, 3) := by decide +kernel
theorem dX4_shield_15 : decode cX4_shield 15 = .ok (.aload_n 0, 1) := by decide +kernel
theorem dX4_shield_16 : decode cX4_shield 16 = .ok (.getfield 10, 3) := by decide +kernel
theorem dX4_shield_19 : decode cX4_shield 19 = .ok (.iload_n 1, 1) := by decide +kernel
theorem dX4_shield_20 : decode cX4_shield 20 = .ok (.invokevirtual 76, 3) := by decide +kernel
theorem dX4_shield_23 : decode cX4_shield 23 = .ok (.astore_n 3, 1) := by decide +kernel
theorem dX4_shield_24 : decode cX4_shield 24 = .ok (.aload_n 3, 1) := by decide +kernel
theorem dX4_shield_25 : decode cX4_shield 25 = .ok (.getfield 90, 3) := by decide +kernel
theorem dX4_shield_28 : decode cX4_shield 28 = .ok (.istore 4, 2) := by decide +kernel
theorem dX4_shield_30 : decode cX4_shield 30 = .ok (.aload_n 3, 1) := by decide +kernel
theorem dX4_shield_31 : decode cX4_shield 31 = .ok (.iload_n 2, 1) := by decide +kernel
theorem dX4_shield_32 : decode cX4_shield 32 = .ok (.putfield 90, 3) := by decide +kernel
theorem dX4_shield_35 : decode cX4_shield 35 = .ok (.iload 4, 2) := by decide +kernel
theorem dX4_shield_37 : decode cX4_shield 37 = .ok (.invokestatic 86, 3) := by decide +kernel
theorem dX4_shield_40 : decode cX4_shield 40 = .ok (.ireturn, 1) := by decide +kernel
theorem dX4_draught_0 : decode cX4_draught 0 = .ok (.iload_n 1, 1) := by decide +kernel
theorem dX4_draught_1 : decode cX4_draught 1 = .ok (.invokestatic 30, 3) := by decide +kernel
theorem dX4_draught_4 : decode cX4_draught 4 = .ok (.iload_n 2, 1) := by decide +kernel
theorem dX4_draught_5 : decode cX4_draught 5 = .ok (.iconst 1, 1) := by decide +kernel
theorem dX4_draught_6 : decode cX4_draught 6 = .ok (.if_icmp .lt 9, 3) := by decide +kernel
theorem dX4_draught_9 : decode cX4_draught 9 = .ok (.iload_n 2, 1) := by decide +kernel
theorem dX4_draught_10 : decode cX4_draught 10 = .ok (.bipush 6, 2) := by decide +kernel
theorem dX4_draught_12 : decode cX4_draught 12 = .ok (.if_icmp .le 13, 3) := by decide +kernel
theorem dX4_draught_15 : decode cX4_draught 15 = .ok (.new 93, 3) := by decide +kernel
theorem dX4_draught_18 : decode cX4_draught 18 = .ok (.dup, 1) := by decide +kernel
theorem dX4_draught_19 : decode cX4_draught 19 = .ok (.ldc 95, 2) := by decide +kernel
theorem dX4_draught_21 : decode cX4_draught 21 = .ok (.invokespecial 97, 3) := by decide +kernel
theorem dX4_draught_24 : decode cX4_draught 24 = .ok (.athrow, 1) := by decide +kernel
theorem dX4_draught_25 : decode cX4_draught 25 = .ok (.aload_n 0, 1) := by decide +kernel
theorem dX4_draught_26 : decode cX4_draught 26 = .ok (.getfield 19, 3) := by decide +kernel
theorem dX4_draught_29 : decode cX4_draught 29 = .ok (.aload_n 0, 1) := by decide +kernel
theorem dX4_draught_30 : decode cX4_draught 30 = .ok (.getfield 10, 3) := by decide +kernel
theorem dX4_draught_33 : decode cX4_draught 33 = .ok (.invokevirtual 45, 3) := by decide +kernel
theorem dX4_draught_36 : decode cX4_draught 36 = .ok (.aload_n 0, 1) := by decide +kernel
theorem dX4_draught_37 : decode cX4_draught 37 = .ok (.getfield 10, 3) := by decide +kernel
theorem dX4_draught_40 : decode cX4_draught 40 = .ok (.iload_n 1, 1) := by decide +kernel
theorem dX4_draught_41 : decode cX4_draught 41 = .ok (.iload_n 2, 1) := by decide +kernel
theorem dX4_draught_42 : decode cX4_draught 42 = .ok (.invokevirtual 98, 3) := by decide +kernel
theorem dX4_draught_45 : decode cX4_draught 45 = .ok (.ireturn, 1) := by decide +kernel
theorem dX4_set_0 : decode cX4_set 0 = .ok (.iload_n 1, 1) := by decide +kernel
theorem dX4_set_1 : decode cX4_set 1 = .ok (.iconst 1, 1) := by decide +kernel
theorem dX4_set_2 : decode cX4_set 2 = .ok (.if_icmp .lt 9, 3) := by decide +kernel
theorem dX4_set_5 : decode cX4_set 5 = .ok (.iload_n 1, 1) := by decide +kernel
theorem dX4_set_6 : decode cX4_set 6 = .ok (.bipush 50, 2) := by decide +kernel
theorem dX4_set_8 : decode cX4_set 8 = .ok (.if_icmp .le 13, 3) := by decide +kernel
theorem dX4_set_11 : decode cX4_set 11 = .ok (.new 93, 3) := by decide +kernel
theorem dX4_set_14 : decode cX4_set 14 = .ok (.dup, 1) := by decide +kernel
theorem dX4_set_15 : decode cX4_set 15 = .ok (.ldc 102, 2) := by decide +kernel
theorem dX4_set_17 : decode cX4_set 17 = .ok (.invokespecial 97, 3) := by decide +kernel
theorem dX4_set_20 : decode cX4_set 20 = .ok (.athrow, 1) := by decide +kernel
theorem dX4_set_21 : decode cX4_set 21 = .ok (.aload_n 0, 1) := by decide +kernel
theorem dX4_set_22 : decode cX4_set 22 = .ok (.getfield 19, 3) := by decide +kernel
theorem dX4_set_25 : decode cX4_set 25 = .ok (.aload_n 0, 1) := by decide +kernel
theorem dX4_set_26 : decode cX4_set 26 = .ok (.getfield 10, 3) := by decide +kernel
theorem dX4_set_29 : decode cX4_set 29 = .ok (.invokevirtual 45, 3) := by decide +kernel
theorem dX4_set_32 : decode cX4_set 32 = .ok (.aload_n 0, 1) := by decide +kernel
theorem dX4_set_33 : decode cX4_set 33 = .ok (.getfield 10, 3) := by decide +kernel
theorem dX4_set_36 : decode cX4_set 36 = .ok (.getfield 104, 3) := by decide +kernel
theorem dX4_set_39 : decode cX4_set 39 = .ok (.istore_n 2, 1) := by decide +kernel
theorem dX4_set_40 : decode cX4_set 40 = .ok (.aload_n 0, 1) := by decide +kernel
theorem dX4_set_41 : decode cX4_set 41 = .ok (.getfield 10, 3) := by decide +kernel
theorem dX4_set_44 : decode cX4_set 44 = .ok (.iload_n 1, 1) := by decide +kernel
theorem dX4_set_45 : decode cX4_set 45 = .ok (.putfield 104, 3) := by decide +kernel
theorem dX4_set_48 : decode cX4_set 48 = .ok (.iload_n 2, 1) := by decide +kernel
theorem dX4_set_49 : decode cX4_set 49 = .ok (.ireturn, 1) := by decide +kernel
theorem dX4_keep_0 : decode cX4_keep 0 = .ok (.iload_n 1, 1) := by decide +kernel
theorem dX4_keep_1 : decode cX4_keep 1 = .ok (.invokestatic 30, 3) := by decide +kernel
theorem dX4_keep_4 : decode cX4_keep 4 = .ok (.iload_n 2, 1) := by decide +kernel
theorem dX4_keep_5 : decode cX4_keep 5 = .ok (.invokestatic 108, 3) := by decide +kernel
theorem dX4_keep_8 : decode cX4_keep 8 = .ok (.aload_n 0, 1) := by decide +kernel
theorem dX4_keep_9 : decode cX4_keep 9 = .ok (.getfield 10, 3) := by decide +kernel
theorem dX4_keep_12 : decode cX4_keep 12 = .ok (.iload_n 1, 1) := by decide +kernel
theorem dX4_keep_13 : decode cX4_keep 13 = .ok (.iload_n 2, 1) := by decide +kernel
theorem dX4_keep_14 : decode cX4_keep 14 = .ok (.invokevirtual 111, 3) := by decide +kernel
theorem dX4_keep_17 : decode cX4_keep 17 = .ok (.ifCond .ne 13, 3) := by decide +kernel
theorem dX4_keep_20 : decode cX4_keep 20 = .ok (.new 38, 3) := by decide +kernel
theorem dX4_keep_23 : decode cX4_keep 23 = .ok (.dup, 1) := by decide +kernel
theorem dX4_keep_24 : decode cX4_keep 24 = .ok (.ldc 114, 2) := by decide +kernel
theorem dX4_keep_26 : decode cX4_keep 26 = .ok (.invokespecial 42, 3) := by decide +kernel
theorem dX4_keep_29 : decode cX4_keep 29 = .ok (.athrow, 1) := by decide +kernel
theorem dX4_keep_30 : decode cX4_keep 30 = .ok (.aload_n 0, 1) := by decide +kernel
theorem dX4_keep_31 : decode cX4_keep 31 = .ok (.getfield 19, 3) := by decide +kernel
theorem dX4_keep_34 : decode cX4_keep 34 = .ok (.aload_n 0, 1) := by decide +kernel
theorem dX4_keep_35 : decode cX4_keep 35 = .ok (.getfield 10, 3) := by decide +kernel
theorem dX4_keep_38 : decode cX4_keep 38 = .ok (.invokevirtual 45, 3) := by decide +kernel
theorem dX4_keep_41 : decode cX4_keep 41 = .ok (.aload_n 0, 1) := by decide +kernel
theorem dX4_keep_42 : decode cX4_keep 42 = .ok (.getfield 10, 3) := by decide +kernel
theorem dX4_keep_45 : decode cX4_keep 45 = .ok (.iload_n 1, 1) := by decide +kernel
theorem dX4_keep_46 : decode cX4_keep 46 = .ok (.iload_n 2, 1) := by decide +kernel
theorem dX4_keep_47 : decode cX4_keep 47 = .ok (.invokevirtual 116, 3) := by decide +kernel
theorem dX4_keep_50 : decode cX4_keep 50 = .ok (.ireturn, 1) := by decide +kernel
theorem dX4_read_0 : decode cX4_read 0 = .ok (.iload_n 1, 1) := by decide +kernel
theorem dX4_read_1 : decode cX4_read 1 = .ok (.invokestatic 108, 3) := by decide +kernel
theorem dX4_read_4 : decode cX4_read 4 = .ok (.aload_n 0, 1) := by decide +kernel
theorem dX4_read_5 : decode cX4_read 5 = .ok (.getfield 19, 3) := by decide +kernel
theorem dX4_read_8 : decode cX4_read 8 = .ok (.aload_n 0, 1) := by decide +kernel
theorem dX4_read_9 : decode cX4_read 9 = .ok (.getfield 10, 3) := by decide +kernel
theorem dX4_read_12 : decode cX4_read 12 = .ok (.invokevirtual 45, 3) := by decide +kernel
theorem dX4_read_15 : decode cX4_read 15 = .ok (.aload_n 0, 1) := by decide +kernel
theorem dX4_read_16 : decode cX4_read 16 = .ok (.getfield 10, 3) := by decide +kernel
theorem dX4_read_19 : decode cX4_read 19 = .ok (.iload_n 1, 1) := by decide +kernel
theorem dX4_read_20 : decode cX4_read 20 = .ok (.invokevirtual 119, 3) := by decide +kernel
theorem dX4_read_23 : decode cX4_read 23 = .ok (.ireturn, 1) := by decide +kernel
theorem dX4_pass_0 : decode cX4_pass 0 = .ok (.iload_n 1, 1) := by decide +kernel
theorem dX4_pass_1 : decode cX4_pass 1 = .ok (.iconst 1, 1) := by decide +kernel
theorem dX4_pass_2 : decode cX4_pass 2 = .ok (.if_icmp .lt 9, 3) := by decide +kernel
theorem dX4_pass_5 : decode cX4_pass 5 = .ok (.iload_n 1, 1) := by decide +kernel
theorem dX4_pass_6 : decode cX4_pass 6 = .ok (.bipush 60, 2) := by decide +kernel
theorem dX4_pass_8 : decode cX4_pass 8 = .ok (.if_icmp .le 13, 3) := by decide +kernel
theorem dX4_pass_11 : decode cX4_pass 11 = .ok (.new 93, 3) := by decide +kernel
theorem dX4_pass_14 : decode cX4_pass 14 = .ok (.dup, 1) := by decide +kernel
theorem dX4_pass_15 : decode cX4_pass 15 = .ok (.ldc 122, 2) := by decide +kernel
theorem dX4_pass_17 : decode cX4_pass 17 = .ok (.invokespecial 97, 3) := by decide +kernel
theorem dX4_pass_20 : decode cX4_pass 20 = .ok (.athrow, 1) := by decide +kernel
theorem dX4_pass_21 : decode cX4_pass 21 = .ok (.aload_n 0, 1) := by decide +kernel
theorem dX4_pass_22 : decode cX4_pass 22 = .ok (.getfield 19, 3) := by decide +kernel
theorem dX4_pass_25 : decode cX4_pass 25 = .ok (.aload_n 0, 1) := by decide +kernel
theorem dX4_pass_26 : decode cX4_pass 26 = .ok (.getfield 10, 3) := by decide +kernel
theorem dX4_pass_29 : decode cX4_pass 29 = .ok (.invokevirtual 45, 3) := by decide +kernel
theorem dX4_pass_32 : decode cX4_pass 32 = .ok (.aload_n 0, 1) := by decide +kernel
theorem dX4_pass_33 : decode cX4_pass 33 = .ok (.getfield 10, 3) := by decide +kernel
theorem dX4_pass_36 : decode cX4_pass 36 = .ok (.iload_n 1, 1) := by decide +kernel
theorem dX4_pass_37 : decode cX4_pass 37 = .ok (.invokevirtual 124, 3) := by decide +kernel
theorem dX4_pass_40 : decode cX4_pass 40 = .ok (.ireturn, 1) := by decide +kernel
theorem dX4_undo_0 : decode cX4_undo 0 = .ok (.aload_n 0, 1) := by decide +kernel
theorem dX4_undo_1 : decode cX4_undo 1 = .ok (.getfield 19, 3) := by decide +kernel
theorem dX4_undo_4 : decode cX4_undo 4 = .ok (.getfield 153, 3) := by decide +kernel
theorem dX4_undo_7 : decode cX4_undo 7 = .ok (.ifCond .ne 13, 3) := by decide +kernel
theorem dX4_undo_10 : decode cX4_undo 10 = .ok (.new 38, 3) := by decide +kernel
theorem dX4_undo_13 : decode cX4_undo 13 = .ok (.dup, 1) := by decide +kernel
theorem dX4_undo_14 : decode cX4_undo 14 = .ok (.ldc 156, 2) := by decide +kernel
theorem dX4_undo_16 : decode cX4_undo 16 = .ok (.invokespecial 42, 3) := by decide +kernel
theorem dX4_undo_19 : decode cX4_undo 19 = .ok (.athrow, 1) := by decide +kernel
theorem dX4_undo_20 : decode cX4_undo 20 = .ok (.aload_n 0, 1) := by decide +kernel
theorem dX4_undo_21 : decode cX4_undo 21 = .ok (.getfield 19, 3) := by decide +kernel
theorem dX4_undo_24 : decode cX4_undo 24 = .ok (.aload_n 0, 1) := by decide +kernel
theorem dX4_undo_25 : decode cX4_undo 25 = .ok (.getfield 10, 3) := by decide +kernel
theorem dX4_undo_28 : decode cX4_undo 28 = .ok (.invokevirtual 158, 3) := by decide +kernel
theorem dX4_undo_31 : decode cX4_undo 31 = .ok (.ireturn, 1) := by decide +kernel
theorem dX4_room_0 : decode cX4_room 0 = .ok (.iload_n 1, 1) := by decide +kernel
theorem dX4_room_1 : decode cX4_room 1 = .ok (.invokestatic 30, 3) := by decide +kernel
theorem dX4_room_4 : decode cX4_room 4 = .ok (.iload_n 2, 1) := by decide +kernel
theorem dX4_room_5 : decode cX4_room 5 = .ok (.bipush 8, 2) := by decide +kernel
theorem dX4_room_7 : decode cX4_room 7 = .ok (.invokestatic 162, 3) := by decide +kernel
theorem dX4_room_10 : decode cX4_room 10 = .ok (.aload_n 0, 1) := by decide +kernel
theorem dX4_room_11 : decode cX4_room 11 = .ok (.getfield 10, 3) := by decide +kernel
theorem dX4_room_14 : decode cX4_room 14 = .ok (.iload_n 1, 1) := by decide +kernel
theorem dX4_room_15 : decode cX4_room 15 = .ok (.invokevirtual 76, 3) := by decide +kernel
theorem dX4_room_18 : decode cX4_room 18 = .ok (.iload_n 2, 1) := by decide +kernel
theorem dX4_room_19 : decode cX4_room 19 = .ok (.invokevirtual 166, 3) := by decide +kernel
theorem dX4_room_22 : decode cX4_room 22 = .ok (.ireturn, 1) := by decide +kernel
theorem dX4_thing_0 : decode cX4_thing 0 = .ok (.iload_n 1, 1) := by decide +kernel
theorem dX4_thing_1 : decode cX4_thing 1 = .ok (.invokestatic 108, 3) := by decide +kernel
theorem dX4_thing_4 : decode cX4_thing 4 = .ok (.iload_n 2, 1) := by decide +kernel
theorem dX4_thing_5 : decode cX4_thing 5 = .ok (.iconst 3, 1) := by decide +kernel
theorem dX4_thing_6 : decode cX4_thing 6 = .ok (.invokestatic 162, 3) := by decide +kernel
theorem dX4_thing_9 : decode cX4_thing 9 = .ok (.aload_n 0, 1) := by decide +kernel
theorem dX4_thing_10 : decode cX4_thing 10 = .ok (.getfield 10, 3) := by decide +kernel
theorem dX4_thing_13 : decode cX4_thing 13 = .ok (.iload_n 1, 1) := by decide +kernel
theorem dX4_thing_14 : decode cX4_thing 14 = .ok (.iload_n 2, 1) := by decide +kernel
theorem dX4_thing_15 : decode cX4_thing 15 = .ok (.invokevirtual 169, 3) := by decide +kernel
theorem dX4_thing_18 : decode cX4_thing 18 = .ok (.ireturn, 1) := by decide +kernel
theorem dX4_count_0 : decode cX4_count 0 = .ok (.iload_n 1, 1) := by decide +kernel
theorem dX4_count_1 : decode cX4_count 1 = .ok (.bipush 12, 2) := by decide +kernel
theorem dX4_count_3 : decode cX4_count 3 = .ok (.invokestatic 162, 3) := by decide +kernel
theorem dX4_count_6 : decode cX4_count 6 = .ok (.aload_n 0, 1) := by decide +kernel
theorem dX4_count_7 : decode cX4_count 7 = .ok (.iload_n 1, 1) := by decide +kernel
theorem dX4_count_8 : decode cX4_count 8 = .ok (.invokevirtual 172, 3) := by decide +kernel
theorem dX4_count_11 : decode cX4_count 11 = .ok (.ireturn, 1) := by decide +kernel
theorem dX4_lasts_0 : decode cX4_lasts 0 = .ok (.iload_n 1, 1) := by decide +kernel
theorem dX4_lasts_1 : decode cX4_lasts 1 = .ok (.invokestatic 30, 3) := by decide +kernel
theorem dX4_lasts_4 : decode cX4_lasts 4 = .ok (.aload_n 0, 1) := by decide +kernel
theorem dX4_lasts_5 : decode cX4_lasts 5 = .ok (.getfield 10, 3) := by decide +kernel
theorem dX4_lasts_8 : decode cX4_lasts 8 = .ok (.iload_n 1, 1) := by decide +kernel
theorem dX4_lasts_9 : decode cX4_lasts 9 = .ok (.invokevirtual 175, 3) := by decide +kernel
theorem dX4_lasts_12 : decode cX4_lasts 12 = .ok (.ireturn, 1) := by decide +kernel
theorem dX4_nextForgotten_0 : decode cX4_nextForgotten 0 = .ok (.aload_n 0, 1) := by decide +kernel
theorem dX4_nextForgotten_1 : decode cX4_nextForgotten 1 = .ok (.getfield 10, 3) := by decide +kernel
theorem dX4_nextForgotten_4 : decode cX4_nextForgotten 4 = .ok (.invokevirtual 178, 3) := by decide +kernel
theorem dX4_nextForgotten_7 : decode cX4_nextForgotten 7 = .ok (.ireturn, 1) := by decide +kernel
theorem dX4_carried_0 : decode cX4_carried 0 = .ok (.iload_n 1, 1) := by decide +kernel
theorem dX4_carried_1 : decode cX4_carried 1 = .ok (.invokestatic 30, 3) := by decide +kernel
theorem dX4_carried_4 : decode cX4_carried 4 = .ok (.aload_n 0, 1) := by decide +kernel
theorem dX4_carried_5 : decode cX4_carried 5 = .ok (.getfield 10, 3) := by decide +kernel
theorem dX4_carried_8 : decode cX4_carried 8 = .ok (.iload_n 1, 1) := by decide +kernel
theorem dX4_carried_9 : decode cX4_carried 9 = .ok (.invokevirtual 181, 3) := by decide +kernel
theorem dX4_carried_12 : decode cX4_carried 12 = .ok (.ireturn, 1) := by decide +kernel
theorem dX4_needy_0 : decode cX4_needy 0 = .ok (.aload_n 0, 1) := by decide +kernel
theorem dX4_needy_1 : decode cX4_needy 1 = .ok (.getfield 10, 3) := by decide +kernel
theorem dX4_needy_4 : decode cX4_needy 4 = .ok (.invokevirtual 184, 3) := by decide +kernel
theorem dX4_needy_7 : decode cX4_needy 7 = .ok (.ireturn, 1) := by decide +kernel
theorem dX4_saves_0 : decode cX4_saves 0 = .ok (.iload_n 1, 1) := by decide +kernel
theorem dX4_saves_1 : decode cX4_saves 1 = .ok (.invokestatic 30, 3) := by decide +kernel
theorem dX4_saves_4 : decode cX4_saves 4 = .ok (.aload_n 0, 1) := by decide +kernel
theorem dX4_saves_5 : decode cX4_saves 5 = .ok (.getfield 10, 3) := by decide +kernel
theorem dX4_saves_8 : decode cX4_saves 8 = .ok (.iload_n 1, 1) := by decide +kernel
theorem dX4_saves_9 : decode cX4_saves 9 = .ok (.invokevirtual 76, 3) := by decide +kernel
theorem dX4_saves_12 : decode cX4_saves 12 = .ok (.invokevirtual 187, 3) := by decide +kernel
theorem dX4_saves_15 : decode cX4_saves 15 = .ok (.ireturn, 1) := by decide +kernel
theorem dX4_lit_0 : decode cX4_lit 0 = .ok (.aload_n 0, 1) := by decide +kernel
theorem dX4_lit_1 : decode cX4_lit 1 = .ok (.getfield 10, 3) := by decide +kernel
theorem dX4_lit_4 : decode cX4_lit 4 = .ok (.invokevirtual 190, 3) := by decide +kernel
theorem dX4_lit_7 : decode cX4_lit 7 = .ok (.dreturn, 1) := by decide +kernel
theorem dX4_requireRoom_0 : decode cX4_requireRoom 0 = .ok (.iload_n 0, 1) := by decide +kernel
theorem dX4_requireRoom_1 : decode cX4_requireRoom 1 = .ok (.invokestatic 68, 3) := by decide +kernel
theorem dX4_requireRoom_4 : decode cX4_requireRoom 4 = .ok (.ifCond .ne 13, 3) := by decide +kernel
theorem dX4_requireRoom_7 : decode cX4_requireRoom 7 = .ok (.new 71, 3) := by decide +kernel
theorem dX4_requireRoom_10 : decode cX4_requireRoom 10 = .ok (.dup, 1) := by decide +kernel
theorem dX4_requireRoom_11 : decode cX4_requireRoom 11 = .ok (.ldc 214, 2) := by decide +kernel
theorem dX4_requireRoom_13 : decode cX4_requireRoom 13 = .ok (.invokespecial 75, 3) := by decide +kernel
theorem dX4_requireRoom_16 : decode cX4_requireRoom 16 = .ok (.athrow, 1) := by decide +kernel
theorem dX4_requireRoom_17 : decode cX4_requireRoom 17 = .ok (.return_, 1) := by decide +kernel
theorem dX4_requireKey_0 : decode cX4_requireKey 0 = .ok (.iload_n 0, 1) := by decide +kernel
theorem dX4_requireKey_1 : decode cX4_requireKey 1 = .ok (.ifCond .lt 9, 3) := by decide +kernel
theorem dX4_requireKey_4 : decode cX4_requireKey 4 = .ok (.iload_n 0, 1) := by decide +kernel
theorem dX4_requireKey_5 : decode cX4_requireKey 5 = .ok (.bipush 100, 2) := by decide +kernel
theorem dX4_requireKey_7 : decode cX4_requireKey 7 = .ok (.if_icmp .lt 13, 3) := by decide +kernel
theorem dX4_requireKey_10 : decode cX4_requireKey 10 = .ok (.new 93, 3) := by decide +kernel
theorem dX4_requireKey_13 : decode cX4_requireKey 13 = .ok (.dup, 1) := by decide +kernel
theorem dX4_requireKey_14 : decode cX4_requireKey 14 = .ok (.ldc 216, 2) := by decide +kernel
theorem dX4_requireKey_16 : decode cX4_requireKey 16 = .ok (.invokespecial 97, 3) := by decide +kernel
theorem dX4_requireKey_19 : decode cX4_requireKey 19 = .ok (.athrow, 1) := by decide +kernel
theorem dX4_requireKey_20 : decode cX4_requireKey 20 = .ok (.return_, 1) := by decide +kernel
theorem dX4_requireNumber_0 : decode cX4_requireNumber 0 = .ok (.iload_n 0, 1) := by decide +kernel
theorem dX4_requireNumber_1 : decode cX4_requireNumber 1 = .ok (.ifCond .lt 8, 3) := by decide +kernel
theorem dX4_requireNumber_4 : decode cX4_requireNumber 4 = .ok (.iload_n 0, 1) := by decide +kernel
theorem dX4_requireNumber_5 : decode cX4_requireNumber 5 = .ok (.iload_n 1, 1) := by decide +kernel
theorem dX4_requireNumber_6 : decode cX4_requireNumber 6 = .ok (.if_icmp .lt 13, 3) := by decide +kernel
theorem dX4_requireNumber_9 : decode cX4_requireNumber 9 = .ok (.new 93, 3) := by decide +kernel
theorem dX4_requireNumber_12 : decode cX4_requireNumber 12 = .ok (.dup, 1) := by decide +kernel
theorem dX4_requireNumber_13 : decode cX4_requireNumber 13 = .ok (.ldc 218, 2) := by decide +kernel
theorem dX4_requireNumber_15 : decode cX4_requireNumber 15 = .ok (.invokespecial 97, 3) := by decide +kernel
theorem dX4_requireNumber_18 : decode cX4_requireNumber 18 = .ok (.athrow, 1) := by decide +kernel
theorem dX4_requireNumber_19 : decode cX4_requireNumber 19 = .ok (.return_, 1) := by decide +kernel
theorem dX4_isRoom_0 : decode cX4_isRoom 0 = .ok (.iload_n 0, 1) := by decide +kernel
theorem dX4_isRoom_1 : decode cX4_isRoom 1 = .ok (.ifCond .lt 13, 3) := by decide +kernel
theorem dX4_isRoom_4 : decode cX4_isRoom 4 = .ok (.iload_n 0, 1) := by decide +kernel
theorem dX4_isRoom_5 : decode cX4_isRoom 5 = .ok (.bipush 6, 2) := by decide +kernel
theorem dX4_isRoom_7 : decode cX4_isRoom 7 = .ok (.if_icmp .ge 7, 3) := by decide +kernel
theorem dX4_isRoom_10 : decode cX4_isRoom 10 = .ok (.iconst 1, 1) := by decide +kernel
theorem dX4_isRoom_11 : decode cX4_isRoom 11 = .ok (.goto 4, 3) := by decide +kernel
theorem dX4_isRoom_14 : decode cX4_isRoom 14 = .ok (.iconst 0, 1) := by decide +kernel
theorem dX4_isRoom_15 : decode cX4_isRoom 15 = .ok (.ireturn, 1) := by decide +kernel
theorem dX4_asNumber_0 : decode cX4_asNumber 0 = .ok (.iload_n 0, 1) := by decide +kernel
theorem dX4_asNumber_1 : decode cX4_asNumber 1 = .ok (.ifCond .eq 7, 3) := by decide +kernel
theorem dX4_asNumber_4 : decode cX4_asNumber 4 = .ok (.iconst 1, 1) := by decide +kernel
theorem dX4_asNumber_5 : decode cX4_asNumber 5 = .ok (.goto 4, 3) := by decide +kernel
theorem dX4_asNumber_8 : decode cX4_asNumber 8 = .ok (.iconst 0, 1) := by decide +kernel
theorem dX4_asNumber_9 : decode cX4_asNumber 9 = .ok (.ireturn, 1) := by decide +kernel
theorem dX4_countNumber_0 : decode cX4_countNumber 0 = .ok (.iload_n 1, 1) := by decide +kernel
theorem dX4_countNumber_1 : decode cX4_countNumber 1 = .ok (.tableswitch 147 0 10 #[59, 67, 75, 83, 91, 99, 107, 115, 123, 131, 139], 59) := by decide +kernel
theorem dX4_countNumber_60 : decode cX4_countNumber 60 = .ok (.aload_n 0, 1) := by decide +kernel
theorem dX4_countNumber_61 : decode cX4_countNumber 61 = .ok (.getfield 10, 3) := by decide +kernel
theorem dX4_countNumber_64 : decode cX4_countNumber 64 = .ok (.getfield 220, 3) := by decide +kernel
theorem dX4_countNumber_67 : decode cX4_countNumber 67 = .ok (.ireturn, 1) := by decide +kernel
theorem dX4_countNumber_68 : decode cX4_countNumber 68 = .ok (.aload_n 0, 1) := by decide +kernel
theorem dX4_countNumber_69 : decode cX4_countNumber 69 = .ok (.getfield 10, 3) := by decide +kernel
theorem dX4_countNumber_72 : decode cX4_countNumber 72 = .ok (.getfield 223, 3) := by decide +kernel
theorem dX4_countNumber_75 : decode cX4_countNumber 75 = .ok (.ireturn, 1) := by decide +kernel
theorem dX4_countNumber_76 : decode cX4_countNumber 76 = .ok (.aload_n 0, 1) := by decide +kernel
theorem dX4_countNumber_77 : decode cX4_countNumber 77 = .ok (.getfield 10, 3) := by decide +kernel
theorem dX4_countNumber_80 : decode cX4_countNumber 80 = .ok (.invokevirtual 226, 3) := by decide +kernel
theorem dX4_countNumber_83 : decode cX4_countNumber 83 = .ok (.ireturn, 1) := by decide +kernel
theorem dX4_countNumber_84 : decode cX4_countNumber 84 = .ok (.aload_n 0, 1) := by decide +kernel
theorem dX4_countNumber_85 : decode cX4_countNumber 85 = .ok (.getfield 10, 3) := by decide +kernel
theorem dX4_countNumber_88 : decode cX4_countNumber 88 = .ok (.invokevirtual 229, 3) := by decide +kernel
theorem dX4_countNumber_91 : decode cX4_countNumber 91 = .ok (.ireturn, 1) := by decide +kernel
theorem dX4_countNumber_92 : decode cX4_countNumber 92 = .ok (.aload_n 0, 1) := by decide +kernel
theorem dX4_countNumber_93 : decode cX4_countNumber 93 = .ok (.getfield 10, 3) := by decide +kernel
theorem dX4_countNumber_96 : decode cX4_countNumber 96 = .ok (.getfield 232, 3) := by decide +kernel
theorem dX4_countNumber_99 : decode cX4_countNumber 99 = .ok (.ireturn, 1) := by decide +kernel
theorem dX4_countNumber_100 : decode cX4_countNumber 100 = .ok (.aload_n 0, 1) := by decide +kernel
theorem dX4_countNumber_101 : decode cX4_countNumber 101 = .ok (.getfield 10, 3) := by decide +kernel
theorem dX4_countNumber_104 : decode cX4_countNumber 104 = .ok (.getfield 235, 3) := by decide +kernel
theorem dX4_countNumber_107 : decode cX4_countNumber 107 = .ok (.ireturn, 1) := by decide +kernel
theorem dX4_countNumber_108 : decode cX4_countNumber 108 = .ok (.aload_n 0, 1) := by decide +kernel
theorem dX4_countNumber_109 : decode cX4_countNumber 109 = .ok (.getfield 10, 3) := by decide +kernel
theorem dX4_countNumber_112 : decode cX4_countNumber 112 = .ok (.getfield 238, 3) := by decide +kernel
theorem dX4_countNumber_115 : decode cX4_countNumber 115 = .ok (.ireturn, 1) := by decide +kernel
theorem dX4_countNumber_116 : decode cX4_countNumber 116 = .ok (.aload_n 0, 1) := by decide +kernel
theorem dX4_countNumber_117 : decode cX4_countNumber 117 = .ok (.getfield 10, 3) := by decide +kernel
theorem dX4_countNumber_120 : decode cX4_countNumber 120 = .ok (.getfield 241, 3) := by decide +kernel
theorem dX4_countNumber_123 : decode cX4_countNumber 123 = .ok (.ireturn, 1) := by decide +kernel
theorem dX4_countNumber_124 : decode cX4_countNumber 124 = .ok (.aload_n 0, 1) := by decide +kernel
theorem dX4_countNumber_125 : decode cX4_countNumber 125 = .ok (.getfield 10, 3) := by decide +kernel
theorem dX4_countNumber_128 : decode cX4_countNumber 128 = .ok (.getfield 244, 3) := by decide +kernel
theorem dX4_countNumber_131 : decode cX4_countNumber 131 = .ok (.ireturn, 1) := by decide +kernel
theorem dX4_countNumber_132 : decode cX4_countNumber 132 = .ok (.aload_n 0, 1) := by decide +kernel
theorem dX4_countNumber_133 : decode cX4_countNumber 133 = .ok (.getfield 10, 3) := by decide +kernel
theorem dX4_countNumber_136 : decode cX4_countNumber 136 = .ok (.getfield 247, 3) := by decide +kernel
theorem dX4_countNumber_139 : decode cX4_countNumber 139 = .ok (.ireturn, 1) := by decide +kernel
theorem dX4_countNumber_140 : decode cX4_countNumber 140 = .ok (.aload_n 0, 1) := by decide +kernel
theorem dX4_countNumber_141 : decode cX4_countNumber 141 = .ok (.getfield 10, 3) := by decide +kernel
theorem dX4_countNumber_144 : decode cX4_countNumber 144 = .ok (.getfield 104, 3) := by decide +kernel
theorem dX4_countNumber_147 : decode cX4_countNumber 147 = .ok (.ireturn, 1) := by decide +kernel
theorem dX4_countNumber_148 : decode cX4_countNumber 148 = .ok (.aload_n 0, 1) := by decide +kernel
theorem dX4_countNumber_149 : decode cX4_countNumber 149 = .ok (.getfield 19, 3) := by decide +kernel
theorem dX4_countNumber_152 : decode cX4_countNumber 152 = .ok (.getfield 153, 3) := by decide +kernel
theorem dX4_countNumber_155 : decode cX4_countNumber 155 = .ok (.ireturn, 1) := by decide +kernel
theorem dJ9_floorMod_7cf53_0 : decode cJ9_floorMod_7cf53 0 = .ok (.iload_n 0, 1) := by decide +kernel
theorem dJ9_floorMod_7cf53_1 : decode cJ9_floorMod_7cf53 1 = .ok (.iload_n 1, 1) := by decide +kernel
theorem dJ9_floorMod_7cf53_2 : decode cJ9_floorMod_7cf53 2 = .ok (.irem, 1) := by decide +kernel
theorem dJ9_floorMod_7cf53_3 : decode cJ9_floorMod_7cf53 3 = .ok (.istore_n 2, 1) := by decide +kernel
theorem dJ9_floorMod_7cf53_4 : decode cJ9_floorMod_7cf53 4 = .ok (.iload_n 0, 1) := by decide +kernel
theorem dJ9_floorMod_7cf53_5 : decode cJ9_floorMod_7cf53 5 = .ok (.iload_n 1, 1) := by decide +kernel
theorem dJ9_floorMod_7cf53_6 : decode cJ9_floorMod_7cf53 6 = .ok (.ixor, 1) := by decide +kernel
theorem dJ9_floorMod_7cf53_7 : decode cJ9_floorMod_7cf53 7 = .ok (.ifCond .ge 11, 3) := by decide +kernel
theorem dJ9_floorMod_7cf53_10 : decode cJ9_floorMod_7cf53 10 = .ok (.iload_n 2, 1) := by decide +kernel
theorem dJ9_floorMod_7cf53_11 : decode cJ9_floorMod_7cf53 11 = .ok (.ifCond .eq 7, 3) := by decide +kernel
theorem dJ9_floorMod_7cf53_14 : decode cJ9_floorMod_7cf53 14 = .ok (.iload_n 2, 1) := by decide +kernel
theorem dJ9_floorMod_7cf53_15 : decode cJ9_floorMod_7cf53 15 = .ok (.iload_n 1, 1) := by decide +kernel
theorem dJ9_floorMod_7cf53_16 : decode cJ9_floorMod_7cf53 16 = .ok (.iadd, 1) := by decide +kernel
theorem dJ9_floorMod_7cf53_17 : decode cJ9_floorMod_7cf53 17 = .ok (.ireturn, 1) := by decide +kernel
theorem dJ9_floorMod_7cf53_18 : decode cJ9_floorMod_7cf53 18 = .ok (.iload_n 2, 1) := by decide +kernel
theorem dJ9_floorMod_7cf53_19 : decode cJ9_floorMod_7cf53 19 = .ok (.ireturn, 1) := by decide +kernel
theorem dJ9_max_7cf53_0 : decode cJ9_max_7cf53 0 = .ok (.iload_n 0, 1) := by decide +kernel
theorem dJ9_max_7cf53_1 : decode cJ9_max_7cf53 1 = .ok (.iload_n 1, 1) := by decide +kernel
theorem dJ9_max_7cf53_2 : decode cJ9_max_7cf53 2 = .ok (.if_icmp .lt 7, 3) := by decide +kernel
theorem dJ9_max_7cf53_5 : decode cJ9_max_7cf53 5 = .ok (.iload_n 0, 1) := by decide +kernel
theorem dJ9_max_7cf53_6 : decode cJ9_max_7cf53 6 = .ok (.goto 4, 3) := by decide +kernel
theorem dJ9_max_7cf53_9 : decode cJ9_max_7cf53 9 = .ok (.iload_n 1, 1) := by decide +kernel
theorem dJ9_max_7cf53_10 : decode cJ9_max_7cf53 10 = .ok (.ireturn, 1) := by decide +kernel
theorem dJ9_min_7cf53_0 : decode cJ9_min_7cf53 0 = .ok (.iload_n 0, 1) := by decide +kernel
theorem dJ9_min_7cf53_1 : decode cJ9_min_7cf53 1 = .ok (.iload_n 1, 1) := by decide +kernel
theorem dJ9_min_7cf53_2 : decode cJ9_min_7cf53 2 = .ok (.if_icmp .gt 7, 3) := by decide +kernel
theorem dJ9_min_7cf53_5 : decode cJ9_min_7cf53 5 = .ok (.iload_n 0, 1) := by decide +kernel
theorem dJ9_min_7cf53_6 : decode cJ9_min_7cf53 6 = .ok (.goto 4, 3) := by decide +kernel
theorem dJ9_min_7cf53_9 : decode cJ9_min_7cf53 9 = .ok (.iload_n 1, 1) := by decide +kernel
theorem dJ9_min_7cf53_10 : decode cJ9_min_7cf53 10 = .ok (.ireturn, 1) := by decide +kernel
end
section
/-! words: initialized, links of fields, calls (printed by program) -/
theorem kiRX0 : Cond.initialized RX0 ∈ WS := gws 7 (by decide +kernel) (by decide +kernel)
theorem kiRX1 : Cond.initialized RX1 ∈ WS := gws 5 (by decide +kernel) (by decide +kernel)
theorem kiRX2 : Cond.initialized RX2 ∈ WS := gws 6 (by decide +kernel) (by decide +kernel)
theorem kiRX3 : Cond.initialized RX3 ∈ WS := gws 4 (by decide +kernel) (by decide +kernel)
theorem kiRX4 : Cond.initialized RX4 ∈ WS := gws 3 (by decide +kernel) (by decide +kernel)
theorem kiRJ9 : Cond.initialized RJ9 ∈ WS := gws 12 (by decide +kernel) (by decide +kernel)
theorem kiRJ10 : Cond.initialized RJ10 ∈ WS := gws 15 (by decide +kernel) (by decide +kernel)
theorem kiRL : Cond.initialized RL ∈ WS := gws 2 (by decide +kernel) (by decide +kernel)
theorem kiMath : Cond.initialized "java/lang/Math" ∈ WS := gws 12 (by decide +kernel) (by decide +kernel)
theorem kiSystem : Cond.initialized "java/lang/System" ∈ WS := gws 15 (by decide +kernel) (by decide +kernel)
theorem kiIllegalStateException : Cond.initialized "java/lang/IllegalStateException" ∈ WS := gws 14 (by decide +kernel) (by decide +kernel)
theorem kiIllegalArgumentException : Cond.initialized "java/lang/IllegalArgumentException" ∈ WS := gws 11 (by decide +kernel) (by decide +kernel)
theorem kiIndexOutOfBoundsException : Cond.initialized "java/lang/IndexOutOfBoundsException" ∈ WS := gws 13 (by decide +kernel) (by decide +kernel)
theorem inW0 : ∀ w ∈ u_ws RX0 TX0 2, w ∈ WS := by
  intro w h
  refine List.mem_filter.mpr ⟨(by decide +kernel : ∀ w ∈ u_ws RX0 TX0 2, w ∈ lw_tbl) w h, (by decide +kernel : ∀ w ∈ u_ws RX0 TX0 2, goodWord w = true) w h⟩
theorem inW1 : ∀ w ∈ u_ws RX1 TX1 9, w ∈ WS := by
  intro w h
  refine List.mem_filter.mpr ⟨(by decide +kernel : ∀ w ∈ u_ws RX1 TX1 9, w ∈ lw_tbl) w h, (by decide +kernel : ∀ w ∈ u_ws RX1 TX1 9, goodWord w = true) w h⟩
theorem inW2 : ∀ w ∈ u_ws RX2 TX2 2, w ∈ WS := by
  intro w h
  refine List.mem_filter.mpr ⟨(by decide +kernel : ∀ w ∈ u_ws RX2 TX2 2, w ∈ lw_tbl) w h, (by decide +kernel : ∀ w ∈ u_ws RX2 TX2 2, goodWord w = true) w h⟩
theorem inW3 : ∀ w ∈ u_ws RX3 TX3 10, w ∈ WS := by
  intro w h
  refine List.mem_filter.mpr ⟨(by decide +kernel : ∀ w ∈ u_ws RX3 TX3 10, w ∈ lw_tbl) w h, (by decide +kernel : ∀ w ∈ u_ws RX3 TX3 10, goodWord w = true) w h⟩
theorem inW4 : ∀ w ∈ u_ws RX4 TX4 3, w ∈ WS := by
  intro w h
  refine List.mem_filter.mpr ⟨(by decide +kernel : ∀ w ∈ u_ws RX4 TX4 3, w ∈ lw_tbl) w h, (by decide +kernel : ∀ w ∈ u_ws RX4 TX4 3, goodWord w = true) w h⟩
/-- a field's link: the class's name, the pool's number, the class's place, the field's place -/
def gFL (own : String) (idx ci f : Nat) (CN : String) (T : u_T) (n : Nat) (ty : Nat → FieldType) : Prop := (∀ w ∈ u_ws CN T n, w ∈ WS) ∧ vwCl[ci]? = some (CN, T, n) ∧ f < n ∧ Cond.fieldLink own idx (T f).1 (T f).2.1 (T f).2.2.1 ∈ WS ∧ (∀ k, k < n → parseFieldDescriptor (T k).2.2.1 = some (ty k)) ∧ (∀ a, a < n → ∀ b, b < n → a ≠ b → (T a).2.1 ≠ (T b).2.1)
theorem flX0_9 : gFL RX0 9 0 0 RX0 TX0 2 tyX0 := ⟨inW0, rfl, by decide, gws 137 (by decide +kernel) (by decide +kernel), tyX0_ok, nmX0⟩
theorem flX1_15 : gFL RX1 15 1 1 RX1 TX1 9 tyX1 := ⟨inW1, rfl, by decide, gws 38 (by decide +kernel) (by decide +kernel), tyX1_ok, nmX1⟩
theorem flX1_18 : gFL RX1 18 1 3 RX1 TX1 9 tyX1 := ⟨inW1, rfl, by decide, gws 41 (by decide +kernel) (by decide +kernel), tyX1_ok, nmX1⟩
theorem flX1_22 : gFL RX1 22 1 7 RX1 TX1 9 tyX1 := ⟨inW1, rfl, by decide, gws 50 (by decide +kernel) (by decide +kernel), tyX1_ok, nmX1⟩
theorem flX1_32 : gFL RX1 32 1 2 RX1 TX1 9 tyX1 := ⟨inW1, rfl, by decide, gws 39 (by decide +kernel) (by decide +kernel), tyX1_ok, nmX1⟩
theorem flX1_35 : gFL RX1 35 1 4 RX1 TX1 9 tyX1 := ⟨inW1, rfl, by decide, gws 43 (by decide +kernel) (by decide +kernel), tyX1_ok, nmX1⟩
theorem flX1_38 : gFL RX1 38 1 5 RX1 TX1 9 tyX1 := ⟨inW1, rfl, by decide, gws 45 (by decide +kernel) (by decide +kernel), tyX1_ok, nmX1⟩
theorem flX1_41 : gFL RX1 41 1 6 RX1 TX1 9 tyX1 := ⟨inW1, rfl, by decide, gws 47 (by decide +kernel) (by decide +kernel), tyX1_ok, nmX1⟩
theorem flX1_44 : gFL RX1 44 1 8 RX1 TX1 9 tyX1 := ⟨inW1, rfl, by decide, gws 53 (by decide +kernel) (by decide +kernel), tyX1_ok, nmX1⟩
theorem flX1_9 : gFL RX1 9 1 0 RX1 TX1 9 tyX1 := ⟨inW1, rfl, by decide, gws 37 (by decide +kernel) (by decide +kernel), tyX1_ok, nmX1⟩
theorem flX2_11 : gFL RX2 11 2 0 RX2 TX2 2 tyX2 := ⟨inW2, rfl, by decide, gws 123 (by decide +kernel) (by decide +kernel), tyX2_ok, nmX2⟩
theorem flX2_18 : gFL RX2 18 2 1 RX2 TX2 2 tyX2 := ⟨inW2, rfl, by decide, gws 124 (by decide +kernel) (by decide +kernel), tyX2_ok, nmX2⟩
theorem flX3_11 : gFL RX3 11 3 0 RX3 TX3 10 tyX3 := ⟨inW3, rfl, by decide, gws 74 (by decide +kernel) (by decide +kernel), tyX3_ok, nmX3⟩
theorem flX3_131 : gFL RX3 131 1 6 RX1 TX1 9 tyX1 := ⟨inW1, rfl, by decide, gws 49 (by decide +kernel) (by decide +kernel), tyX1_ok, nmX1⟩
theorem flX3_146 : gFL RX3 146 1 5 RX1 TX1 9 tyX1 := ⟨inW1, rfl, by decide, gws 46 (by decide +kernel) (by decide +kernel), tyX1_ok, nmX1⟩
theorem flX3_18 : gFL RX3 18 3 2 RX3 TX3 10 tyX3 := ⟨inW3, rfl, by decide, gws 77 (by decide +kernel) (by decide +kernel), tyX3_ok, nmX3⟩
theorem flX3_22 : gFL RX3 22 3 7 RX3 TX3 10 tyX3 := ⟨inW3, rfl, by decide, gws 87 (by decide +kernel) (by decide +kernel), tyX3_ok, nmX3⟩
theorem flX3_25 : gFL RX3 25 3 9 RX3 TX3 10 tyX3 := ⟨inW3, rfl, by decide, gws 91 (by decide +kernel) (by decide +kernel), tyX3_ok, nmX3⟩
theorem flX3_32 : gFL RX3 32 3 1 RX3 TX3 10 tyX3 := ⟨inW3, rfl, by decide, gws 75 (by decide +kernel) (by decide +kernel), tyX3_ok, nmX3⟩
theorem flX3_35 : gFL RX3 35 3 3 RX3 TX3 10 tyX3 := ⟨inW3, rfl, by decide, gws 79 (by decide +kernel) (by decide +kernel), tyX3_ok, nmX3⟩
theorem flX3_38 : gFL RX3 38 3 4 RX3 TX3 10 tyX3 := ⟨inW3, rfl, by decide, gws 81 (by decide +kernel) (by decide +kernel), tyX3_ok, nmX3⟩
theorem flX3_41 : gFL RX3 41 3 5 RX3 TX3 10 tyX3 := ⟨inW3, rfl, by decide, gws 83 (by decide +kernel) (by decide +kernel), tyX3_ok, nmX3⟩
theorem flX3_44 : gFL RX3 44 3 6 RX3 TX3 10 tyX3 := ⟨inW3, rfl, by decide, gws 85 (by decide +kernel) (by decide +kernel), tyX3_ok, nmX3⟩
theorem flX3_47 : gFL RX3 47 3 8 RX3 TX3 10 tyX3 := ⟨inW3, rfl, by decide, gws 89 (by decide +kernel) (by decide +kernel), tyX3_ok, nmX3⟩
theorem flX3_56 : gFL RX3 56 1 4 RX1 TX1 9 tyX1 := ⟨inW1, rfl, by decide, gws 44 (by decide +kernel) (by decide +kernel), tyX1_ok, nmX1⟩
theorem flX3_68 : gFL RX3 68 1 2 RX1 TX1 9 tyX1 := ⟨inW1, rfl, by decide, gws 40 (by decide +kernel) (by decide +kernel), tyX1_ok, nmX1⟩
theorem flX3_85 : gFL RX3 85 1 3 RX1 TX1 9 tyX1 := ⟨inW1, rfl, by decide, gws 42 (by decide +kernel) (by decide +kernel), tyX1_ok, nmX1⟩
theorem flX3_92 : gFL RX3 92 1 7 RX1 TX1 9 tyX1 := ⟨inW1, rfl, by decide, gws 52 (by decide +kernel) (by decide +kernel), tyX1_ok, nmX1⟩
theorem flX4_10 : gFL RX4 10 4 0 RX4 TX4 3 tyX4 := ⟨inW4, rfl, by decide, gws 144 (by decide +kernel) (by decide +kernel), tyX4_ok, nmX4⟩
theorem flX4_104 : gFL RX4 104 3 9 RX3 TX3 10 tyX3 := ⟨inW3, rfl, by decide, gws 92 (by decide +kernel) (by decide +kernel), tyX3_ok, nmX3⟩
theorem flX4_153 : gFL RX4 153 2 1 RX2 TX2 2 tyX2 := ⟨inW2, rfl, by decide, gws 125 (by decide +kernel) (by decide +kernel), tyX2_ok, nmX2⟩
theorem flX4_19 : gFL RX4 19 4 1 RX4 TX4 3 tyX4 := ⟨inW4, rfl, by decide, gws 145 (by decide +kernel) (by decide +kernel), tyX4_ok, nmX4⟩
theorem flX4_220 : gFL RX4 220 3 1 RX3 TX3 10 tyX3 := ⟨inW3, rfl, by decide, gws 76 (by decide +kernel) (by decide +kernel), tyX3_ok, nmX3⟩
theorem flX4_223 : gFL RX4 223 3 2 RX3 TX3 10 tyX3 := ⟨inW3, rfl, by decide, gws 78 (by decide +kernel) (by decide +kernel), tyX3_ok, nmX3⟩
theorem flX4_232 : gFL RX4 232 3 3 RX3 TX3 10 tyX3 := ⟨inW3, rfl, by decide, gws 80 (by decide +kernel) (by decide +kernel), tyX3_ok, nmX3⟩
theorem flX4_235 : gFL RX4 235 3 4 RX3 TX3 10 tyX3 := ⟨inW3, rfl, by decide, gws 82 (by decide +kernel) (by decide +kernel), tyX3_ok, nmX3⟩
theorem flX4_238 : gFL RX4 238 3 5 RX3 TX3 10 tyX3 := ⟨inW3, rfl, by decide, gws 84 (by decide +kernel) (by decide +kernel), tyX3_ok, nmX3⟩
theorem flX4_241 : gFL RX4 241 3 6 RX3 TX3 10 tyX3 := ⟨inW3, rfl, by decide, gws 86 (by decide +kernel) (by decide +kernel), tyX3_ok, nmX3⟩
theorem flX4_244 : gFL RX4 244 3 7 RX3 TX3 10 tyX3 := ⟨inW3, rfl, by decide, gws 88 (by decide +kernel) (by decide +kernel), tyX3_ok, nmX3⟩
theorem flX4_247 : gFL RX4 247 3 8 RX3 TX3 10 tyX3 := ⟨inW3, rfl, by decide, gws 90 (by decide +kernel) (by decide +kernel), tyX3_ok, nmX3⟩
theorem flX4_26 : gFL RX4 26 4 2 RX4 TX4 3 tyX4 := ⟨inW4, rfl, by decide, gws 146 (by decide +kernel) (by decide +kernel), tyX4_ok, nmX4⟩
theorem flX4_80 : gFL RX4 80 1 7 RX1 TX1 9 tyX1 := ⟨inW1, rfl, by decide, gws 51 (by decide +kernel) (by decide +kernel), tyX1_ok, nmX1⟩
theorem flX4_90 : gFL RX4 90 1 6 RX1 TX1 9 tyX1 := ⟨inW1, rfl, by decide, gws 48 (by decide +kernel) (by decide +kernel), tyX1_ok, nmX1⟩
/-- a call's words: virtual, static, of a constructor -/
def gCV (own : String) (idx : Nat) (C : String) (y : MethodName) (cc : ByteArray) (nL : Nat) (ret : Option FieldType) (np : Nat) : Prop := Cond.methodLink own idx y ∈ WS ∧ Cond.instanceMethod y ∈ WS ∧ Cond.selects C y y ∈ WS ∧ Cond.initialized C ∈ WS ∧ Cond.code y cc nL ret ∈ WS ∧ y.cls = C ∧ y.cls ≠ "java/lang/invoke/MethodHandle" ∧ y.cls ≠ "java/lang/invoke/VarHandle" ∧ (parseMethodDescriptor y.desc).map (fun d => d.parameters.length) = some np
def gCS (own : String) (idx : Nat) (y : MethodName) (cc : ByteArray) (nL : Nat) (ret : Option FieldType) (np : Nat) : Prop := Cond.methodLink own idx y ∈ WS ∧ Cond.static y ∈ WS ∧ Cond.initialized y.cls ∈ WS ∧ Cond.code y cc nL ret ∈ WS ∧ y.cls ≠ "java/lang/invoke/MethodHandle" ∧ y.cls ≠ "java/lang/invoke/VarHandle" ∧ (parseMethodDescriptor y.desc).map (fun d => d.parameters.length) = some np
def gCI (own : String) (idx : Nat) (y : MethodName) (cc : ByteArray) (nL : Nat) (np : Nat) : Prop := Cond.methodLink own idx y ∈ WS ∧ Cond.instanceMethod y ∈ WS ∧ Cond.initialized y.cls ∈ WS ∧ Cond.code y cc nL none ∈ WS ∧ y.name = "<init>" ∧ y.cls ≠ "java/lang/invoke/MethodHandle" ∧ y.cls ≠ "java/lang/invoke/VarHandle" ∧ (parseMethodDescriptor y.desc).map (fun d => d.parameters.length) = some np
theorem kcX4_init : Cond.code yX4_init cX4_init 1 none ∈ WS := gws 20 (by decide +kernel) (by decide +kernel)
theorem kcX3_init : Cond.code yX3_init cX3_init 2 none ∈ WS := gws 28 (by decide +kernel) (by decide +kernel)
theorem kcX1_init : Cond.code yX1_init cX1_init 1 none ∈ WS := gws 35 (by decide +kernel) (by decide +kernel)
theorem kcX2_init : Cond.code yX2_init cX2_init 2 none ∈ WS := gws 118 (by decide +kernel) (by decide +kernel)
theorem kcX0_init : Cond.code yX0_init cX0_init 1 none ∈ WS := gws 135 (by decide +kernel) (by decide +kernel)
theorem kcX4_pass : Cond.code yX4_pass cX4_pass 2 (some .int) ∈ WS := gws 157 (by decide +kernel) (by decide +kernel)
theorem kcX2_push : Cond.code yX2_push cX2_push 2 none ∈ WS := gws 229 (by decide +kernel) (by decide +kernel)
theorem kcX2_dropOldest : Cond.code yX2_dropOldest cX2_dropOldest 3 none ∈ WS := gws 233 (by decide +kernel) (by decide +kernel)
theorem kcX3_copyFrom : Cond.code yX3_copyFrom cX3_copyFrom 3 none ∈ WS := gws 237 (by decide +kernel) (by decide +kernel)
theorem kcX1_copyRoom : Cond.code yX1_copyRoom cX1_copyRoom 2 none ∈ WS := gws 241 (by decide +kernel) (by decide +kernel)
theorem kcX3_passBeats : Cond.code yX3_passBeats cX3_passBeats 4 (some .int) ∈ WS := gws 248 (by decide +kernel) (by decide +kernel)
theorem kcX3_passBeat : Cond.code yX3_passBeat cX3_passBeat 3 (some .int) ∈ WS := gws 252 (by decide +kernel) (by decide +kernel)
theorem kcX1_burnForBeat : Cond.code yX1_burnForBeat cX1_burnForBeat 1 none ∈ WS := gws 256 (by decide +kernel) (by decide +kernel)
theorem kcX1_burntInBeat : Cond.code yX1_burntInBeat cX1_burntInBeat 1 (some .int) ∈ WS := gws 259 (by decide +kernel) (by decide +kernel)
theorem kcX4_asNumber : Cond.code yX4_asNumber cX4_asNumber 1 (some .int) ∈ WS := gws 262 (by decide +kernel) (by decide +kernel)
theorem kcJ9_max_7cf53 : Cond.code yJ9_max_7cf53 cJ9_max_7cf53 2 (some .int) ∈ WS := gws 265 (by decide +kernel) (by decide +kernel)
theorem kcJ9_min_7cf53 : Cond.code yJ9_min_7cf53 cJ9_min_7cf53 2 (some .int) ∈ WS := gws 268 (by decide +kernel) (by decide +kernel)
theorem kcX3_blow : Cond.code yX3_blow cX3_blow 3 none ∈ WS := gws 272 (by decide +kernel) (by decide +kernel)
theorem kcX3_roomsBlown : Cond.code yX3_roomsBlown cX3_roomsBlown 3 (some .int) ∈ WS := gws 276 (by decide +kernel) (by decide +kernel)
theorem kcX3_roomAt : Cond.code yX3_roomAt cX3_roomAt 2 (some (.object "CandleRooms$Room")) ∈ WS := gws 280 (by decide +kernel) (by decide +kernel)
theorem kcJ9_floorMod_7cf53 : Cond.code yJ9_floorMod_7cf53 cJ9_floorMod_7cf53 3 (some .int) ∈ WS := gws 283 (by decide +kernel) (by decide +kernel)
theorem kcX3_candlesBurningFrom : Cond.code yX3_candlesBurningFrom cX3_candlesBurningFrom 5 (some .int) ∈ WS := gws 287 (by decide +kernel) (by decide +kernel)
theorem kcX1_ageThings : Cond.code yX1_ageThings cX1_ageThings 5 (some .int) ∈ WS := gws 292 (by decide +kernel) (by decide +kernel)
theorem kcX4_room : Cond.code yX4_room cX4_room 3 (some .int) ∈ WS := gws 296 (by decide +kernel) (by decide +kernel)
theorem kcX4_requireRoom : Cond.code yX4_requireRoom cX4_requireRoom 1 none ∈ WS := gws 299 (by decide +kernel) (by decide +kernel)
theorem kcX4_isRoom : Cond.code yX4_isRoom cX4_isRoom 1 (some .boolean) ∈ WS := gws 302 (by decide +kernel) (by decide +kernel)
theorem kcX4_requireNumber : Cond.code yX4_requireNumber cX4_requireNumber 2 none ∈ WS := gws 321 (by decide +kernel) (by decide +kernel)
theorem kcX1_number : Cond.code yX1_number cX1_number 2 (some .int) ∈ WS := gws 327 (by decide +kernel) (by decide +kernel)
theorem kcX1_keyAt : Cond.code yX1_keyAt cX1_keyAt 2 (some .int) ∈ WS := gws 331 (by decide +kernel) (by decide +kernel)
theorem kcX4_thing : Cond.code yX4_thing cX4_thing 3 (some .int) ∈ WS := gws 335 (by decide +kernel) (by decide +kernel)
theorem kcX4_requireKey : Cond.code yX4_requireKey cX4_requireKey 1 none ∈ WS := gws 338 (by decide +kernel) (by decide +kernel)
theorem kcX3_thingNumber : Cond.code yX3_thingNumber cX3_thingNumber 6 (some .int) ∈ WS := gws 343 (by decide +kernel) (by decide +kernel)
theorem kcX3_roomOf : Cond.code yX3_roomOf cX3_roomOf 3 (some .int) ∈ WS := gws 347 (by decide +kernel) (by decide +kernel)
theorem kcX1_placeOf : Cond.code yX1_placeOf cX1_placeOf 3 (some .int) ∈ WS := gws 351 (by decide +kernel) (by decide +kernel)
theorem kcX1_darkAt : Cond.code yX1_darkAt cX1_darkAt 2 (some .int) ∈ WS := gws 355 (by decide +kernel) (by decide +kernel)
theorem kcX4_count : Cond.code yX4_count cX4_count 2 (some .int) ∈ WS := gws 359 (by decide +kernel) (by decide +kernel)
theorem kcX4_countNumber : Cond.code yX4_countNumber cX4_countNumber 2 (some .int) ∈ WS := gws 363 (by decide +kernel) (by decide +kernel)
theorem kcX3_candlesBurning : Cond.code yX3_candlesBurning cX3_candlesBurning 3 (some .int) ∈ WS := gws 367 (by decide +kernel) (by decide +kernel)
theorem kcX3_thingsInAll : Cond.code yX3_thingsInAll cX3_thingsInAll 3 (some .int) ∈ WS := gws 371 (by decide +kernel) (by decide +kernel)
theorem kcX4_lasts : Cond.code yX4_lasts cX4_lasts 2 (some .int) ∈ WS := gws 375 (by decide +kernel) (by decide +kernel)
theorem kcX3_beatsLit : Cond.code yX3_beatsLit cX3_beatsLit 3 (some .int) ∈ WS := gws 379 (by decide +kernel) (by decide +kernel)
theorem kcX3_isInDraught : Cond.code yX3_isInDraught cX3_isInDraught 2 (some .boolean) ∈ WS := gws 383 (by decide +kernel) (by decide +kernel)
theorem kcX1_beatsUntrimmed : Cond.code yX1_beatsUntrimmed cX1_beatsUntrimmed 4 (some .int) ∈ WS := gws 387 (by decide +kernel) (by decide +kernel)
theorem kcL_low : Cond.code yL_low cL_low 2 (some .int) ∈ WS := gws 390 (by decide +kernel) (by decide +kernel)
theorem kcL_cell : Cond.code yL_cell cL_cell 2 (some .int) ∈ WS := gws 394 (by decide +kernel) (by decide +kernel)
theorem kcL_house : Cond.code yL_house cL_house 6 (some .boolean) ∈ WS := gws 398 (by decide +kernel) (by decide +kernel)
theorem kcX4_lit : Cond.code yX4_lit cX4_lit 1 (some .double) ∈ WS := gws 402 (by decide +kernel) (by decide +kernel)
theorem kcX3_shareInLight : Cond.code yX3_shareInLight cX3_shareInLight 4 (some .double) ∈ WS := gws 406 (by decide +kernel) (by decide +kernel)
theorem kcX4_carried : Cond.code yX4_carried cX4_carried 2 (some .int) ∈ WS := gws 411 (by decide +kernel) (by decide +kernel)
theorem kcX3_candlesToLight : Cond.code yX3_candlesToLight cX3_candlesToLight 4 (some .int) ∈ WS := gws 415 (by decide +kernel) (by decide +kernel)
theorem kcX3_candlesOnWay : Cond.code yX3_candlesOnWay cX3_candlesOnWay 6 (some .int) ∈ WS := gws 420 (by decide +kernel) (by decide +kernel)
theorem kcX3_areJoined : Cond.code yX3_areJoined cX3_areJoined 3 (some .boolean) ∈ WS := gws 424 (by decide +kernel) (by decide +kernel)
theorem kcX4_saves : Cond.code yX4_saves cX4_saves 2 (some .int) ∈ WS := gws 429 (by decide +kernel) (by decide +kernel)
theorem kcX1_beatsSaved : Cond.code yX1_beatsSaved cX1_beatsSaved 1 (some .int) ∈ WS := gws 433 (by decide +kernel) (by decide +kernel)
theorem kcX4_nextForgotten : Cond.code yX4_nextForgotten cX4_nextForgotten 1 (some .int) ∈ WS := gws 438 (by decide +kernel) (by decide +kernel)
theorem kcX3_beatsToForgetting : Cond.code yX3_beatsToForgetting cX3_beatsToForgetting 4 (some .int) ∈ WS := gws 442 (by decide +kernel) (by decide +kernel)
theorem kcX1_beatsToFirstForgotten : Cond.code yX1_beatsToFirstForgotten cX1_beatsToFirstForgotten 5 (some .int) ∈ WS := gws 447 (by decide +kernel) (by decide +kernel)
theorem kcX4_needy : Cond.code yX4_needy cX4_needy 1 (some .int) ∈ WS := gws 451 (by decide +kernel) (by decide +kernel)
theorem kcX3_neediest : Cond.code yX3_neediest cX3_neediest 3 (some .int) ∈ WS := gws 455 (by decide +kernel) (by decide +kernel)
theorem kcX3_isNeedier : Cond.code yX3_isNeedier cX3_isNeedier 5 (some .boolean) ∈ WS := gws 459 (by decide +kernel) (by decide +kernel)
theorem kcL_act : Cond.code yL_act cL_act 7 (some .int) ∈ WS := gws 462 (by decide +kernel) (by decide +kernel)
theorem kcX4_strike : Cond.code yX4_strike cX4_strike 2 (some .int) ∈ WS := gws 470 (by decide +kernel) (by decide +kernel)
theorem kcX3_canStrike : Cond.code yX3_canStrike cX3_canStrike 2 (some .boolean) ∈ WS := gws 474 (by decide +kernel) (by decide +kernel)
theorem kcX3_kindle : Cond.code yX3_kindle cX3_kindle 3 (some .int) ∈ WS := gws 494 (by decide +kernel) (by decide +kernel)
theorem kcX4_light : Cond.code yX4_light cX4_light 3 (some .int) ∈ WS := gws 501 (by decide +kernel) (by decide +kernel)
theorem kcX3_canLight : Cond.code yX3_canLight cX3_canLight 4 (some .boolean) ∈ WS := gws 505 (by decide +kernel) (by decide +kernel)
theorem kcX4_fresh : Cond.code yX4_fresh cX4_fresh 2 (some .int) ∈ WS := gws 513 (by decide +kernel) (by decide +kernel)
theorem kcX3_hasNewCandle : Cond.code yX3_hasNewCandle cX3_hasNewCandle 1 (some .boolean) ∈ WS := gws 517 (by decide +kernel) (by decide +kernel)
theorem kcX3_putNewCandle : Cond.code yX3_putNewCandle cX3_putNewCandle 2 (some .int) ∈ WS := gws 522 (by decide +kernel) (by decide +kernel)
theorem kcX1_takeNewCandle : Cond.code yX1_takeNewCandle cX1_takeNewCandle 1 none ∈ WS := gws 526 (by decide +kernel) (by decide +kernel)
theorem kcX4_door : Cond.code yX4_door cX4_door 5 (some .int) ∈ WS := gws 530 (by decide +kernel) (by decide +kernel)
theorem kcX4_shield : Cond.code yX4_shield cX4_shield 5 (some .int) ∈ WS := gws 536 (by decide +kernel) (by decide +kernel)
theorem kcX4_draught : Cond.code yX4_draught cX4_draught 3 (some .int) ∈ WS := gws 540 (by decide +kernel) (by decide +kernel)
theorem kcX3_beginDraught : Cond.code yX3_beginDraught cX3_beginDraught 3 (some .int) ∈ WS := gws 545 (by decide +kernel) (by decide +kernel)
theorem kcX4_keep : Cond.code yX4_keep cX4_keep 3 (some .int) ∈ WS := gws 552 (by decide +kernel) (by decide +kernel)
theorem kcX3_canKeep : Cond.code yX3_canKeep cX3_canKeep 3 (some .boolean) ∈ WS := gws 556 (by decide +kernel) (by decide +kernel)
theorem kcX3_putThing : Cond.code yX3_putThing cX3_putThing 4 (some .int) ∈ WS := gws 561 (by decide +kernel) (by decide +kernel)
theorem kcX1_addThing : Cond.code yX1_addThing cX1_addThing 2 none ∈ WS := gws 565 (by decide +kernel) (by decide +kernel)
theorem kcX4_read : Cond.code yX4_read cX4_read 2 (some .int) ∈ WS := gws 569 (by decide +kernel) (by decide +kernel)
theorem kcX3_readThing : Cond.code yX3_readThing cX3_readThing 4 (some .int) ∈ WS := gws 573 (by decide +kernel) (by decide +kernel)
theorem kcX4_undo : Cond.code yX4_undo cX4_undo 1 (some .int) ∈ WS := gws 581 (by decide +kernel) (by decide +kernel)
theorem kcX2_popInto : Cond.code yX2_popInto cX2_popInto 2 (some .int) ∈ WS := gws 586 (by decide +kernel) (by decide +kernel)
theorem kcX4_set : Cond.code yX4_set cX4_set 3 (some .int) ∈ WS := gws 590 (by decide +kernel) (by decide +kernel)
theorem cwX1_51 : gCV RX1 51 RX1 yX1_keyAt cX1_keyAt 2 (some .int) 1 := ⟨gws 328 (by decide +kernel) (by decide +kernel), gws 329 (by decide +kernel) (by decide +kernel), gws 330 (by decide +kernel) (by decide +kernel), gws 5 (by decide +kernel) (by decide +kernel), kcX1_keyAt, rfl, by decide +kernel, by decide +kernel, by decide +kernel⟩
theorem cwX1_55 : gCS RX1 55 yX1_burntInBeat cX1_burntInBeat 1 (some .int) 1 := ⟨gws 257 (by decide +kernel) (by decide +kernel), gws 258 (by decide +kernel) (by decide +kernel), gws 5 (by decide +kernel) (by decide +kernel), kcX1_burntInBeat, by decide +kernel, by decide +kernel, by decide +kernel⟩
theorem cwX1_58 : gCS RX1 58 yJ9_max_7cf53 cJ9_max_7cf53 2 (some .int) 2 := ⟨gws 263 (by decide +kernel) (by decide +kernel), gws 264 (by decide +kernel) (by decide +kernel), gws 12 (by decide +kernel) (by decide +kernel), kcJ9_max_7cf53, by decide +kernel, by decide +kernel, by decide +kernel⟩
theorem cwX1_64 : gCS RX1 64 yJ9_min_7cf53 cJ9_min_7cf53 2 (some .int) 2 := ⟨gws 266 (by decide +kernel) (by decide +kernel), gws 267 (by decide +kernel) (by decide +kernel), gws 12 (by decide +kernel) (by decide +kernel), kcJ9_min_7cf53, by decide +kernel, by decide +kernel, by decide +kernel⟩
theorem cwX1_67 : gCV RX1 67 RX1 yX1_beatsUntrimmed cX1_beatsUntrimmed 4 (some .int) 0 := ⟨gws 434 (by decide +kernel) (by decide +kernel), gws 385 (by decide +kernel) (by decide +kernel), gws 386 (by decide +kernel) (by decide +kernel), gws 5 (by decide +kernel) (by decide +kernel), kcX1_beatsUntrimmed, rfl, by decide +kernel, by decide +kernel, by decide +kernel⟩
theorem cwX2_17 : gCI RX2 17 yX3_init cX3_init 2 0 := ⟨gws 122 (by decide +kernel) (by decide +kernel), gws 27 (by decide +kernel) (by decide +kernel), gws 4 (by decide +kernel) (by decide +kernel), kcX3_init, rfl, by decide +kernel, by decide +kernel, by decide +kernel⟩
theorem cwX2_22 : gCV RX2 22 RX2 yX2_dropOldest cX2_dropOldest 3 none 0 := ⟨gws 230 (by decide +kernel) (by decide +kernel), gws 231 (by decide +kernel) (by decide +kernel), gws 232 (by decide +kernel) (by decide +kernel), gws 6 (by decide +kernel) (by decide +kernel), kcX2_dropOldest, rfl, by decide +kernel, by decide +kernel, by decide +kernel⟩
theorem cwX2_25 : gCV RX2 25 RX3 yX3_copyFrom cX3_copyFrom 3 none 1 := ⟨gws 234 (by decide +kernel) (by decide +kernel), gws 235 (by decide +kernel) (by decide +kernel), gws 236 (by decide +kernel) (by decide +kernel), gws 4 (by decide +kernel) (by decide +kernel), kcX3_copyFrom, rfl, by decide +kernel, by decide +kernel, by decide +kernel⟩
theorem cwX3_105 : gCV RX3 105 RX1 yX1_takeNewCandle cX1_takeNewCandle 1 none 0 := ⟨gws 523 (by decide +kernel) (by decide +kernel), gws 524 (by decide +kernel) (by decide +kernel), gws 525 (by decide +kernel) (by decide +kernel), gws 5 (by decide +kernel) (by decide +kernel), kcX1_takeNewCandle, rfl, by decide +kernel, by decide +kernel, by decide +kernel⟩
theorem cwX3_115 : gCV RX3 115 RX1 yX1_addThing cX1_addThing 2 none 1 := ⟨gws 562 (by decide +kernel) (by decide +kernel), gws 563 (by decide +kernel) (by decide +kernel), gws 564 (by decide +kernel) (by decide +kernel), gws 5 (by decide +kernel) (by decide +kernel), kcX1_addThing, rfl, by decide +kernel, by decide +kernel, by decide +kernel⟩
theorem cwX3_125 : gCV RX3 125 RX3 yX3_roomsBlown cX3_roomsBlown 3 (some .int) 0 := ⟨gws 273 (by decide +kernel) (by decide +kernel), gws 274 (by decide +kernel) (by decide +kernel), gws 275 (by decide +kernel) (by decide +kernel), gws 4 (by decide +kernel) (by decide +kernel), kcX3_roomsBlown, rfl, by decide +kernel, by decide +kernel, by decide +kernel⟩
theorem cwX3_128 : gCV RX3 128 RX3 yX3_candlesBurningFrom cX3_candlesBurningFrom 5 (some .int) 2 := ⟨gws 284 (by decide +kernel) (by decide +kernel), gws 285 (by decide +kernel) (by decide +kernel), gws 286 (by decide +kernel) (by decide +kernel), gws 4 (by decide +kernel) (by decide +kernel), kcX3_candlesBurningFrom, rfl, by decide +kernel, by decide +kernel, by decide +kernel⟩
theorem cwX3_134 : gCV RX3 134 RX3 yX3_passBeat cX3_passBeat 3 (some .int) 0 := ⟨gws 249 (by decide +kernel) (by decide +kernel), gws 250 (by decide +kernel) (by decide +kernel), gws 251 (by decide +kernel) (by decide +kernel), gws 4 (by decide +kernel) (by decide +kernel), kcX3_passBeat, rfl, by decide +kernel, by decide +kernel, by decide +kernel⟩
theorem cwX3_137 : gCV RX3 137 RX1 yX1_burnForBeat cX1_burnForBeat 1 none 0 := ⟨gws 253 (by decide +kernel) (by decide +kernel), gws 254 (by decide +kernel) (by decide +kernel), gws 255 (by decide +kernel) (by decide +kernel), gws 5 (by decide +kernel) (by decide +kernel), kcX1_burnForBeat, rfl, by decide +kernel, by decide +kernel, by decide +kernel⟩
theorem cwX3_140 : gCV RX3 140 RX3 yX3_blow cX3_blow 3 none 0 := ⟨gws 269 (by decide +kernel) (by decide +kernel), gws 270 (by decide +kernel) (by decide +kernel), gws 271 (by decide +kernel) (by decide +kernel), gws 4 (by decide +kernel) (by decide +kernel), kcX3_blow, rfl, by decide +kernel, by decide +kernel, by decide +kernel⟩
theorem cwX3_143 : gCV RX3 143 RX1 yX1_ageThings cX1_ageThings 5 (some .int) 1 := ⟨gws 289 (by decide +kernel) (by decide +kernel), gws 290 (by decide +kernel) (by decide +kernel), gws 291 (by decide +kernel) (by decide +kernel), gws 5 (by decide +kernel) (by decide +kernel), kcX1_ageThings, rfl, by decide +kernel, by decide +kernel, by decide +kernel⟩
theorem cwX3_149 : gCV RX3 149 RX3 yX3_passBeats cX3_passBeats 4 (some .int) 1 := ⟨gws 574 (by decide +kernel) (by decide +kernel), gws 246 (by decide +kernel) (by decide +kernel), gws 247 (by decide +kernel) (by decide +kernel), gws 4 (by decide +kernel) (by decide +kernel), kcX3_passBeats, rfl, by decide +kernel, by decide +kernel, by decide +kernel⟩
theorem cwX3_152 : gCV RX3 152 RX3 yX3_isInDraught cX3_isInDraught 2 (some .boolean) 1 := ⟨gws 380 (by decide +kernel) (by decide +kernel), gws 381 (by decide +kernel) (by decide +kernel), gws 382 (by decide +kernel) (by decide +kernel), gws 4 (by decide +kernel) (by decide +kernel), kcX3_isInDraught, rfl, by decide +kernel, by decide +kernel, by decide +kernel⟩
theorem cwX3_155 : gCV RX3 155 RX1 yX1_beatsUntrimmed cX1_beatsUntrimmed 4 (some .int) 0 := ⟨gws 384 (by decide +kernel) (by decide +kernel), gws 385 (by decide +kernel) (by decide +kernel), gws 386 (by decide +kernel) (by decide +kernel), gws 5 (by decide +kernel) (by decide +kernel), kcX1_beatsUntrimmed, rfl, by decide +kernel, by decide +kernel, by decide +kernel⟩
theorem cwX3_158 : gCV RX3 158 RX3 yX3_beatsLit cX3_beatsLit 3 (some .int) 1 := ⟨gws 443 (by decide +kernel) (by decide +kernel), gws 377 (by decide +kernel) (by decide +kernel), gws 378 (by decide +kernel) (by decide +kernel), gws 4 (by decide +kernel) (by decide +kernel), kcX3_beatsLit, rfl, by decide +kernel, by decide +kernel, by decide +kernel⟩
theorem cwX3_161 : gCV RX3 161 RX1 yX1_beatsToFirstForgotten cX1_beatsToFirstForgotten 5 (some .int) 2 := ⟨gws 444 (by decide +kernel) (by decide +kernel), gws 445 (by decide +kernel) (by decide +kernel), gws 446 (by decide +kernel) (by decide +kernel), gws 5 (by decide +kernel) (by decide +kernel), kcX1_beatsToFirstForgotten, rfl, by decide +kernel, by decide +kernel, by decide +kernel⟩
theorem cwX3_164 : gCS RX3 164 yJ9_min_7cf53 cJ9_min_7cf53 2 (some .int) 2 := ⟨gws 425 (by decide +kernel) (by decide +kernel), gws 267 (by decide +kernel) (by decide +kernel), gws 12 (by decide +kernel) (by decide +kernel), kcJ9_min_7cf53, by decide +kernel, by decide +kernel, by decide +kernel⟩
theorem cwX3_167 : gCV RX3 167 RX3 yX3_candlesOnWay cX3_candlesOnWay 6 (some .int) 2 := ⟨gws 417 (by decide +kernel) (by decide +kernel), gws 418 (by decide +kernel) (by decide +kernel), gws 419 (by decide +kernel) (by decide +kernel), gws 4 (by decide +kernel) (by decide +kernel), kcX3_candlesOnWay, rfl, by decide +kernel, by decide +kernel, by decide +kernel⟩
theorem cwX3_17 : gCI RX3 17 yX1_init cX1_init 1 0 := ⟨gws 33 (by decide +kernel) (by decide +kernel), gws 34 (by decide +kernel) (by decide +kernel), gws 5 (by decide +kernel) (by decide +kernel), kcX1_init, rfl, by decide +kernel, by decide +kernel, by decide +kernel⟩
theorem cwX3_170 : gCV RX3 170 RX3 yX3_isNeedier cX3_isNeedier 5 (some .boolean) 2 := ⟨gws 456 (by decide +kernel) (by decide +kernel), gws 457 (by decide +kernel) (by decide +kernel), gws 458 (by decide +kernel) (by decide +kernel), gws 4 (by decide +kernel) (by decide +kernel), kcX3_isNeedier, rfl, by decide +kernel, by decide +kernel, by decide +kernel⟩
theorem cwX3_173 : gCV RX3 173 RX3 yX3_thingsInAll cX3_thingsInAll 3 (some .int) 0 := ⟨gws 407 (by decide +kernel) (by decide +kernel), gws 369 (by decide +kernel) (by decide +kernel), gws 370 (by decide +kernel) (by decide +kernel), gws 4 (by decide +kernel) (by decide +kernel), kcX3_thingsInAll, rfl, by decide +kernel, by decide +kernel, by decide +kernel⟩
theorem cwX3_28 : gCV RX3 28 RX1 yX1_copyRoom cX1_copyRoom 2 none 1 := ⟨gws 238 (by decide +kernel) (by decide +kernel), gws 239 (by decide +kernel) (by decide +kernel), gws 240 (by decide +kernel) (by decide +kernel), gws 5 (by decide +kernel) (by decide +kernel), kcX1_copyRoom, rfl, by decide +kernel, by decide +kernel, by decide +kernel⟩
theorem cwX3_50 : gCS RX3 50 yJ9_floorMod_7cf53 cJ9_floorMod_7cf53 3 (some .int) 2 := ⟨gws 281 (by decide +kernel) (by decide +kernel), gws 282 (by decide +kernel) (by decide +kernel), gws 12 (by decide +kernel) (by decide +kernel), kcJ9_floorMod_7cf53, by decide +kernel, by decide +kernel, by decide +kernel⟩
theorem cwX3_64 : gCV RX3 64 RX3 yX3_roomAt cX3_roomAt 2 (some (.object "CandleRooms$Room")) 1 := ⟨gws 277 (by decide +kernel) (by decide +kernel), gws 278 (by decide +kernel) (by decide +kernel), gws 279 (by decide +kernel) (by decide +kernel), gws 4 (by decide +kernel) (by decide +kernel), kcX3_roomAt, rfl, by decide +kernel, by decide +kernel, by decide +kernel⟩
theorem cwX3_71 : gCV RX3 71 RX1 yX1_placeOf cX1_placeOf 3 (some .int) 1 := ⟨gws 348 (by decide +kernel) (by decide +kernel), gws 349 (by decide +kernel) (by decide +kernel), gws 350 (by decide +kernel) (by decide +kernel), gws 5 (by decide +kernel) (by decide +kernel), kcX1_placeOf, rfl, by decide +kernel, by decide +kernel, by decide +kernel⟩
theorem cwX3_75 : gCV RX3 75 RX3 yX3_roomOf cX3_roomOf 3 (some .int) 1 := ⟨gws 344 (by decide +kernel) (by decide +kernel), gws 345 (by decide +kernel) (by decide +kernel), gws 346 (by decide +kernel) (by decide +kernel), gws 4 (by decide +kernel) (by decide +kernel), kcX3_roomOf, rfl, by decide +kernel, by decide +kernel, by decide +kernel⟩
theorem cwX3_78 : gCV RX3 78 RX1 yX1_darkAt cX1_darkAt 2 (some .int) 1 := ⟨gws 352 (by decide +kernel) (by decide +kernel), gws 353 (by decide +kernel) (by decide +kernel), gws 354 (by decide +kernel) (by decide +kernel), gws 5 (by decide +kernel) (by decide +kernel), kcX1_darkAt, rfl, by decide +kernel, by decide +kernel, by decide +kernel⟩
theorem cwX3_81 : gCV RX3 81 RX3 yX3_candlesBurning cX3_candlesBurning 3 (some .int) 0 := ⟨gws 416 (by decide +kernel) (by decide +kernel), gws 365 (by decide +kernel) (by decide +kernel), gws 366 (by decide +kernel) (by decide +kernel), gws 4 (by decide +kernel) (by decide +kernel), kcX3_candlesBurning, rfl, by decide +kernel, by decide +kernel, by decide +kernel⟩
theorem cwX3_88 : gCV RX3 88 RX3 yX3_areJoined cX3_areJoined 3 (some .boolean) 2 := ⟨gws 421 (by decide +kernel) (by decide +kernel), gws 422 (by decide +kernel) (by decide +kernel), gws 423 (by decide +kernel) (by decide +kernel), gws 4 (by decide +kernel) (by decide +kernel), kcX3_areJoined, rfl, by decide +kernel, by decide +kernel, by decide +kernel⟩
theorem cwX4_108 : gCS RX4 108 yX4_requireKey cX4_requireKey 1 none 1 := ⟨gws 336 (by decide +kernel) (by decide +kernel), gws 337 (by decide +kernel) (by decide +kernel), gws 3 (by decide +kernel) (by decide +kernel), kcX4_requireKey, by decide +kernel, by decide +kernel, by decide +kernel⟩
theorem cwX4_111 : gCV RX4 111 RX3 yX3_canKeep cX3_canKeep 3 (some .boolean) 2 := ⟨gws 553 (by decide +kernel) (by decide +kernel), gws 554 (by decide +kernel) (by decide +kernel), gws 555 (by decide +kernel) (by decide +kernel), gws 4 (by decide +kernel) (by decide +kernel), kcX3_canKeep, rfl, by decide +kernel, by decide +kernel, by decide +kernel⟩
theorem cwX4_116 : gCV RX4 116 RX3 yX3_putThing cX3_putThing 4 (some .int) 2 := ⟨gws 558 (by decide +kernel) (by decide +kernel), gws 559 (by decide +kernel) (by decide +kernel), gws 560 (by decide +kernel) (by decide +kernel), gws 4 (by decide +kernel) (by decide +kernel), kcX3_putThing, rfl, by decide +kernel, by decide +kernel, by decide +kernel⟩
theorem cwX4_119 : gCV RX4 119 RX3 yX3_readThing cX3_readThing 4 (some .int) 1 := ⟨gws 570 (by decide +kernel) (by decide +kernel), gws 571 (by decide +kernel) (by decide +kernel), gws 572 (by decide +kernel) (by decide +kernel), gws 4 (by decide +kernel) (by decide +kernel), kcX3_readThing, rfl, by decide +kernel, by decide +kernel, by decide +kernel⟩
theorem cwX4_124 : gCV RX4 124 RX3 yX3_passBeats cX3_passBeats 4 (some .int) 1 := ⟨gws 245 (by decide +kernel) (by decide +kernel), gws 246 (by decide +kernel) (by decide +kernel), gws 247 (by decide +kernel) (by decide +kernel), gws 4 (by decide +kernel) (by decide +kernel), kcX3_passBeats, rfl, by decide +kernel, by decide +kernel, by decide +kernel⟩
theorem cwX4_158 : gCV RX4 158 RX2 yX2_popInto cX2_popInto 2 (some .int) 1 := ⟨gws 583 (by decide +kernel) (by decide +kernel), gws 584 (by decide +kernel) (by decide +kernel), gws 585 (by decide +kernel) (by decide +kernel), gws 6 (by decide +kernel) (by decide +kernel), kcX2_popInto, rfl, by decide +kernel, by decide +kernel, by decide +kernel⟩
theorem cwX4_162 : gCS RX4 162 yX4_requireNumber cX4_requireNumber 2 none 2 := ⟨gws 319 (by decide +kernel) (by decide +kernel), gws 320 (by decide +kernel) (by decide +kernel), gws 3 (by decide +kernel) (by decide +kernel), kcX4_requireNumber, by decide +kernel, by decide +kernel, by decide +kernel⟩
theorem cwX4_166 : gCV RX4 166 RX1 yX1_number cX1_number 2 (some .int) 1 := ⟨gws 324 (by decide +kernel) (by decide +kernel), gws 325 (by decide +kernel) (by decide +kernel), gws 326 (by decide +kernel) (by decide +kernel), gws 5 (by decide +kernel) (by decide +kernel), kcX1_number, rfl, by decide +kernel, by decide +kernel, by decide +kernel⟩
theorem cwX4_169 : gCV RX4 169 RX3 yX3_thingNumber cX3_thingNumber 6 (some .int) 2 := ⟨gws 340 (by decide +kernel) (by decide +kernel), gws 341 (by decide +kernel) (by decide +kernel), gws 342 (by decide +kernel) (by decide +kernel), gws 4 (by decide +kernel) (by decide +kernel), kcX3_thingNumber, rfl, by decide +kernel, by decide +kernel, by decide +kernel⟩
theorem cwX4_172 : gCV RX4 172 RX4 yX4_countNumber cX4_countNumber 2 (some .int) 1 := ⟨gws 360 (by decide +kernel) (by decide +kernel), gws 362 (by decide +kernel) (by decide +kernel), gws 1 (by decide +kernel) (by decide +kernel), gws 3 (by decide +kernel) (by decide +kernel), kcX4_countNumber, rfl, by decide +kernel, by decide +kernel, by decide +kernel⟩
theorem cwX4_175 : gCV RX4 175 RX3 yX3_beatsLit cX3_beatsLit 3 (some .int) 1 := ⟨gws 376 (by decide +kernel) (by decide +kernel), gws 377 (by decide +kernel) (by decide +kernel), gws 378 (by decide +kernel) (by decide +kernel), gws 4 (by decide +kernel) (by decide +kernel), kcX3_beatsLit, rfl, by decide +kernel, by decide +kernel, by decide +kernel⟩
theorem cwX4_178 : gCV RX4 178 RX3 yX3_beatsToForgetting cX3_beatsToForgetting 4 (some .int) 0 := ⟨gws 439 (by decide +kernel) (by decide +kernel), gws 440 (by decide +kernel) (by decide +kernel), gws 441 (by decide +kernel) (by decide +kernel), gws 4 (by decide +kernel) (by decide +kernel), kcX3_beatsToForgetting, rfl, by decide +kernel, by decide +kernel, by decide +kernel⟩
theorem cwX4_18 : gCI RX4 18 yX2_init cX2_init 2 0 := ⟨gws 116 (by decide +kernel) (by decide +kernel), gws 117 (by decide +kernel) (by decide +kernel), gws 6 (by decide +kernel) (by decide +kernel), kcX2_init, rfl, by decide +kernel, by decide +kernel, by decide +kernel⟩
theorem cwX4_181 : gCV RX4 181 RX3 yX3_candlesToLight cX3_candlesToLight 4 (some .int) 1 := ⟨gws 412 (by decide +kernel) (by decide +kernel), gws 413 (by decide +kernel) (by decide +kernel), gws 414 (by decide +kernel) (by decide +kernel), gws 4 (by decide +kernel) (by decide +kernel), kcX3_candlesToLight, rfl, by decide +kernel, by decide +kernel, by decide +kernel⟩
theorem cwX4_184 : gCV RX4 184 RX3 yX3_neediest cX3_neediest 3 (some .int) 0 := ⟨gws 452 (by decide +kernel) (by decide +kernel), gws 453 (by decide +kernel) (by decide +kernel), gws 454 (by decide +kernel) (by decide +kernel), gws 4 (by decide +kernel) (by decide +kernel), kcX3_neediest, rfl, by decide +kernel, by decide +kernel, by decide +kernel⟩
theorem cwX4_187 : gCV RX4 187 RX1 yX1_beatsSaved cX1_beatsSaved 1 (some .int) 0 := ⟨gws 430 (by decide +kernel) (by decide +kernel), gws 431 (by decide +kernel) (by decide +kernel), gws 432 (by decide +kernel) (by decide +kernel), gws 5 (by decide +kernel) (by decide +kernel), kcX1_beatsSaved, rfl, by decide +kernel, by decide +kernel, by decide +kernel⟩
theorem cwX4_190 : gCV RX4 190 RX3 yX3_shareInLight cX3_shareInLight 4 (some .double) 0 := ⟨gws 403 (by decide +kernel) (by decide +kernel), gws 404 (by decide +kernel) (by decide +kernel), gws 405 (by decide +kernel) (by decide +kernel), gws 4 (by decide +kernel) (by decide +kernel), kcX3_shareInLight, rfl, by decide +kernel, by decide +kernel, by decide +kernel⟩
theorem cwX4_226 : gCV RX4 226 RX3 yX3_candlesBurning cX3_candlesBurning 3 (some .int) 0 := ⟨gws 364 (by decide +kernel) (by decide +kernel), gws 365 (by decide +kernel) (by decide +kernel), gws 366 (by decide +kernel) (by decide +kernel), gws 4 (by decide +kernel) (by decide +kernel), kcX3_candlesBurning, rfl, by decide +kernel, by decide +kernel, by decide +kernel⟩
theorem cwX4_229 : gCV RX4 229 RX3 yX3_thingsInAll cX3_thingsInAll 3 (some .int) 0 := ⟨gws 368 (by decide +kernel) (by decide +kernel), gws 369 (by decide +kernel) (by decide +kernel), gws 370 (by decide +kernel) (by decide +kernel), gws 4 (by decide +kernel) (by decide +kernel), kcX3_thingsInAll, rfl, by decide +kernel, by decide +kernel, by decide +kernel⟩
theorem cwX4_25 : gCI RX4 25 yX0_init cX0_init 1 0 := ⟨gws 133 (by decide +kernel) (by decide +kernel), gws 134 (by decide +kernel) (by decide +kernel), gws 7 (by decide +kernel) (by decide +kernel), kcX0_init, rfl, by decide +kernel, by decide +kernel, by decide +kernel⟩
theorem cwX4_30 : gCS RX4 30 yX4_requireRoom cX4_requireRoom 1 none 1 := ⟨gws 297 (by decide +kernel) (by decide +kernel), gws 298 (by decide +kernel) (by decide +kernel), gws 3 (by decide +kernel) (by decide +kernel), kcX4_requireRoom, by decide +kernel, by decide +kernel, by decide +kernel⟩
theorem cwX4_34 : gCV RX4 34 RX3 yX3_canStrike cX3_canStrike 2 (some .boolean) 1 := ⟨gws 471 (by decide +kernel) (by decide +kernel), gws 472 (by decide +kernel) (by decide +kernel), gws 473 (by decide +kernel) (by decide +kernel), gws 4 (by decide +kernel) (by decide +kernel), kcX3_canStrike, rfl, by decide +kernel, by decide +kernel, by decide +kernel⟩
theorem cwX4_45 : gCV RX4 45 RX2 yX2_push cX2_push 2 none 1 := ⟨gws 226 (by decide +kernel) (by decide +kernel), gws 227 (by decide +kernel) (by decide +kernel), gws 228 (by decide +kernel) (by decide +kernel), gws 6 (by decide +kernel) (by decide +kernel), kcX2_push, rfl, by decide +kernel, by decide +kernel, by decide +kernel⟩
theorem cwX4_49 : gCV RX4 49 RX3 yX3_kindle cX3_kindle 3 (some .int) 1 := ⟨gws 491 (by decide +kernel) (by decide +kernel), gws 492 (by decide +kernel) (by decide +kernel), gws 493 (by decide +kernel) (by decide +kernel), gws 4 (by decide +kernel) (by decide +kernel), kcX3_kindle, rfl, by decide +kernel, by decide +kernel, by decide +kernel⟩
theorem cwX4_53 : gCV RX4 53 RX3 yX3_canLight cX3_canLight 4 (some .boolean) 2 := ⟨gws 502 (by decide +kernel) (by decide +kernel), gws 503 (by decide +kernel) (by decide +kernel), gws 504 (by decide +kernel) (by decide +kernel), gws 4 (by decide +kernel) (by decide +kernel), kcX3_canLight, rfl, by decide +kernel, by decide +kernel, by decide +kernel⟩
theorem cwX4_59 : gCV RX4 59 RX3 yX3_hasNewCandle cX3_hasNewCandle 1 (some .boolean) 0 := ⟨gws 514 (by decide +kernel) (by decide +kernel), gws 515 (by decide +kernel) (by decide +kernel), gws 516 (by decide +kernel) (by decide +kernel), gws 4 (by decide +kernel) (by decide +kernel), kcX3_hasNewCandle, rfl, by decide +kernel, by decide +kernel, by decide +kernel⟩
theorem cwX4_65 : gCV RX4 65 RX3 yX3_putNewCandle cX3_putNewCandle 2 (some .int) 1 := ⟨gws 519 (by decide +kernel) (by decide +kernel), gws 520 (by decide +kernel) (by decide +kernel), gws 521 (by decide +kernel) (by decide +kernel), gws 4 (by decide +kernel) (by decide +kernel), kcX3_putNewCandle, rfl, by decide +kernel, by decide +kernel, by decide +kernel⟩
theorem cwX4_68 : gCS RX4 68 yX4_isRoom cX4_isRoom 1 (some .boolean) 1 := ⟨gws 300 (by decide +kernel) (by decide +kernel), gws 301 (by decide +kernel) (by decide +kernel), gws 3 (by decide +kernel) (by decide +kernel), kcX4_isRoom, by decide +kernel, by decide +kernel, by decide +kernel⟩
theorem cwX4_76 : gCV RX4 76 RX3 yX3_roomAt cX3_roomAt 2 (some (.object "CandleRooms$Room")) 1 := ⟨gws 323 (by decide +kernel) (by decide +kernel), gws 278 (by decide +kernel) (by decide +kernel), gws 279 (by decide +kernel) (by decide +kernel), gws 4 (by decide +kernel) (by decide +kernel), kcX3_roomAt, rfl, by decide +kernel, by decide +kernel, by decide +kernel⟩
theorem cwX4_86 : gCS RX4 86 yX4_asNumber cX4_asNumber 1 (some .int) 1 := ⟨gws 532 (by decide +kernel) (by decide +kernel), gws 261 (by decide +kernel) (by decide +kernel), gws 3 (by decide +kernel) (by decide +kernel), kcX4_asNumber, by decide +kernel, by decide +kernel, by decide +kernel⟩
theorem cwX4_9 : gCI RX4 9 yX3_init cX3_init 2 0 := ⟨gws 26 (by decide +kernel) (by decide +kernel), gws 27 (by decide +kernel) (by decide +kernel), gws 4 (by decide +kernel) (by decide +kernel), kcX3_init, rfl, by decide +kernel, by decide +kernel, by decide +kernel⟩
theorem cwX4_98 : gCV RX4 98 RX3 yX3_beginDraught cX3_beginDraught 3 (some .int) 2 := ⟨gws 542 (by decide +kernel) (by decide +kernel), gws 543 (by decide +kernel) (by decide +kernel), gws 544 (by decide +kernel) (by decide +kernel), gws 4 (by decide +kernel) (by decide +kernel), kcX3_beginDraught, rfl, by decide +kernel, by decide +kernel, by decide +kernel⟩
theorem cwL_100 : gCI RL 100 yX4_init cX4_init 1 0 := ⟨gws 18 (by decide +kernel) (by decide +kernel), gws 19 (by decide +kernel) (by decide +kernel), gws 3 (by decide +kernel) (by decide +kernel), kcX4_init, rfl, by decide +kernel, by decide +kernel, by decide +kernel⟩
theorem cwL_101 : gCS RL 101 yL_act cL_act 7 (some .int) 3 := ⟨gws 460 (by decide +kernel) (by decide +kernel), gws 461 (by decide +kernel) (by decide +kernel), gws 2 (by decide +kernel) (by decide +kernel), kcL_act, by decide +kernel, by decide +kernel, by decide +kernel⟩
theorem cwL_105 : gCS RL 105 yL_house cL_house 6 (some .boolean) 1 := ⟨gws 396 (by decide +kernel) (by decide +kernel), gws 397 (by decide +kernel) (by decide +kernel), gws 2 (by decide +kernel) (by decide +kernel), kcL_house, by decide +kernel, by decide +kernel, by decide +kernel⟩
theorem cwL_17 : gCV RL 17 RX4 yX4_light cX4_light 3 (some .int) 2 := ⟨gws 498 (by decide +kernel) (by decide +kernel), gws 499 (by decide +kernel) (by decide +kernel), gws 500 (by decide +kernel) (by decide +kernel), gws 3 (by decide +kernel) (by decide +kernel), kcX4_light, rfl, by decide +kernel, by decide +kernel, by decide +kernel⟩
theorem cwL_21 : gCV RL 21 RX4 yX4_fresh cX4_fresh 2 (some .int) 1 := ⟨gws 510 (by decide +kernel) (by decide +kernel), gws 511 (by decide +kernel) (by decide +kernel), gws 512 (by decide +kernel) (by decide +kernel), gws 3 (by decide +kernel) (by decide +kernel), kcX4_fresh, rfl, by decide +kernel, by decide +kernel, by decide +kernel⟩
theorem cwL_24 : gCV RL 24 RX4 yX4_keep cX4_keep 3 (some .int) 2 := ⟨gws 549 (by decide +kernel) (by decide +kernel), gws 550 (by decide +kernel) (by decide +kernel), gws 551 (by decide +kernel) (by decide +kernel), gws 3 (by decide +kernel) (by decide +kernel), kcX4_keep, rfl, by decide +kernel, by decide +kernel, by decide +kernel⟩
theorem cwL_27 : gCV RL 27 RX4 yX4_undo cX4_undo 1 (some .int) 0 := ⟨gws 578 (by decide +kernel) (by decide +kernel), gws 579 (by decide +kernel) (by decide +kernel), gws 580 (by decide +kernel) (by decide +kernel), gws 3 (by decide +kernel) (by decide +kernel), kcX4_undo, rfl, by decide +kernel, by decide +kernel, by decide +kernel⟩
theorem cwL_31 : gCV RL 31 RX4 yX4_count cX4_count 2 (some .int) 1 := ⟨gws 356 (by decide +kernel) (by decide +kernel), gws 357 (by decide +kernel) (by decide +kernel), gws 358 (by decide +kernel) (by decide +kernel), gws 3 (by decide +kernel) (by decide +kernel), kcX4_count, rfl, by decide +kernel, by decide +kernel, by decide +kernel⟩
theorem cwL_34 : gCV RL 34 RX4 yX4_lit cX4_lit 1 (some .double) 0 := ⟨gws 399 (by decide +kernel) (by decide +kernel), gws 400 (by decide +kernel) (by decide +kernel), gws 401 (by decide +kernel) (by decide +kernel), gws 3 (by decide +kernel) (by decide +kernel), kcX4_lit, rfl, by decide +kernel, by decide +kernel, by decide +kernel⟩
theorem cwL_38 : gCV RL 38 RX4 yX4_carried cX4_carried 2 (some .int) 1 := ⟨gws 408 (by decide +kernel) (by decide +kernel), gws 409 (by decide +kernel) (by decide +kernel), gws 410 (by decide +kernel) (by decide +kernel), gws 3 (by decide +kernel) (by decide +kernel), kcX4_carried, rfl, by decide +kernel, by decide +kernel, by decide +kernel⟩
theorem cwL_41 : gCV RL 41 RX4 yX4_room cX4_room 3 (some .int) 2 := ⟨gws 293 (by decide +kernel) (by decide +kernel), gws 294 (by decide +kernel) (by decide +kernel), gws 295 (by decide +kernel) (by decide +kernel), gws 3 (by decide +kernel) (by decide +kernel), kcX4_room, rfl, by decide +kernel, by decide +kernel, by decide +kernel⟩
theorem cwL_44 : gCV RL 44 RX4 yX4_saves cX4_saves 2 (some .int) 1 := ⟨gws 426 (by decide +kernel) (by decide +kernel), gws 427 (by decide +kernel) (by decide +kernel), gws 428 (by decide +kernel) (by decide +kernel), gws 3 (by decide +kernel) (by decide +kernel), kcX4_saves, rfl, by decide +kernel, by decide +kernel, by decide +kernel⟩
theorem cwL_47 : gCV RL 47 RX4 yX4_lasts cX4_lasts 2 (some .int) 1 := ⟨gws 372 (by decide +kernel) (by decide +kernel), gws 373 (by decide +kernel) (by decide +kernel), gws 374 (by decide +kernel) (by decide +kernel), gws 3 (by decide +kernel) (by decide +kernel), kcX4_lasts, rfl, by decide +kernel, by decide +kernel, by decide +kernel⟩
theorem cwL_50 : gCV RL 50 RX4 yX4_thing cX4_thing 3 (some .int) 2 := ⟨gws 332 (by decide +kernel) (by decide +kernel), gws 333 (by decide +kernel) (by decide +kernel), gws 334 (by decide +kernel) (by decide +kernel), gws 3 (by decide +kernel) (by decide +kernel), kcX4_thing, rfl, by decide +kernel, by decide +kernel, by decide +kernel⟩
theorem cwL_53 : gCV RL 53 RX4 yX4_nextForgotten cX4_nextForgotten 1 (some .int) 0 := ⟨gws 435 (by decide +kernel) (by decide +kernel), gws 436 (by decide +kernel) (by decide +kernel), gws 437 (by decide +kernel) (by decide +kernel), gws 3 (by decide +kernel) (by decide +kernel), kcX4_nextForgotten, rfl, by decide +kernel, by decide +kernel, by decide +kernel⟩
theorem cwL_56 : gCV RL 56 RX4 yX4_needy cX4_needy 1 (some .int) 0 := ⟨gws 448 (by decide +kernel) (by decide +kernel), gws 449 (by decide +kernel) (by decide +kernel), gws 450 (by decide +kernel) (by decide +kernel), gws 3 (by decide +kernel) (by decide +kernel), kcX4_needy, rfl, by decide +kernel, by decide +kernel, by decide +kernel⟩
theorem cwL_59 : gCS RL 59 yL_cell cL_cell 2 (some .int) 2 := ⟨gws 392 (by decide +kernel) (by decide +kernel), gws 393 (by decide +kernel) (by decide +kernel), gws 2 (by decide +kernel) (by decide +kernel), kcL_cell, by decide +kernel, by decide +kernel, by decide +kernel⟩
theorem cwL_65 : gCS RL 65 yL_low cL_low 2 (some .int) 2 := ⟨gws 388 (by decide +kernel) (by decide +kernel), gws 389 (by decide +kernel) (by decide +kernel), gws 2 (by decide +kernel) (by decide +kernel), kcL_low, by decide +kernel, by decide +kernel, by decide +kernel⟩
theorem cwL_76 : gCV RL 76 RX4 yX4_door cX4_door 5 (some .int) 2 := ⟨gws 527 (by decide +kernel) (by decide +kernel), gws 528 (by decide +kernel) (by decide +kernel), gws 529 (by decide +kernel) (by decide +kernel), gws 3 (by decide +kernel) (by decide +kernel), kcX4_door, rfl, by decide +kernel, by decide +kernel, by decide +kernel⟩
theorem cwL_80 : gCV RL 80 RX4 yX4_shield cX4_shield 5 (some .int) 2 := ⟨gws 533 (by decide +kernel) (by decide +kernel), gws 534 (by decide +kernel) (by decide +kernel), gws 535 (by decide +kernel) (by decide +kernel), gws 3 (by decide +kernel) (by decide +kernel), kcX4_shield, rfl, by decide +kernel, by decide +kernel, by decide +kernel⟩
theorem cwL_83 : gCV RL 83 RX4 yX4_draught cX4_draught 3 (some .int) 2 := ⟨gws 537 (by decide +kernel) (by decide +kernel), gws 538 (by decide +kernel) (by decide +kernel), gws 539 (by decide +kernel) (by decide +kernel), gws 3 (by decide +kernel) (by decide +kernel), kcX4_draught, rfl, by decide +kernel, by decide +kernel, by decide +kernel⟩
theorem cwL_88 : gCV RL 88 RX4 yX4_read cX4_read 2 (some .int) 1 := ⟨gws 566 (by decide +kernel) (by decide +kernel), gws 567 (by decide +kernel) (by decide +kernel), gws 568 (by decide +kernel) (by decide +kernel), gws 3 (by decide +kernel) (by decide +kernel), kcX4_read, rfl, by decide +kernel, by decide +kernel, by decide +kernel⟩
theorem cwL_9 : gCV RL 9 RX4 yX4_strike cX4_strike 2 (some .int) 1 := ⟨gws 467 (by decide +kernel) (by decide +kernel), gws 468 (by decide +kernel) (by decide +kernel), gws 469 (by decide +kernel) (by decide +kernel), gws 3 (by decide +kernel) (by decide +kernel), kcX4_strike, rfl, by decide +kernel, by decide +kernel, by decide +kernel⟩
theorem cwL_94 : gCV RL 94 RX4 yX4_set cX4_set 3 (some .int) 1 := ⟨gws 587 (by decide +kernel) (by decide +kernel), gws 588 (by decide +kernel) (by decide +kernel), gws 589 (by decide +kernel) (by decide +kernel), gws 3 (by decide +kernel) (by decide +kernel), kcX4_set, rfl, by decide +kernel, by decide +kernel, by decide +kernel⟩
theorem cwL_97 : gCV RL 97 RX4 yX4_pass cX4_pass 2 (some .int) 1 := ⟨gws 154 (by decide +kernel) (by decide +kernel), gws 155 (by decide +kernel) (by decide +kernel), gws 156 (by decide +kernel) (by decide +kernel), gws 3 (by decide +kernel) (by decide +kernel), kcX4_pass, rfl, by decide +kernel, by decide +kernel, by decide +kernel⟩
end
section
/-! numbers: an int as the integer that it stands for -/
def gI (z : Int) : Int32 := Int32.ofInt z
theorem gI_add (a b : Int) : gI a + gI b = gI (a + b) := (Int32.ofInt_add a b).symm
theorem gI_sub (a b : Int) : gI a - gI b = gI (a - b) := (Int32.ofInt_sub a b).symm
theorem gI_mul (a b : Int) : gI a * gI b = gI (a * b) := (Int32.ofInt_mul a b).symm
/-- the range of an int -/
def gR (z : Int) : Prop := -2147483648 ≤ z ∧ z < 2147483648
theorem gI_toInt {z : Int} (h : -2147483648 ≤ z ∧ z < 2147483648) : (gI z).toInt = z := Int32.toInt_ofInt_of_le (by omega) (by omega)
theorem gI_of (x : Int32) : gI x.toInt = x := Int32.ofInt_toInt x
theorem gI_rng (x : Int32) : -2147483648 ≤ x.toInt ∧ x.toInt < 2147483648 := ⟨by have := Int32.le_toInt x; omega, by have := Int32.toInt_lt x; omega⟩
theorem gI_ex (x : Int32) : ∃ z : Int, (-2147483648 ≤ z ∧ z < 2147483648) ∧ x = gI z := ⟨x.toInt, gI_rng x, (gI_of x).symm⟩
theorem gI_lt {a b : Int} (ha : -2147483648 ≤ a ∧ a < 2147483648) (hb : -2147483648 ≤ b ∧ b < 2147483648) : gI a < gI b ↔ a < b := by
  rw [Int32.lt_iff_toInt_lt, gI_toInt ha, gI_toInt hb]
theorem gI_le {a b : Int} (ha : -2147483648 ≤ a ∧ a < 2147483648) (hb : -2147483648 ≤ b ∧ b < 2147483648) : gI a ≤ gI b ↔ a ≤ b := by
  rw [Int32.le_iff_toInt_le, gI_toInt ha, gI_toInt hb]
theorem gI_eq {a b : Int} (ha : -2147483648 ≤ a ∧ a < 2147483648) (hb : -2147483648 ≤ b ∧ b < 2147483648) : gI a = gI b ↔ a = b := by
  rw [← Int32.toInt_inj, gI_toInt ha, gI_toInt hb]
/-- two ints that lie near each other: the same int, the same number -/
theorem gI_eqd {a b : Int} (h : a - b < 4294967296 ∧ b - a < 4294967296) : gI a = gI b ↔ a = b := by
  refine ⟨fun e => ?_, fun e => by rw [e]⟩
  have h1 : gI (a - b) = gI 0 := by rw [← gI_sub, e, gI_sub]; simp
  have h2 : (gI (a - b)).toInt = (gI 0).toInt := by rw [h1]
  have h3 : (a - b).bmod (2 ^ 32) = 0 := by
    have : (gI (a - b)).toInt = (a - b).bmod (2 ^ 32) := Int32.toInt_ofInt
    rw [← this, h2]; rfl
  have h4 : (a - b) % (4294967296 : Int) = 0 := by
    have := Int.dvd_of_bmod_eq_zero h3
    exact Int.emod_eq_zero_of_dvd this
  omega
theorem gI_0 : gI 0 = 0 := by decide +kernel
theorem gI_clamp {z : Int} (h : 0 ≤ z ∧ z < 2147483648) : (gI z).toNatClampNeg = z.toNat := by
  show (gI z).toInt.toNat = z.toNat
  rw [gI_toInt (by omega)]
theorem gI_in {z : Int} {n : Nat} (h : 0 ≤ z ∧ z < n) (hn : n < 2147483648) : vp_in (gI z) n := by
  rw [vp_in_iff, gI_toInt (by omega)]
  exact h
theorem gI_div {a b : Int} (ha : 0 ≤ a ∧ a < 2147483648) (hb : 0 < b ∧ b < 2147483648) : gI a / gI b = gI (a / b) := by
  apply Int32.toInt_inj.mp
  have hq : 0 ≤ a / b ∧ a / b < 2147483648 := ⟨Int.ediv_nonneg ha.1 (by omega), by
    have := Int.ediv_le_self b ha.1
    omega⟩
  rw [lg_idiv_nonneg (by rw [gI_toInt (by omega)]; exact ha.1) (by rw [gI_toInt (by omega)]; exact hb.1), gI_toInt (by omega), gI_toInt (by omega), gI_toInt (by omega)]
theorem gI_rem {a b : Int} (ha : 0 ≤ a ∧ a < 2147483648) (hb : 0 < b ∧ b < 2147483648) : gI a - gI a / gI b * gI b = gI (a % b) := by
  rw [gI_div ha hb, gI_mul, gI_sub, Int.emod_def, Int.mul_comm]
theorem gI_b (P : Prop) [Decidable P] : (if P then (gI 1) else gI 0) = gI (if P then 1 else 0) := by split <;> rfl
/-- a truth as a number -/
def gB (P : Prop) [Decidable P] : Int := if P then 1 else 0
theorem gB_t {P : Prop} [Decidable P] (h : P) : gB P = 1 := if_pos h
theorem gB_f {P : Prop} [Decidable P] (h : ¬ P) : gB P = 0 := if_neg h
theorem gB_rng (P : Prop) [Decidable P] : 0 ≤ gB P ∧ gB P ≤ 1 := by unfold gB; split <;> omega
theorem gB_0 (P : Prop) [Decidable P] : gB P = 0 ↔ ¬ P := by unfold gB; split <;> simp_all
theorem gB_1 (P : Prop) [Decidable P] : gB P = 1 ↔ P := by unfold gB; split <;> simp_all
theorem gB_cong {P Q : Prop} [Decidable P] [Decidable Q] (h : P ↔ Q) : gB P = gB Q := by unfold gB; simp only [h]
/-- a function changed at one place -/
def up {α : Type} (f : Int → α) (k : Int) (v : α) : Int → α := fun j => if j = k then v else f j
theorem up_s {α : Type} (f : Int → α) (k : Int) (v : α) : up f k v k = v := if_pos rfl
theorem up_n {α : Type} {f : Int → α} {k j : Int} {v : α} (h : j ≠ k) : up f k v j = f j := if_neg h
theorem up_up {α : Type} (f : Int → α) (k : Int) (v w : α) : up (up f k v) k w = up f k w := by
  funext j; unfold up; split <;> rfl
theorem up_id {α : Type} {f : Int → α} {k : Int} {v : α} (h : f k = v) : up f k v = f := by
  funext j; unfold up; split
  · subst_vars; rfl
  · rfl
theorem up_sw {α : Type} (f : Int → α) {i k : Int} (h : i ≠ k) (v w : α) : up (up f i v) k w = up (up f k w) i v := by
  funext j; unfold up
  by_cases h1 : j = k
  · subst h1; simp [Ne.symm h]
  · simp [h1]
end
section
/-! what a walk knows, the world as a function of places, the judgement V -/
abbrev gT : Type := Program × Launch × Env × Room × State × MethodId × Array Value × List Frame × Method × Code × va_G × (Nat → ClassId) × (Nat → Prop)
def gpr (X : gT) : Program := X.1
def gln (X : gT) : Launch := X.2.1
def gev (X : gT) : Env := X.2.2.1
def gRm (X : gT) : Room := X.2.2.2.1
def gst (X : gT) : State := X.2.2.2.2.1
def gmi (X : gT) : MethodId := X.2.2.2.2.2.1
def gar (X : gT) : Array Value := X.2.2.2.2.2.2.1
def gbl (X : gT) : List Frame := X.2.2.2.2.2.2.2.1
def gme (X : gT) : Method := X.2.2.2.2.2.2.2.2.1
def gco (X : gT) : Code := X.2.2.2.2.2.2.2.2.2.1
def gDD (X : gT) : va_G := X.2.2.2.2.2.2.2.2.2.2.1
def gty (X : gT) : Nat → ClassId := X.2.2.2.2.2.2.2.2.2.2.2.1
def gAA (X : gT) : Nat → Prop := X.2.2.2.2.2.2.2.2.2.2.2.2
def gtys (ty : Nat → ClassId) : List (ClassId × FieldType) := [(ty 0, .int), (ty 1, .char), (ty 2, .int), (ty 3, .object RX1), (ty 4, .object RX3)]
/-- locals: by their places; none: not known -/
def lpos : Nat → List (Option Value) → List (Nat × Value)
  | _, [] => []
  | i, none :: l => lpos (i + 1) l
  | i, some v :: l => (i, v) :: lpos (i + 1) l
theorem lpos_mem : ∀ {l : List (Option Value)} {b i : Nat} {v : Value}, (i, v) ∈ lpos b l ↔ b ≤ i ∧ l[i - b]? = some (some v)
  | [], b, i, v => by simp [lpos]
  | none :: l, b, i, v => by
    simp only [lpos]
    rw [lpos_mem (l := l)]
    constructor
    · rintro ⟨h1, h2⟩
      refine ⟨by omega, ?_⟩
      rw [show i - b = (i - (b + 1)) + 1 by omega]
      simpa using h2
    · rintro ⟨h1, h2⟩
      rcases Nat.eq_or_lt_of_le h1 with h | h
      · subst h; simp at h2
      · refine ⟨h, ?_⟩
        rw [show i - b = (i - (b + 1)) + 1 by omega] at h2
        simpa using h2
  | some w :: l, b, i, v => by
    simp only [lpos, List.mem_cons, Prod.mk.injEq]
    rw [lpos_mem (l := l)]
    constructor
    · rintro (⟨h1, h2⟩ | ⟨h1, h2⟩)
      · subst h1; subst h2; simp
      · refine ⟨by omega, ?_⟩
        rw [show i - b = (i - (b + 1)) + 1 by omega]
        simpa using h2
    · rintro ⟨h1, h2⟩
      rcases Nat.eq_or_lt_of_le h1 with h | h
      · subst h; simp at h2; exact Or.inl ⟨rfl, h2.symm⟩
      · right
        refine ⟨h, ?_⟩
        rw [show i - b = (i - (b + 1)) + 1 by omega] at h2
        simpa using h2
theorem lv_mono {ls : Array Slot} {n : Nat} {l l' : List (Nat × Value)} (h : lv_has ls n l) (hs : ∀ q ∈ l', q ∈ l) : lv_has ls n l' := ⟨h.1, h.2.1, fun q hq => h.2.2 q (hs q hq)⟩
theorem lpos_at {ls : Array Slot} {n : Nat} {L : List (Option Value)} {i : Nat} {v : Value} (h : lv_has ls n (lpos 0 L)) (hi : L[i]? = some (some v)) : ls[i]? = some (.val v) :=
  h.2.2 (i, v) (lpos_mem.mpr ⟨Nat.zero_le _, by simpa using hi⟩)
/-- the place before holds nothing of two slots -/
def lok (L : List (Option Value)) : Nat → Bool
  | 0 => true
  | i + 1 => match L[i]? with
    | some (some v) => v.category == 1
    | _ => true
theorem lpos_set1 {ls : Array Slot} {n : Nat} {L : List (Option Value)} {i : Nat} {v : Value} (hk : lok L i = true) (h : lv_has ls n ((i, v) :: (lpos 0 L).filter (fun q => !(q.1 == i) && !(q.1 + 1 == i && q.2.category == 2)))) : lv_has ls n (lpos 0 (L.set i (some v))) := by
  refine lv_mono h fun q hq => ?_
  obtain ⟨j, w⟩ := q
  obtain ⟨-, h2⟩ := lpos_mem.mp hq
  simp only [Nat.sub_zero] at h2
  by_cases hj : i = j
  · subst hj
    rw [List.getElem?_set] at h2
    simp only [if_true] at h2
    split at h2
    · cases h2; exact List.mem_cons_self
    · cases h2
  · rw [List.getElem?_set, if_neg hj] at h2
    refine List.mem_cons_of_mem _ (List.mem_filter.mpr ⟨lpos_mem.mpr ⟨Nat.zero_le _, by simpa using h2⟩, ?_⟩)
    have h3 : ¬ (j + 1 = i ∧ w.category = 2) := by
      rintro ⟨e, c⟩
      subst e
      simp [lok, h2, c] at hk
    by_cases e : j + 1 = i
    · have : ¬ w.category = 2 := fun c => h3 ⟨e, c⟩
      simp [Ne.symm hj, this]
    · simp [Ne.symm hj, e]
theorem lpos_set2 {ls : Array Slot} {n : Nat} {L : List (Option Value)} {i : Nat} {v : Value} (hk : lok L i = true) (h : lv_has ls n ((i, v) :: (lpos 0 L).filter (fun q => !(q.1 == i) && (!(q.1 == i + 1) && !(q.1 + 1 == i && q.2.category == 2))))) : lv_has ls n (lpos 0 ((L.set i (some v)).set (i + 1) none)) := by
  refine lv_mono h fun q hq => ?_
  obtain ⟨j, w⟩ := q
  obtain ⟨-, h2⟩ := lpos_mem.mp hq
  simp only [Nat.sub_zero] at h2
  by_cases hj1 : i + 1 = j
  · subst hj1
    rw [List.getElem?_set] at h2
    simp only [if_true] at h2
    split at h2 <;> simp at h2
  · rw [List.getElem?_set, if_neg hj1] at h2
    by_cases hj : i = j
    · subst hj
      rw [List.getElem?_set] at h2
      simp only [if_true] at h2
      split at h2
      · cases h2; exact List.mem_cons_self
      · cases h2
    · rw [List.getElem?_set, if_neg hj] at h2
      refine List.mem_cons_of_mem _ (List.mem_filter.mpr ⟨lpos_mem.mpr ⟨Nat.zero_le _, by simpa using h2⟩, ?_⟩)
      have h3 : ¬ (j + 1 = i ∧ w.category = 2) := by
        rintro ⟨e, c⟩
        subst e
        simp [lok, h2, c] at hk
      by_cases e : j + 1 = i
      · have : ¬ w.category = 2 := fun c => h3 ⟨e, c⟩
        simp [Ne.symm hj, Ne.symm hj1, this]
      · simp [Ne.symm hj, Ne.symm hj1, e]
/-- the locals of a call -/
def gent : List Value → List (Option Value)
  | [] => []
  | v :: vs => if v.category = 2 then some v :: none :: gent vs else some v :: gent vs
theorem gent_args : ∀ (vs : List Value) (b : Nat) (n : Nat), lpos b (gent vs ++ List.replicate n none) = lv_args b vs
  | [], b, n => by
    have : ∀ (n b : Nat), lpos b (List.replicate n none) = [] := by
      intro n
      induction n with
      | zero => intro b; rfl
      | succ n ih => intro b; rw [List.replicate_succ]; exact ih (b + 1)
    simp [gent, lv_args, this]
  | v :: vs, b, n => by
    unfold gent lv_args
    by_cases h : v.category = 2
    · simp only [h, if_true, List.cons_append, lpos]
      rw [gent_args vs (b + 2) n]
    · simp only [h, if_false, List.cons_append, lpos]
      rw [gent_args vs (b + 1) n]
/-! the world: places 0 .. N - 1, ad: their addresses, σ: what they hold -/
def gl (ad : Int → Nat) (N : Int) (σ : Int → va_E) : va_W := (List.range N.toNat).map (fun (k : Nat) => (ad (k : Int), σ (k : Int)))
theorem gl_at {ad : Int → Nat} {N : Int} {σ : Int → va_E} {k : Int} (h : 0 ≤ k ∧ k < N) : (gl ad N σ)[k.toNat]? = some (ad k, σ k) := by
  have h1 : k.toNat < N.toNat := by omega
  have h2 : ((k.toNat : Nat) : Int) = k := Int.toNat_of_nonneg h.1
  simp [gl, List.getElem?_range h1, h2]
theorem gl_of {ad : Int → Nat} {N : Int} {σ : Int → va_E} {i : Nat} {q : Nat × va_E} (h : (gl ad N σ)[i]? = some q) : (0 ≤ (i : Int) ∧ (i : Int) < N) ∧ q = (ad i, σ i) := by
  unfold gl at h
  rw [List.getElem?_map] at h
  by_cases h1 : i < N.toNat
  · rw [List.getElem?_range h1] at h
    simp at h
    exact ⟨by omega, h.symm⟩
  · rw [List.getElem?_eq_none (by simpa using h1)] at h
    simp at h
theorem gl_set {ad : Int → Nat} {N : Int} {σ : Int → va_E} {k : Int} (h : 0 ≤ k ∧ k < N) (e : va_E) : (gl ad N σ).set k.toNat (ad k, e) = gl ad N (up σ k e) := by
  apply List.ext_getElem?
  intro i
  have hlen : (gl ad N σ).length = N.toNat := by simp [gl]
  rw [List.getElem?_set]
  by_cases hi : k.toNat = i
  · subst hi
    rw [if_pos rfl, if_pos (by rw [hlen]; omega), gl_at h, up_s]
  · rw [if_neg hi]
    by_cases h1 : i < N.toNat
    · have e1 := gl_at (ad := ad) (N := N) (σ := σ) (k := i) (by omega)
      have e2 := gl_at (ad := ad) (N := N) (σ := up σ k e) (k := i) (by omega)
      rw [Int.toNat_natCast] at e1 e2
      rw [e1, e2, up_n (by omega)]
    · rw [List.getElem?_eq_none (by rw [hlen]; omega), List.getElem?_eq_none (by simp [gl]; omega)]
theorem gl_push {ad : Int → Nat} {N : Int} {σ : Int → va_E} (h : 0 ≤ N) (q : Nat) (e : va_E) : gl ad N σ ++ [(q, e)] = gl (up ad N q) (N + 1) (up σ N e) := by
  unfold gl
  rw [show (N + 1).toNat = N.toNat + 1 by omega, List.range_succ, List.map_append]
  congr 1
  · apply List.map_congr_left
    intro k hk
    have : k < N.toNat := List.mem_range.mp hk
    rw [up_n (by omega), up_n (by omega)]
  · simp [Int.toNat_of_nonneg h, up_s]
def gA (ad : Int → Nat) (N : Int) (sz : Nat) : Nat → Prop := fun q => (∃ k : Int, (0 ≤ k ∧ k < N) ∧ ad k = q) ∨ sz ≤ q
def gN1 : Cond := .methodLinkNest RX1 47 yX4_asNumber RX4
def gN2 : Cond := .methodLinkNest RX3 60 yX4_asNumber RX4
/-- the links of nest mates -/
def gNs (U : State) : Prop := va_Nw gN1 U ∧ va_Nw gN2 U
theorem gNs.warm {s U : State} (hW : s.WarmedH U.vm) (h : gNs s) : gNs U := ⟨va_Nw.warmM hW h.1, va_Nw.warmM hW h.2⟩
theorem gNs.same {u U : State} (e : u.vm = U.vm) (h : gNs u) : gNs U := ⟨va_Nw.same rfl e h.1, va_Nw.same rfl e h.2⟩
/-- the world, as a state has it -/
def gw (D : va_G) (ty : Nat → ClassId) (ad : Int → Nat) (N : Int) (σ : Int → va_E) (U : State) : Prop :=
  va_P D vwCl (gl ad N σ) U.heap ∧ va_K D vwCl (gtys ty) U ∧ va_D (fun _ => True) (gl ad N σ) ∧ va_AO RX1 U ∧ va_AO RX3 U ∧ gNs U
/-- the world, as a walk has it -/
def gWd (X : gT) (ad : Int → Nat) (N : Int) (σ : Int → va_E) (H : Heap) (locs : List Loc) : Prop :=
  va_P (gDD X) vwCl (gl ad N σ) H ∧ va_D (gAA X) (gl ad N σ) ∧ va_S (gAA X) (gst X).heap H locs
/-- what is known throughout a walk -/
def gOk (X : gT) (cc : ByteArray) (nL : Nat) (own : String) (R : Room) (ret : Option FieldType) : Prop :=
  (gpr X).tables.exec = Jvm.exec ∧ (gco X).code = cc ∧ (gco X).maxLocals = nL ∧ (gst X).vm.findClass own = some (gmi X).cls ∧ (∀ w ∈ WS, w.before (gar X) (gst X) = true) ∧ (gme X).locks = false ∧ (gme X).sig.returnType = ret ∧ gRm X = R ∧ va_K (gDD X) vwCl (gtys (gty X)) (gst X) ∧ (∀ q, (gst X).heap.size ≤ q → gAA X q) ∧ va_AO RX1 (gst X) ∧ va_AO RX3 (gst X) ∧ gNs (gst X)
abbrev gW (X : gT) (H : Heap) (locs : List Loc) (k n : Nat) (Q : State → Prop) (g : JFrame) : Prop := W (gpr X) (gln X) (gev X) (gRm X) (gst X) (gmi X) (gar X) (gbl X) (gme X) (gco X) H locs k n Q g
/-- the judgement: from pc, with locals L, stack st, in the world (ad, N, σ), k cells and n slots made so far, the machine comes to Q -/
def V (X : gT) (k n : Nat) (Q : State → Prop) (pc : Nat) (L : List (Option Value)) (st : List Value) (ad : Int → Nat) (N : Int) (σ : Int → va_E) : Prop :=
  ∀ (ls : Array Slot) (H : Heap) (locs : List Loc), lv_has ls L.length (lpos 0 L) → gWd X ad N σ H locs → gW X H locs k n Q (F0 (gmi X) pc ls st)
def gPost : Type := Option Value → (Int → Nat) → Int → (Int → va_E) → Prop
def gQc (D : va_G) (ty : Nat → ClassId) (A : Nat → Prop) (post : gPost) : Array Value → State → Outcome → State → Prop := fun _ st oc t =>
  (∃ (rv : Option Value) (ad' : Int → Nat) (N' : Int) (σ' : Int → va_E), oc = .returned rv ∧ post rv ad' N' σ' ∧ gw D ty ad' N' σ' t ∧ ∀ k : Int, 0 ≤ k ∧ k < N' → A (ad' k)) ∧ va_F A st t
/-- a method's contract -/
def gMet (l : Launch) (y : MethodName) (cc : ByteArray) (nL : Nat) (ret : Option FieldType) (R : Room) (av : List Value) (D : va_G) (ty : Nat → ClassId) (ad : Int → Nat) (N : Int) (σ : Int → va_E) (post : gPost) : Prop :=
  ∀ sz : Nat, Met l y (.code y cc nL ret :: WS) R (va_Pc av (fun U => U.heap.size = sz ∧ gw D ty ad N σ U)) (gQc D ty (gA ad N sz) post) R.cells R.slots (gA ad N sz)
/-- a contract's end -/
def gQ (X : gT) (post : gPost) (mc ms : Nat) : State → Prop := MQ (gbl X) (gQc (gDD X) (gty X) (gAA X) post) (gar X) (gst X) mc ms (gAA X)
/-- one answer, one world behind it, nothing made -/
def gD (rv : Option Value) (ad : Int → Nat) (N : Int) (σ : Int → va_E) : gPost := fun rv' ad' N' σ' => rv' = rv ∧ ad' = ad ∧ N' = N ∧ σ' = σ
/-- the contract of a method that makes nothing: f frames, lo words of locals -/
abbrev gM0 (l : Launch) (y : MethodName) (cc : ByteArray) (nL : Nat) (ret : Option FieldType) (f lo : Nat) (av : List Value) (D : va_G) (ty : Nat → ClassId) (ad : Int → Nat) (N : Int) (σ : Int → va_E) (rv : Option Value) (σ' : Int → va_E) : Prop :=
  gMet l y cc nL ret { frames := f, cells := 0, slots := 0, locals := lo } av D ty ad N σ (gD rv ad N σ')
theorem gA_free {X : gT} {ad : Int → Nat} {N : Int} {σ : Int → va_E} {H : Heap} {locs : List Loc} (hA : ∀ q, (gst X).heap.size ≤ q → gAA X q) (hw : gWd X ad N σ H locs) : ∀ q, gA ad N H.size q → gAA X q := by
  intro q h
  rcases h with ⟨k, hk, e⟩ | h
  · rw [← e]
    exact hw.2.1.2 k.toNat (ad k, σ k) (gl_at hk)
  · exact hA q (Nat.le_trans hw.2.2.1 h)
theorem Met_ofF {y : MethodName} {ws ws' : List Cond} {l : Launch} {rm : Room} {Pc : Array Value → State → Prop} {Qc : Array Value → State → Outcome → State → Prop} {mc ms : Nat} {free : Addr → Prop} {cc : ByteArray} {maxL : Nat} {ret : Option FieldType}
    (hy : plainFor y = true) (hw : ws = Cond.code y cc maxL ret :: ws')
    (body : ∀ p e s m args below meth c s₁, BodyLoose p l y (headSpec ws rm) cc maxL ret e s m args below meth c s₁ → c.maxLocals = maxL → Pc args s →
      W p l e (headSpec ws rm).room s m args below meth c s.heap [] 0 0 (MQ below Qc args s mc ms free) (entryFrame m args maxL)) : Met l y ws rm Pc Qc mc ms free := by
  refine MetFree.of_bodySF (code := cc) (maxLocals := maxL) (ret := ret) hy ?_ ?_
  · intro args s m h hn
    obtain ⟨meth, c, h1, h2, h3, h4, h5, h6, -, -⟩ := Cond.code_spec hn (atoms_spec (ws := ws) h _ (by rw [hw]; exact List.mem_cons_self))
    exact ⟨meth, c, h1, h2, h3, h4, h5, h6⟩
  · intro p e s m args below meth c s₁ B hml hP _
    have hh0 : s₁.heap = s.heap := by rw [B.state]; rfl
    obtain ⟨t, a1, o, b1, b2, b3⟩ := body p e s m args below meth c s₁ B hml hP s₁ hh0 (Stand.of_body B)
    exact ⟨t, o, a1, b1, b2, ⟨b3.1, b3.2⟩⟩
theorem gMet_of {l : Launch} {y : MethodName} {cc : ByteArray} {nL : Nat} {ret : Option FieldType} {R : Room} {av : List Value} {D : va_G} {ty : Nat → ClassId} {ad : Int → Nat} {N : Int} {σ : Int → va_E} {post : gPost} (L : List (Option Value))
    (hy : plainFor y = true) (hL : gent av ++ List.replicate (nL - (gent av).length) none = L) (hn : (lg_sl av).length ≤ nL) (hn2 : L.length = nL)
    (body : ∀ X : gT, gln X = l → gDD X = D → gty X = ty → gOk X cc nL y.cls R ret → (gme X).name = y.name → V X 0 0 (gQ X post R.cells R.slots) 0 L [] ad N σ) : gMet l y cc nL ret R av D ty ad N σ post := by
  intro sz
  refine Met_ofF (cc := cc) (maxL := nL) (ret := ret) hy rfl ?_
  intro p e s m args below meth c s₁ B hml hv
  obtain ⟨rfl, hsz, hP, hK, hD0, hO1, hO3, hNs⟩ := hv
  have hts := atoms_spec (ws := .code y cc nL ret :: WS) B.pre
  subst hsz
  have hb := body (p, l, e, R, s, m, av.toArray, below, meth, c, D, ty, gA ad N s.heap.size) rfl rfl rfl
    ⟨B.exec, B.bytes, hml, findClass_of_methodNamed B.named, fun w hw => hts w (List.mem_cons_of_mem _ hw), B.notSynchronized, B.returns, rfl, hK, fun q h => Or.inr h, hO1, hO3, hNs⟩
    (name_of_methodNamed B.named B.method).1
  have hl := lv_entry av (n := nL) hn
  rw [lg_entry_eq]
  generalize (lg_sl av ++ List.replicate (nL - (lg_sl av).length) Slot.unset).toArray = ls at hl ⊢
  refine hb ls s.heap [] ?_ ⟨hP, ⟨hD0.1, fun k q hq => ?_⟩, va_S.rf⟩
  · rw [← hL, gent_args, hL, hn2]; exact hl
  · obtain ⟨h1, h2⟩ := gl_of hq
    exact Or.inl ⟨k, h1, by rw [h2]⟩
theorem V_sub {X : gT} {k n : Nat} {Q : State → Prop} {pc : Nat} {L L' : List (Option Value)} {st : List Value} {ad : Int → Nat} {N : Int} {σ : Int → va_E} (hlen : L'.length = L.length) (h : ∀ (i : Nat) (v : Value), L'[i]? = some (some v) → L[i]? = some (some v)) (kk : V X k n Q pc L' st ad N σ) : V X k n Q pc L st ad N σ := by
  intro ls H locs hl hw
  refine kk ls H locs ?_ hw
  rw [hlen]
  refine lv_mono hl fun q hq => ?_
  obtain ⟨i, v⟩ := q
  obtain ⟨h1, h2⟩ := lpos_mem.mp hq
  exact lpos_mem.mpr ⟨h1, by simpa using h i v (by simpa using h2)⟩
end
section
/-! rows over V: one an instruction (written by mk12.py) -/
theorem r_iload_n {X : gT} {cc : ByteArray} {nL : Nat} {own : String} {R : Room} {ret : Option FieldType} {kc kn : Nat} {Q : State → Prop} {pc : Nat} {L : List (Option Value)} {st : List Value} {ad : Int → Nat} {N : Int} {σ : Int → va_E} (C : gOk X cc nL own R ret) {j : Fin 4} {i : Nat} {x : Int32} (hd : decode cc pc = .ok (.iload_n j, 1)) (hi : (j : Nat) = i) (hx : L[i]? = some (some (.int x))) (k : V X kc kn Q (pc + 1) L (.int x :: st) ad N σ) : V X kc kn Q (pc) L (st) ad N σ := fun ls H locs hl hw => lv_iload_n C.1 C.2.1 hd hi (lpos_at hl hx) (k ls H locs hl hw)
theorem r_iload {X : gT} {cc : ByteArray} {nL : Nat} {own : String} {R : Room} {ret : Option FieldType} {kc kn : Nat} {Q : State → Prop} {pc : Nat} {L : List (Option Value)} {st : List Value} {ad : Int → Nat} {N : Int} {σ : Int → va_E} (C : gOk X cc nL own R ret) {i : Nat} {x : Int32} (hd : decode cc pc = .ok (.iload i, 2)) (hx : L[i]? = some (some (.int x))) (k : V X kc kn Q (pc + 2) L (.int x :: st) ad N σ) : V X kc kn Q (pc) L (st) ad N σ := fun ls H locs hl hw => lv_iload C.1 C.2.1 hd (lpos_at hl hx) (k ls H locs hl hw)
theorem r_aload_n {X : gT} {cc : ByteArray} {nL : Nat} {own : String} {R : Room} {ret : Option FieldType} {kc kn : Nat} {Q : State → Prop} {pc : Nat} {L : List (Option Value)} {st : List Value} {ad : Int → Nat} {N : Int} {σ : Int → va_E} (C : gOk X cc nL own R ret) {j : Fin 4} {i : Nat} {x : Nat} (hd : decode cc pc = .ok (.aload_n j, 1)) (hi : (j : Nat) = i) (hx : L[i]? = some (some (.ref x))) (k : V X kc kn Q (pc + 1) L (.ref x :: st) ad N σ) : V X kc kn Q (pc) L (st) ad N σ := fun ls H locs hl hw => lv_aload_n C.1 C.2.1 hd hi (lpos_at hl hx) (k ls H locs hl hw)
theorem r_aload {X : gT} {cc : ByteArray} {nL : Nat} {own : String} {R : Room} {ret : Option FieldType} {kc kn : Nat} {Q : State → Prop} {pc : Nat} {L : List (Option Value)} {st : List Value} {ad : Int → Nat} {N : Int} {σ : Int → va_E} (C : gOk X cc nL own R ret) {i : Nat} {x : Nat} (hd : decode cc pc = .ok (.aload i, 2)) (hx : L[i]? = some (some (.ref x))) (k : V X kc kn Q (pc + 2) L (.ref x :: st) ad N σ) : V X kc kn Q (pc) L (st) ad N σ := fun ls H locs hl hw => lv_aload C.1 C.2.1 hd (lpos_at hl hx) (k ls H locs hl hw)
theorem r_lload_n {X : gT} {cc : ByteArray} {nL : Nat} {own : String} {R : Room} {ret : Option FieldType} {kc kn : Nat} {Q : State → Prop} {pc : Nat} {L : List (Option Value)} {st : List Value} {ad : Int → Nat} {N : Int} {σ : Int → va_E} (C : gOk X cc nL own R ret) {j : Fin 4} {i : Nat} {x : Int64} (hd : decode cc pc = .ok (.lload_n j, 1)) (hi : (j : Nat) = i) (hx : L[i]? = some (some (.long x))) (k : V X kc kn Q (pc + 1) L (.long x :: st) ad N σ) : V X kc kn Q (pc) L (st) ad N σ := fun ls H locs hl hw => lv_lload_n C.1 C.2.1 hd hi (lpos_at hl hx) (k ls H locs hl hw)
theorem r_lload {X : gT} {cc : ByteArray} {nL : Nat} {own : String} {R : Room} {ret : Option FieldType} {kc kn : Nat} {Q : State → Prop} {pc : Nat} {L : List (Option Value)} {st : List Value} {ad : Int → Nat} {N : Int} {σ : Int → va_E} (C : gOk X cc nL own R ret) {i : Nat} {x : Int64} (hd : decode cc pc = .ok (.lload i, 2)) (hx : L[i]? = some (some (.long x))) (k : V X kc kn Q (pc + 2) L (.long x :: st) ad N σ) : V X kc kn Q (pc) L (st) ad N σ := fun ls H locs hl hw => lv_lload C.1 C.2.1 hd (lpos_at hl hx) (k ls H locs hl hw)
theorem r_dload_n {X : gT} {cc : ByteArray} {nL : Nat} {own : String} {R : Room} {ret : Option FieldType} {kc kn : Nat} {Q : State → Prop} {pc : Nat} {L : List (Option Value)} {st : List Value} {ad : Int → Nat} {N : Int} {σ : Int → va_E} (C : gOk X cc nL own R ret) {j : Fin 4} {i : Nat} {x : UInt64} (hd : decode cc pc = .ok (.dload_n j, 1)) (hi : (j : Nat) = i) (hx : L[i]? = some (some (.double x))) (k : V X kc kn Q (pc + 1) L (.double x :: st) ad N σ) : V X kc kn Q (pc) L (st) ad N σ := fun ls H locs hl hw => lv_dload_n C.1 C.2.1 hd hi (lpos_at hl hx) (k ls H locs hl hw)
theorem r_dload {X : gT} {cc : ByteArray} {nL : Nat} {own : String} {R : Room} {ret : Option FieldType} {kc kn : Nat} {Q : State → Prop} {pc : Nat} {L : List (Option Value)} {st : List Value} {ad : Int → Nat} {N : Int} {σ : Int → va_E} (C : gOk X cc nL own R ret) {i : Nat} {x : UInt64} (hd : decode cc pc = .ok (.dload i, 2)) (hx : L[i]? = some (some (.double x))) (k : V X kc kn Q (pc + 2) L (.double x :: st) ad N σ) : V X kc kn Q (pc) L (st) ad N σ := fun ls H locs hl hw => lv_dload C.1 C.2.1 hd (lpos_at hl hx) (k ls H locs hl hw)
theorem r_istore_n {X : gT} {cc : ByteArray} {nL : Nat} {own : String} {R : Room} {ret : Option FieldType} {kc kn : Nat} {Q : State → Prop} {pc : Nat} {L : List (Option Value)} {st : List Value} {ad : Int → Nat} {N : Int} {σ : Int → va_E} (C : gOk X cc nL own R ret) {j : Fin 4} {i : Nat} {x : Int32} (hd : decode cc pc = .ok (.istore_n j, 1)) (hi : (j : Nat) = i) (hn : i < L.length) (hk : lok L i = true) (k : V X kc kn Q (pc + 1) (L.set i (some (.int x))) (st) ad N σ) : V X kc kn Q (pc) L (.int x :: st) ad N σ := fun ls H locs hl hw =>
  lv_istore_n C.1 C.2.1 hd hi hl hn rfl (fun ls' hl' => k ls' H locs (by rw [List.length_set]; exact lpos_set1 hk hl') hw)
theorem r_istore {X : gT} {cc : ByteArray} {nL : Nat} {own : String} {R : Room} {ret : Option FieldType} {kc kn : Nat} {Q : State → Prop} {pc : Nat} {L : List (Option Value)} {st : List Value} {ad : Int → Nat} {N : Int} {σ : Int → va_E} (C : gOk X cc nL own R ret) {i : Nat} {x : Int32} (hd : decode cc pc = .ok (.istore i, 2))  (hn : i < L.length) (hk : lok L i = true) (k : V X kc kn Q (pc + 2) (L.set i (some (.int x))) (st) ad N σ) : V X kc kn Q (pc) L (.int x :: st) ad N σ := fun ls H locs hl hw =>
  lv_istore C.1 C.2.1 hd hl hn rfl (fun ls' hl' => k ls' H locs (by rw [List.length_set]; exact lpos_set1 hk hl') hw)
theorem r_astore_n {X : gT} {cc : ByteArray} {nL : Nat} {own : String} {R : Room} {ret : Option FieldType} {kc kn : Nat} {Q : State → Prop} {pc : Nat} {L : List (Option Value)} {st : List Value} {ad : Int → Nat} {N : Int} {σ : Int → va_E} (C : gOk X cc nL own R ret) {j : Fin 4} {i : Nat} {x : Nat} (hd : decode cc pc = .ok (.astore_n j, 1)) (hi : (j : Nat) = i) (hn : i < L.length) (hk : lok L i = true) (k : V X kc kn Q (pc + 1) (L.set i (some (.ref x))) (st) ad N σ) : V X kc kn Q (pc) L (.ref x :: st) ad N σ := fun ls H locs hl hw =>
  lv_astore_n C.1 C.2.1 hd hi hl hn rfl (fun ls' hl' => k ls' H locs (by rw [List.length_set]; exact lpos_set1 hk hl') hw)
theorem r_astore {X : gT} {cc : ByteArray} {nL : Nat} {own : String} {R : Room} {ret : Option FieldType} {kc kn : Nat} {Q : State → Prop} {pc : Nat} {L : List (Option Value)} {st : List Value} {ad : Int → Nat} {N : Int} {σ : Int → va_E} (C : gOk X cc nL own R ret) {i : Nat} {x : Nat} (hd : decode cc pc = .ok (.astore i, 2))  (hn : i < L.length) (hk : lok L i = true) (k : V X kc kn Q (pc + 2) (L.set i (some (.ref x))) (st) ad N σ) : V X kc kn Q (pc) L (.ref x :: st) ad N σ := fun ls H locs hl hw =>
  lv_astore C.1 C.2.1 hd hl hn rfl (fun ls' hl' => k ls' H locs (by rw [List.length_set]; exact lpos_set1 hk hl') hw)
theorem r_lstore_n {X : gT} {cc : ByteArray} {nL : Nat} {own : String} {R : Room} {ret : Option FieldType} {kc kn : Nat} {Q : State → Prop} {pc : Nat} {L : List (Option Value)} {st : List Value} {ad : Int → Nat} {N : Int} {σ : Int → va_E} (C : gOk X cc nL own R ret) {j : Fin 4} {i : Nat} {x : Int64} (hd : decode cc pc = .ok (.lstore_n j, 1)) (hi : (j : Nat) = i) (hn : i + 1 < L.length) (hk : lok L i = true) (k : V X kc kn Q (pc + 1) ((L.set i (some (.long x))).set (i + 1) none) (st) ad N σ) : V X kc kn Q (pc) L (.long x :: st) ad N σ := fun ls H locs hl hw =>
  lv_lstore_n C.1 C.2.1 hd hi hl hn rfl (fun ls' hl' => k ls' H locs (by rw [List.length_set, List.length_set]; exact lpos_set2 hk hl') hw)
theorem r_lstore {X : gT} {cc : ByteArray} {nL : Nat} {own : String} {R : Room} {ret : Option FieldType} {kc kn : Nat} {Q : State → Prop} {pc : Nat} {L : List (Option Value)} {st : List Value} {ad : Int → Nat} {N : Int} {σ : Int → va_E} (C : gOk X cc nL own R ret) {i : Nat} {x : Int64} (hd : decode cc pc = .ok (.lstore i, 2))  (hn : i + 1 < L.length) (hk : lok L i = true) (k : V X kc kn Q (pc + 2) ((L.set i (some (.long x))).set (i + 1) none) (st) ad N σ) : V X kc kn Q (pc) L (.long x :: st) ad N σ := fun ls H locs hl hw =>
  lv_lstore C.1 C.2.1 hd hl hn rfl (fun ls' hl' => k ls' H locs (by rw [List.length_set, List.length_set]; exact lpos_set2 hk hl') hw)
theorem r_dstore_n {X : gT} {cc : ByteArray} {nL : Nat} {own : String} {R : Room} {ret : Option FieldType} {kc kn : Nat} {Q : State → Prop} {pc : Nat} {L : List (Option Value)} {st : List Value} {ad : Int → Nat} {N : Int} {σ : Int → va_E} (C : gOk X cc nL own R ret) {j : Fin 4} {i : Nat} {x : UInt64} (hd : decode cc pc = .ok (.dstore_n j, 1)) (hi : (j : Nat) = i) (hn : i + 1 < L.length) (hk : lok L i = true) (k : V X kc kn Q (pc + 1) ((L.set i (some (.double x))).set (i + 1) none) (st) ad N σ) : V X kc kn Q (pc) L (.double x :: st) ad N σ := fun ls H locs hl hw =>
  lv_dstore_n C.1 C.2.1 hd hi hl hn rfl (fun ls' hl' => k ls' H locs (by rw [List.length_set, List.length_set]; exact lpos_set2 hk hl') hw)
theorem r_dstore {X : gT} {cc : ByteArray} {nL : Nat} {own : String} {R : Room} {ret : Option FieldType} {kc kn : Nat} {Q : State → Prop} {pc : Nat} {L : List (Option Value)} {st : List Value} {ad : Int → Nat} {N : Int} {σ : Int → va_E} (C : gOk X cc nL own R ret) {i : Nat} {x : UInt64} (hd : decode cc pc = .ok (.dstore i, 2))  (hn : i + 1 < L.length) (hk : lok L i = true) (k : V X kc kn Q (pc + 2) ((L.set i (some (.double x))).set (i + 1) none) (st) ad N σ) : V X kc kn Q (pc) L (.double x :: st) ad N σ := fun ls H locs hl hw =>
  lv_dstore C.1 C.2.1 hd hl hn rfl (fun ls' hl' => k ls' H locs (by rw [List.length_set, List.length_set]; exact lpos_set2 hk hl') hw)
theorem lpos_idx {L : List (Option Value)} {i : Nat} {v : Value} (h : L[i]? = some (some v)) : ∃ j : Nat, (lpos 0 L)[j]? = some (i, v) := List.getElem?_of_mem (lpos_mem.mpr ⟨Nat.zero_le _, by simpa using h⟩)
theorem r_iinc {X : gT} {cc : ByteArray} {nL : Nat} {own : String} {R : Room} {ret : Option FieldType} {kc kn : Nat} {Q : State → Prop} {pc : Nat} {L : List (Option Value)} {st : List Value} {ad : Int → Nat} {N : Int} {σ : Int → va_E} (C : gOk X cc nL own R ret) {i : Nat} {n z : Int} (hd : decode cc pc = .ok (.iinc i n, 3)) (hx : L[i]? = some (some (.int (gI z)))) (hk : lok L i = true) (k : V X kc kn Q (pc + 3) (L.set i (some (.int (gI (z + n))))) (st) ad N σ) : V X kc kn Q (pc) L (st) ad N σ := fun ls H locs hl hw => by
  obtain ⟨j, hj⟩ := lpos_idx hx
  exact lv_iinc C.1 C.2.1 hd hl hj (gI_add z n) (List.getElem?_eq_some_iff.mp hx).1 rfl (fun ls' hl' => k ls' H locs (by rw [List.length_set]; exact lpos_set1 hk hl') hw)
theorem r_iconst {X : gT} {cc : ByteArray} {nL : Nat} {own : String} {R : Room} {ret : Option FieldType} {kc kn : Nat} {Q : State → Prop} {pc : Nat} {L : List (Option Value)} {st : List Value} {ad : Int → Nat} {N : Int} {σ : Int → va_E} (C : gOk X cc nL own R ret) {n : Int} (hd : decode cc pc = .ok (.iconst n, 1)) (k : V X kc kn Q (pc + 1) L (.int (gI n) :: st) ad N σ) : V X kc kn Q (pc) L (st) ad N σ := fun ls H locs hl hw => lv_iconst C.1 C.2.1 hd rfl (k ls H locs hl hw)
theorem r_bipush {X : gT} {cc : ByteArray} {nL : Nat} {own : String} {R : Room} {ret : Option FieldType} {kc kn : Nat} {Q : State → Prop} {pc : Nat} {L : List (Option Value)} {st : List Value} {ad : Int → Nat} {N : Int} {σ : Int → va_E} (C : gOk X cc nL own R ret) {n : Int} (hd : decode cc pc = .ok (.bipush n, 2)) (hv : (Int8.ofInt n).toInt32 = gI n) (k : V X kc kn Q (pc + 2) L (.int (gI n) :: st) ad N σ) : V X kc kn Q (pc) L (st) ad N σ := fun ls H locs hl hw => lv_bipush C.1 C.2.1 hd hv (k ls H locs hl hw)
theorem r_sipush {X : gT} {cc : ByteArray} {nL : Nat} {own : String} {R : Room} {ret : Option FieldType} {kc kn : Nat} {Q : State → Prop} {pc : Nat} {L : List (Option Value)} {st : List Value} {ad : Int → Nat} {N : Int} {σ : Int → va_E} (C : gOk X cc nL own R ret) {n : Int} (hd : decode cc pc = .ok (.sipush n, 3)) (hv : (Int16.ofInt n).toInt32 = gI n) (k : V X kc kn Q (pc + 3) L (.int (gI n) :: st) ad N σ) : V X kc kn Q (pc) L (st) ad N σ := fun ls H locs hl hw => lv_sipush C.1 C.2.1 hd hv (k ls H locs hl hw)
theorem r_lconst {X : gT} {cc : ByteArray} {nL : Nat} {own : String} {R : Room} {ret : Option FieldType} {kc kn : Nat} {Q : State → Prop} {pc : Nat} {L : List (Option Value)} {st : List Value} {ad : Int → Nat} {N : Int} {σ : Int → va_E} (C : gOk X cc nL own R ret) {n : Fin 2} {v : Int64} (hd : decode cc pc = .ok (.lconst n, 1)) (hv : Int64.ofNat (n : Nat) = v) (k : V X kc kn Q (pc + 1) L (.long v :: st) ad N σ) : V X kc kn Q (pc) L (st) ad N σ := fun ls H locs hl hw => lv_lconst C.1 C.2.1 hd hv (k ls H locs hl hw)
theorem r_ldc2 {X : gT} {cc : ByteArray} {nL : Nat} {own : String} {R : Room} {ret : Option FieldType} {kc kn : Nat} {Q : State → Prop} {pc : Nat} {L : List (Option Value)} {st : List Value} {ad : Int → Nat} {N : Int} {σ : Int → va_E} (C : gOk X cc nL own R ret) {idx : Nat} {v : Int64} (hd : decode cc pc = .ok (.ldc2_w idx, 3)) (hw0 : Cond.constantLong own idx v ∈ WS) (k : V X kc kn Q (pc + 3) L (.long v :: st) ad N σ) : V X kc kn Q (pc) L (st) ad N σ := fun ls H locs hl hw => lv_ldc2 C.1 C.2.1 C.2.2.2.1 (C.2.2.2.2.1 _ hw0) hd (k ls H locs hl hw)
theorem r_ldc2d {X : gT} {cc : ByteArray} {nL : Nat} {own : String} {R : Room} {ret : Option FieldType} {kc kn : Nat} {Q : State → Prop} {pc : Nat} {L : List (Option Value)} {st : List Value} {ad : Int → Nat} {N : Int} {σ : Int → va_E} (C : gOk X cc nL own R ret) {idx : Nat} {v : UInt64} (hd : decode cc pc = .ok (.ldc2_w idx, 3)) (hw0 : Cond.constantDouble own idx v ∈ WS) (k : V X kc kn Q (pc + 3) L (.double v :: st) ad N σ) : V X kc kn Q (pc) L (st) ad N σ := fun ls H locs hl hw => lv_ldc2d C.1 C.2.1 C.2.2.2.1 (C.2.2.2.2.1 _ hw0) hd (k ls H locs hl hw)
theorem r_iadd {X : gT} {cc : ByteArray} {nL : Nat} {own : String} {R : Room} {ret : Option FieldType} {kc kn : Nat} {Q : State → Prop} {pc : Nat} {L : List (Option Value)} {st : List Value} {ad : Int → Nat} {N : Int} {σ : Int → va_E} (C : gOk X cc nL own R ret) {a b : Int} (hd : decode cc pc = .ok (.iadd, 1)) (k : V X kc kn Q (pc + 1) L (.int (gI (a + b)) :: st) ad N σ) : V X kc kn Q (pc) L (.int (gI b) :: .int (gI a) :: st) ad N σ := fun ls H locs hl hw => lv_iadd C.1 C.2.1 hd (by rw [gI_add]; exact k ls H locs hl hw)
theorem r_isub {X : gT} {cc : ByteArray} {nL : Nat} {own : String} {R : Room} {ret : Option FieldType} {kc kn : Nat} {Q : State → Prop} {pc : Nat} {L : List (Option Value)} {st : List Value} {ad : Int → Nat} {N : Int} {σ : Int → va_E} (C : gOk X cc nL own R ret) {a b : Int} (hd : decode cc pc = .ok (.isub, 1)) (k : V X kc kn Q (pc + 1) L (.int (gI (a - b)) :: st) ad N σ) : V X kc kn Q (pc) L (.int (gI b) :: .int (gI a) :: st) ad N σ := fun ls H locs hl hw => lv_isub C.1 C.2.1 hd (by rw [gI_sub]; exact k ls H locs hl hw)
theorem r_imul {X : gT} {cc : ByteArray} {nL : Nat} {own : String} {R : Room} {ret : Option FieldType} {kc kn : Nat} {Q : State → Prop} {pc : Nat} {L : List (Option Value)} {st : List Value} {ad : Int → Nat} {N : Int} {σ : Int → va_E} (C : gOk X cc nL own R ret) {a b : Int} (hd : decode cc pc = .ok (.imul, 1)) (k : V X kc kn Q (pc + 1) L (.int (gI (a * b)) :: st) ad N σ) : V X kc kn Q (pc) L (.int (gI b) :: .int (gI a) :: st) ad N σ := fun ls H locs hl hw => lv_imul C.1 C.2.1 hd (by rw [gI_mul]; exact k ls H locs hl hw)
theorem r_idiv {X : gT} {cc : ByteArray} {nL : Nat} {own : String} {R : Room} {ret : Option FieldType} {kc kn : Nat} {Q : State → Prop} {pc : Nat} {L : List (Option Value)} {st : List Value} {ad : Int → Nat} {N : Int} {σ : Int → va_E} (C : gOk X cc nL own R ret) {a b : Int} (hd : decode cc pc = .ok (.idiv, 1)) (ha : 0 ≤ a ∧ a < 2147483648) (hb : 0 < b ∧ b < 2147483648) (k : V X kc kn Q (pc + 1) L (.int (gI (a / b)) :: st) ad N σ) : V X kc kn Q (pc) L (.int (gI b) :: .int (gI a) :: st) ad N σ := fun ls H locs hl hw => lv_idiv C.1 C.2.1 hd (fun h => by rw [← gI_0, gI_eq (by omega) (by omega)] at h; omega) (by rw [gI_div ha hb]; exact k ls H locs hl hw)
theorem r_irem {X : gT} {cc : ByteArray} {nL : Nat} {own : String} {R : Room} {ret : Option FieldType} {kc kn : Nat} {Q : State → Prop} {pc : Nat} {L : List (Option Value)} {st : List Value} {ad : Int → Nat} {N : Int} {σ : Int → va_E} (C : gOk X cc nL own R ret) {a b : Int} (hd : decode cc pc = .ok (.irem, 1)) (ha : 0 ≤ a ∧ a < 2147483648) (hb : 0 < b ∧ b < 2147483648) (k : V X kc kn Q (pc + 1) L (.int (gI (a % b)) :: st) ad N σ) : V X kc kn Q (pc) L (.int (gI b) :: .int (gI a) :: st) ad N σ := fun ls H locs hl hw => lv_irem C.1 C.2.1 hd (fun h => by rw [← gI_0, gI_eq (by omega) (by omega)] at h; omega) (by rw [gI_rem ha hb]; exact k ls H locs hl hw)
theorem r_iand {X : gT} {cc : ByteArray} {nL : Nat} {own : String} {R : Room} {ret : Option FieldType} {kc kn : Nat} {Q : State → Prop} {pc : Nat} {L : List (Option Value)} {st : List Value} {ad : Int → Nat} {N : Int} {σ : Int → va_E} (C : gOk X cc nL own R ret) {a b : Int32} (hd : decode cc pc = .ok (.iand, 1)) (k : V X kc kn Q (pc + 1) L (.int (a &&& b) :: st) ad N σ) : V X kc kn Q (pc) L (.int b :: .int a :: st) ad N σ := fun ls H locs hl hw => lv_iand C.1 C.2.1 hd (k ls H locs hl hw)
theorem r_top {X : gT} {cc : ByteArray} {nL : Nat} {own : String} {R : Room} {ret : Option FieldType} {kc kn : Nat} {Q : State → Prop} {pc : Nat} {L : List (Option Value)} {st : List Value} {ad : Int → Nat} {N : Int} {σ : Int → va_E} {x y : Value} (h : x = y) (k : V X kc kn Q (pc) L (y :: st) ad N σ) : V X kc kn Q (pc) L (x :: st) ad N σ := h ▸ k
theorem r_ladd {X : gT} {cc : ByteArray} {nL : Nat} {own : String} {R : Room} {ret : Option FieldType} {kc kn : Nat} {Q : State → Prop} {pc : Nat} {L : List (Option Value)} {st : List Value} {ad : Int → Nat} {N : Int} {σ : Int → va_E} (C : gOk X cc nL own R ret) {a b : Int64} (hd : decode cc pc = .ok (.ladd, 1)) (k : V X kc kn Q (pc + 1) L (.long (a + b) :: st) ad N σ) : V X kc kn Q (pc) L (.long b :: .long a :: st) ad N σ := fun ls H locs hl hw => lv_ladd C.1 C.2.1 hd (k ls H locs hl hw)
theorem r_lmul {X : gT} {cc : ByteArray} {nL : Nat} {own : String} {R : Room} {ret : Option FieldType} {kc kn : Nat} {Q : State → Prop} {pc : Nat} {L : List (Option Value)} {st : List Value} {ad : Int → Nat} {N : Int} {σ : Int → va_E} (C : gOk X cc nL own R ret) {a b : Int64} (hd : decode cc pc = .ok (.lmul, 1)) (k : V X kc kn Q (pc + 1) L (.long (a * b) :: st) ad N σ) : V X kc kn Q (pc) L (.long b :: .long a :: st) ad N σ := fun ls H locs hl hw => lv_lmul C.1 C.2.1 hd (k ls H locs hl hw)
theorem r_lsub {X : gT} {cc : ByteArray} {nL : Nat} {own : String} {R : Room} {ret : Option FieldType} {kc kn : Nat} {Q : State → Prop} {pc : Nat} {L : List (Option Value)} {st : List Value} {ad : Int → Nat} {N : Int} {σ : Int → va_E} (C : gOk X cc nL own R ret) {a b : Int64} (hd : decode cc pc = .ok (.lsub, 1)) (k : V X kc kn Q (pc + 1) L (.long (a - b) :: st) ad N σ) : V X kc kn Q (pc) L (.long b :: .long a :: st) ad N σ := fun ls H locs hl hw => lv_lsub C.1 C.2.1 hd (k ls H locs hl hw)
theorem r_lor {X : gT} {cc : ByteArray} {nL : Nat} {own : String} {R : Room} {ret : Option FieldType} {kc kn : Nat} {Q : State → Prop} {pc : Nat} {L : List (Option Value)} {st : List Value} {ad : Int → Nat} {N : Int} {σ : Int → va_E} (C : gOk X cc nL own R ret) {a b : Int64} (hd : decode cc pc = .ok (.lor, 1)) (k : V X kc kn Q (pc + 1) L (.long (a ||| b) :: st) ad N σ) : V X kc kn Q (pc) L (.long b :: .long a :: st) ad N σ := fun ls H locs hl hw => lv_lor C.1 C.2.1 hd (k ls H locs hl hw)
theorem r_lshl {X : gT} {cc : ByteArray} {nL : Nat} {own : String} {R : Room} {ret : Option FieldType} {kc kn : Nat} {Q : State → Prop} {pc : Nat} {L : List (Option Value)} {st : List Value} {ad : Int → Nat} {N : Int} {σ : Int → va_E} (C : gOk X cc nL own R ret) {a : Int64} {b : Int32} (hd : decode cc pc = .ok (.lshl, 1)) (k : V X kc kn Q (pc + 1) L (.long (a <<< (b.toInt64 &&& 63)) :: st) ad N σ) : V X kc kn Q (pc) L (.int b :: .long a :: st) ad N σ := fun ls H locs hl hw => lv_lshl C.1 C.2.1 hd rfl (k ls H locs hl hw)
theorem r_i2l {X : gT} {cc : ByteArray} {nL : Nat} {own : String} {R : Room} {ret : Option FieldType} {kc kn : Nat} {Q : State → Prop} {pc : Nat} {L : List (Option Value)} {st : List Value} {ad : Int → Nat} {N : Int} {σ : Int → va_E} (C : gOk X cc nL own R ret) {a : Int32} (hd : decode cc pc = .ok (.i2l, 1)) (k : V X kc kn Q (pc + 1) L (.long a.toInt64 :: st) ad N σ) : V X kc kn Q (pc) L (.int a :: st) ad N σ := fun ls H locs hl hw => lv_i2l C.1 C.2.1 hd rfl (k ls H locs hl hw)
theorem r_i2d {X : gT} {cc : ByteArray} {nL : Nat} {own : String} {R : Room} {ret : Option FieldType} {kc kn : Nat} {Q : State → Prop} {pc : Nat} {L : List (Option Value)} {st : List Value} {ad : Int → Nat} {N : Int} {σ : Int → va_E} (C : gOk X cc nL own R ret) {a : Int32} (hd : decode cc pc = .ok (.i2d, 1)) (k : V X kc kn Q (pc + 1) L (.double (FP.i2d a) :: st) ad N σ) : V X kc kn Q (pc) L (.int a :: st) ad N σ := fun ls H locs hl hw => lv_i2d C.1 C.2.1 hd (k ls H locs hl hw)
theorem r_i2c {X : gT} {cc : ByteArray} {nL : Nat} {own : String} {R : Room} {ret : Option FieldType} {kc kn : Nat} {Q : State → Prop} {pc : Nat} {L : List (Option Value)} {st : List Value} {ad : Int → Nat} {N : Int} {σ : Int → va_E} (C : gOk X cc nL own R ret) {a : Int32} {v : Int32} (hd : decode cc pc = .ok (.i2c, 1)) (hv : (a.toUInt32 % 65536).toInt32 = v) (k : V X kc kn Q (pc + 1) L (.int v :: st) ad N σ) : V X kc kn Q (pc) L (.int a :: st) ad N σ := fun ls H locs hl hw => lv_i2c C.1 C.2.1 hd hv (k ls H locs hl hw)
theorem r_d2l {X : gT} {cc : ByteArray} {nL : Nat} {own : String} {R : Room} {ret : Option FieldType} {kc kn : Nat} {Q : State → Prop} {pc : Nat} {L : List (Option Value)} {st : List Value} {ad : Int → Nat} {N : Int} {σ : Int → va_E} (C : gOk X cc nL own R ret) {a : UInt64} (hd : decode cc pc = .ok (.d2l, 1)) (k : V X kc kn Q (pc + 1) L (.long (FP.d2l a) :: st) ad N σ) : V X kc kn Q (pc) L (.double a :: st) ad N σ := fun ls H locs hl hw => lv_d2l C.1 C.2.1 hd (k ls H locs hl hw)
theorem r_l2d {X : gT} {cc : ByteArray} {nL : Nat} {own : String} {R : Room} {ret : Option FieldType} {kc kn : Nat} {Q : State → Prop} {pc : Nat} {L : List (Option Value)} {st : List Value} {ad : Int → Nat} {N : Int} {σ : Int → va_E} (C : gOk X cc nL own R ret) {a : Int64} (hd : decode cc pc = .ok (.l2d, 1)) (k : V X kc kn Q (pc + 1) L (.double (FP.l2d a) :: st) ad N σ) : V X kc kn Q (pc) L (.long a :: st) ad N σ := fun ls H locs hl hw => lv_l2d C.1 C.2.1 hd (k ls H locs hl hw)
theorem r_ddiv {X : gT} {cc : ByteArray} {nL : Nat} {own : String} {R : Room} {ret : Option FieldType} {kc kn : Nat} {Q : State → Prop} {pc : Nat} {L : List (Option Value)} {st : List Value} {ad : Int → Nat} {N : Int} {σ : Int → va_E} (C : gOk X cc nL own R ret) {a b : UInt64} (hd : decode cc pc = .ok (.ddiv, 1)) (hne : vf_n64 (FP.ddiv a b)) (k : V X kc kn Q (pc + 1) L (.double (FP.ddiv a b) :: st) ad N σ) : V X kc kn Q (pc) L (.double b :: .double a :: st) ad N σ := fun ls H locs hl hw => lv_ddiv C.1 C.2.1 hd hne (k ls H locs hl hw)
theorem r_dmul {X : gT} {cc : ByteArray} {nL : Nat} {own : String} {R : Room} {ret : Option FieldType} {kc kn : Nat} {Q : State → Prop} {pc : Nat} {L : List (Option Value)} {st : List Value} {ad : Int → Nat} {N : Int} {σ : Int → va_E} (C : gOk X cc nL own R ret) {a b : UInt64} (hd : decode cc pc = .ok (.dmul, 1)) (hne : vf_n64 (FP.dmul a b)) (k : V X kc kn Q (pc + 1) L (.double (FP.dmul a b) :: st) ad N σ) : V X kc kn Q (pc) L (.double b :: .double a :: st) ad N σ := fun ls H locs hl hw => lv_dmul C.1 C.2.1 hd hne (k ls H locs hl hw)
theorem r_dsub {X : gT} {cc : ByteArray} {nL : Nat} {own : String} {R : Room} {ret : Option FieldType} {kc kn : Nat} {Q : State → Prop} {pc : Nat} {L : List (Option Value)} {st : List Value} {ad : Int → Nat} {N : Int} {σ : Int → va_E} (C : gOk X cc nL own R ret) {a b : UInt64} (hd : decode cc pc = .ok (.dsub, 1)) (hne : vf_n64 (FP.dsub a b)) (k : V X kc kn Q (pc + 1) L (.double (FP.dsub a b) :: st) ad N σ) : V X kc kn Q (pc) L (.double b :: .double a :: st) ad N σ := fun ls H locs hl hw => lv_dsub C.1 C.2.1 hd hne (k ls H locs hl hw)
theorem r_dcmp {X : gT} {cc : ByteArray} {nL : Nat} {own : String} {R : Room} {ret : Option FieldType} {kc kn : Nat} {Q : State → Prop} {pc : Nat} {L : List (Option Value)} {st : List Value} {ad : Int → Nat} {N : Int} {σ : Int → va_E} (C : gOk X cc nL own R ret) {a b : UInt64} {op : CmpOp} (hd : decode cc pc = .ok (.dcmp op, 1)) (k : V X kc kn Q (pc + 1) L (.int (Op.cmpValue (FP.dcmp a b) op) :: st) ad N σ) : V X kc kn Q (pc) L (.double b :: .double a :: st) ad N σ := fun ls H locs hl hw => lv_dcmp C.1 C.2.1 hd (k ls H locs hl hw)
theorem r_dup {X : gT} {cc : ByteArray} {nL : Nat} {own : String} {R : Room} {ret : Option FieldType} {kc kn : Nat} {Q : State → Prop} {pc : Nat} {L : List (Option Value)} {st : List Value} {ad : Int → Nat} {N : Int} {σ : Int → va_E} (C : gOk X cc nL own R ret) {v : Value} (hd : decode cc pc = .ok (.dup, 1)) (hv : v.category = 1) (k : V X kc kn Q (pc + 1) L (v :: v :: st) ad N σ) : V X kc kn Q (pc) L (v :: st) ad N σ := fun ls H locs hl hw => lv_dup C.1 C.2.1 hd hv (k ls H locs hl hw)
theorem r_dup2 {X : gT} {cc : ByteArray} {nL : Nat} {own : String} {R : Room} {ret : Option FieldType} {kc kn : Nat} {Q : State → Prop} {pc : Nat} {L : List (Option Value)} {st : List Value} {ad : Int → Nat} {N : Int} {σ : Int → va_E} (C : gOk X cc nL own R ret) {va vb : Value} (hd : decode cc pc = .ok (.dup2, 1)) (hva : va.category = 1) (hvb : vb.category = 1) (k : V X kc kn Q (pc + 1) L (va :: vb :: va :: vb :: st) ad N σ) : V X kc kn Q (pc) L (va :: vb :: st) ad N σ := fun ls H locs hl hw => lv_dup2_11 C.1 C.2.1 hd hva hvb (k ls H locs hl hw)
theorem r_pop {X : gT} {cc : ByteArray} {nL : Nat} {own : String} {R : Room} {ret : Option FieldType} {kc kn : Nat} {Q : State → Prop} {pc : Nat} {L : List (Option Value)} {st : List Value} {ad : Int → Nat} {N : Int} {σ : Int → va_E} (C : gOk X cc nL own R ret) {v : Value} (hd : decode cc pc = .ok (.pop, 1)) (hv : v.category = 1) (k : V X kc kn Q (pc + 1) L (st) ad N σ) : V X kc kn Q (pc) L (v :: st) ad N σ := fun ls H locs hl hw => lv_pop C.1 C.2.1 hd hv (k ls H locs hl hw)
theorem r_icmp_eq {X : gT} {cc : ByteArray} {nL : Nat} {own : String} {R : Room} {ret : Option FieldType} {kc kn : Nat} {Q : State → Prop} {pc : Nat} {L : List (Option Value)} {st : List Value} {ad : Int → Nat} {N : Int} {σ : Int → va_E} (C : gOk X cc nL own R ret) {a b off : Int} {tgt : Nat} (hd : decode cc pc = .ok (.if_icmp .eq off, 3)) (ht : (pc : Int) + off = (tgt : Int)) (ha : -2147483648 ≤ a ∧ a < 2147483648) (hb : -2147483648 ≤ b ∧ b < 2147483648) (kt : a = b → V X kc kn Q (tgt) L (st) ad N σ) (kf : a ≠ b → V X kc kn Q (pc + 3) L (st) ad N σ) : V X kc kn Q (pc) L (.int (gI b) :: .int (gI a) :: st) ad N σ := fun ls H locs hl hw => lv_icmp_eq C.1 C.2.1 hd ht (fun h => kt ((gI_eq ha hb).mp h) ls H locs hl hw) (fun h => kf (fun e => h ((gI_eq ha hb).mpr e)) ls H locs hl hw)
theorem r_icmp_ne {X : gT} {cc : ByteArray} {nL : Nat} {own : String} {R : Room} {ret : Option FieldType} {kc kn : Nat} {Q : State → Prop} {pc : Nat} {L : List (Option Value)} {st : List Value} {ad : Int → Nat} {N : Int} {σ : Int → va_E} (C : gOk X cc nL own R ret) {a b off : Int} {tgt : Nat} (hd : decode cc pc = .ok (.if_icmp .ne off, 3)) (ht : (pc : Int) + off = (tgt : Int)) (ha : -2147483648 ≤ a ∧ a < 2147483648) (hb : -2147483648 ≤ b ∧ b < 2147483648) (kt : a ≠ b → V X kc kn Q (tgt) L (st) ad N σ) (kf : a = b → V X kc kn Q (pc + 3) L (st) ad N σ) : V X kc kn Q (pc) L (.int (gI b) :: .int (gI a) :: st) ad N σ := fun ls H locs hl hw => lv_icmp_ne C.1 C.2.1 hd ht (fun h => kt (fun e => h ((gI_eq ha hb).mpr e)) ls H locs hl hw) (fun h => kf ((gI_eq ha hb).mp h) ls H locs hl hw)
theorem r_icmp_lt {X : gT} {cc : ByteArray} {nL : Nat} {own : String} {R : Room} {ret : Option FieldType} {kc kn : Nat} {Q : State → Prop} {pc : Nat} {L : List (Option Value)} {st : List Value} {ad : Int → Nat} {N : Int} {σ : Int → va_E} (C : gOk X cc nL own R ret) {a b off : Int} {tgt : Nat} (hd : decode cc pc = .ok (.if_icmp .lt off, 3)) (ht : (pc : Int) + off = (tgt : Int)) (ha : -2147483648 ≤ a ∧ a < 2147483648) (hb : -2147483648 ≤ b ∧ b < 2147483648) (kt : a < b → V X kc kn Q (tgt) L (st) ad N σ) (kf : b ≤ a → V X kc kn Q (pc + 3) L (st) ad N σ) : V X kc kn Q (pc) L (.int (gI b) :: .int (gI a) :: st) ad N σ := fun ls H locs hl hw => lv_icmp_lt C.1 C.2.1 hd ht (fun h => kt ((gI_lt ha hb).mp h) ls H locs hl hw) (fun h => kf (by have := mt (gI_lt ha hb).mpr h; omega) ls H locs hl hw)
theorem r_icmp_ge {X : gT} {cc : ByteArray} {nL : Nat} {own : String} {R : Room} {ret : Option FieldType} {kc kn : Nat} {Q : State → Prop} {pc : Nat} {L : List (Option Value)} {st : List Value} {ad : Int → Nat} {N : Int} {σ : Int → va_E} (C : gOk X cc nL own R ret) {a b off : Int} {tgt : Nat} (hd : decode cc pc = .ok (.if_icmp .ge off, 3)) (ht : (pc : Int) + off = (tgt : Int)) (ha : -2147483648 ≤ a ∧ a < 2147483648) (hb : -2147483648 ≤ b ∧ b < 2147483648) (kt : b ≤ a → V X kc kn Q (tgt) L (st) ad N σ) (kf : a < b → V X kc kn Q (pc + 3) L (st) ad N σ) : V X kc kn Q (pc) L (.int (gI b) :: .int (gI a) :: st) ad N σ := fun ls H locs hl hw => lv_icmp_ge C.1 C.2.1 hd ht (fun h => kt ((gI_le hb ha).mp h) ls H locs hl hw) (fun h => kf (by have := mt (gI_le hb ha).mpr h; omega) ls H locs hl hw)
theorem r_icmp_gt {X : gT} {cc : ByteArray} {nL : Nat} {own : String} {R : Room} {ret : Option FieldType} {kc kn : Nat} {Q : State → Prop} {pc : Nat} {L : List (Option Value)} {st : List Value} {ad : Int → Nat} {N : Int} {σ : Int → va_E} (C : gOk X cc nL own R ret) {a b off : Int} {tgt : Nat} (hd : decode cc pc = .ok (.if_icmp .gt off, 3)) (ht : (pc : Int) + off = (tgt : Int)) (ha : -2147483648 ≤ a ∧ a < 2147483648) (hb : -2147483648 ≤ b ∧ b < 2147483648) (kt : b < a → V X kc kn Q (tgt) L (st) ad N σ) (kf : a ≤ b → V X kc kn Q (pc + 3) L (st) ad N σ) : V X kc kn Q (pc) L (.int (gI b) :: .int (gI a) :: st) ad N σ := fun ls H locs hl hw => lv_icmp_gt C.1 C.2.1 hd ht (fun h => kt ((gI_lt hb ha).mp h) ls H locs hl hw) (fun h => kf (by have := mt (gI_lt hb ha).mpr h; omega) ls H locs hl hw)
theorem r_icmp_le {X : gT} {cc : ByteArray} {nL : Nat} {own : String} {R : Room} {ret : Option FieldType} {kc kn : Nat} {Q : State → Prop} {pc : Nat} {L : List (Option Value)} {st : List Value} {ad : Int → Nat} {N : Int} {σ : Int → va_E} (C : gOk X cc nL own R ret) {a b off : Int} {tgt : Nat} (hd : decode cc pc = .ok (.if_icmp .le off, 3)) (ht : (pc : Int) + off = (tgt : Int)) (ha : -2147483648 ≤ a ∧ a < 2147483648) (hb : -2147483648 ≤ b ∧ b < 2147483648) (kt : a ≤ b → V X kc kn Q (tgt) L (st) ad N σ) (kf : b < a → V X kc kn Q (pc + 3) L (st) ad N σ) : V X kc kn Q (pc) L (.int (gI b) :: .int (gI a) :: st) ad N σ := fun ls H locs hl hw => lv_icmp_le C.1 C.2.1 hd ht (fun h => kt ((gI_le ha hb).mp h) ls H locs hl hw) (fun h => kf (by have := mt (gI_le ha hb).mpr h; omega) ls H locs hl hw)
theorem r_if_eq {X : gT} {cc : ByteArray} {nL : Nat} {own : String} {R : Room} {ret : Option FieldType} {kc kn : Nat} {Q : State → Prop} {pc : Nat} {L : List (Option Value)} {st : List Value} {ad : Int → Nat} {N : Int} {σ : Int → va_E} (C : gOk X cc nL own R ret) {a off : Int} {tgt : Nat} (hd : decode cc pc = .ok (.ifCond .eq off, 3)) (ht : (pc : Int) + off = (tgt : Int)) (ha : -2147483648 ≤ a ∧ a < 2147483648) (kt : a = 0 → V X kc kn Q (tgt) L (st) ad N σ) (kf : a ≠ 0 → V X kc kn Q (pc + 3) L (st) ad N σ) : V X kc kn Q (pc) L (.int (gI a) :: st) ad N σ := fun ls H locs hl hw => lv_if_eq C.1 C.2.1 hd ht (fun h => kt ((gI_eq ha (b := 0) (by omega)).mp (by rw [gI_0]; exact h)) ls H locs hl hw) (fun h => kf (fun e => h (gI_0 ▸ (gI_eq ha (b := 0) (by omega)).mpr e)) ls H locs hl hw)
theorem r_if_ne {X : gT} {cc : ByteArray} {nL : Nat} {own : String} {R : Room} {ret : Option FieldType} {kc kn : Nat} {Q : State → Prop} {pc : Nat} {L : List (Option Value)} {st : List Value} {ad : Int → Nat} {N : Int} {σ : Int → va_E} (C : gOk X cc nL own R ret) {a off : Int} {tgt : Nat} (hd : decode cc pc = .ok (.ifCond .ne off, 3)) (ht : (pc : Int) + off = (tgt : Int)) (ha : -2147483648 ≤ a ∧ a < 2147483648) (kt : a ≠ 0 → V X kc kn Q (tgt) L (st) ad N σ) (kf : a = 0 → V X kc kn Q (pc + 3) L (st) ad N σ) : V X kc kn Q (pc) L (.int (gI a) :: st) ad N σ := fun ls H locs hl hw => lv_if_ne C.1 C.2.1 hd ht (fun h => kt (fun e => h (gI_0 ▸ (gI_eq ha (b := 0) (by omega)).mpr e)) ls H locs hl hw) (fun h => kf ((gI_eq ha (b := 0) (by omega)).mp (by rw [gI_0]; exact h)) ls H locs hl hw)
theorem r_if_lt {X : gT} {cc : ByteArray} {nL : Nat} {own : String} {R : Room} {ret : Option FieldType} {kc kn : Nat} {Q : State → Prop} {pc : Nat} {L : List (Option Value)} {st : List Value} {ad : Int → Nat} {N : Int} {σ : Int → va_E} (C : gOk X cc nL own R ret) {a off : Int} {tgt : Nat} (hd : decode cc pc = .ok (.ifCond .lt off, 3)) (ht : (pc : Int) + off = (tgt : Int)) (ha : -2147483648 ≤ a ∧ a < 2147483648) (kt : a < 0 → V X kc kn Q (tgt) L (st) ad N σ) (kf : 0 ≤ a → V X kc kn Q (pc + 3) L (st) ad N σ) : V X kc kn Q (pc) L (.int (gI a) :: st) ad N σ := fun ls H locs hl hw => lv_if_lt C.1 C.2.1 hd ht (fun h => kt ((gI_lt ha (b := 0) (by omega)).mp (by rw [gI_0]; exact h)) ls H locs hl hw) (fun h => kf (by have := mt (gI_lt ha (b := 0) (by omega)).mpr (by rw [gI_0]; exact h); omega) ls H locs hl hw)
theorem r_if_ge {X : gT} {cc : ByteArray} {nL : Nat} {own : String} {R : Room} {ret : Option FieldType} {kc kn : Nat} {Q : State → Prop} {pc : Nat} {L : List (Option Value)} {st : List Value} {ad : Int → Nat} {N : Int} {σ : Int → va_E} (C : gOk X cc nL own R ret) {a off : Int} {tgt : Nat} (hd : decode cc pc = .ok (.ifCond .ge off, 3)) (ht : (pc : Int) + off = (tgt : Int)) (ha : -2147483648 ≤ a ∧ a < 2147483648) (kt : 0 ≤ a → V X kc kn Q (tgt) L (st) ad N σ) (kf : a < 0 → V X kc kn Q (pc + 3) L (st) ad N σ) : V X kc kn Q (pc) L (.int (gI a) :: st) ad N σ := fun ls H locs hl hw => lv_if_ge C.1 C.2.1 hd ht (fun h => kt ((gI_le (a := 0) (by omega) ha).mp (by rw [gI_0]; exact h)) ls H locs hl hw) (fun h => kf (by have := mt (gI_le (a := 0) (by omega) ha).mpr (by rw [gI_0]; exact h); omega) ls H locs hl hw)
theorem r_if_gt {X : gT} {cc : ByteArray} {nL : Nat} {own : String} {R : Room} {ret : Option FieldType} {kc kn : Nat} {Q : State → Prop} {pc : Nat} {L : List (Option Value)} {st : List Value} {ad : Int → Nat} {N : Int} {σ : Int → va_E} (C : gOk X cc nL own R ret) {a off : Int} {tgt : Nat} (hd : decode cc pc = .ok (.ifCond .gt off, 3)) (ht : (pc : Int) + off = (tgt : Int)) (ha : -2147483648 ≤ a ∧ a < 2147483648) (kt : 0 < a → V X kc kn Q (tgt) L (st) ad N σ) (kf : a ≤ 0 → V X kc kn Q (pc + 3) L (st) ad N σ) : V X kc kn Q (pc) L (.int (gI a) :: st) ad N σ := fun ls H locs hl hw => lv_if_gt C.1 C.2.1 hd ht (fun h => kt ((gI_lt (a := 0) (by omega) ha).mp (by rw [gI_0]; exact h)) ls H locs hl hw) (fun h => kf (by have := mt (gI_lt (a := 0) (by omega) ha).mpr (by rw [gI_0]; exact h); omega) ls H locs hl hw)
theorem r_if_le {X : gT} {cc : ByteArray} {nL : Nat} {own : String} {R : Room} {ret : Option FieldType} {kc kn : Nat} {Q : State → Prop} {pc : Nat} {L : List (Option Value)} {st : List Value} {ad : Int → Nat} {N : Int} {σ : Int → va_E} (C : gOk X cc nL own R ret) {a off : Int} {tgt : Nat} (hd : decode cc pc = .ok (.ifCond .le off, 3)) (ht : (pc : Int) + off = (tgt : Int)) (ha : -2147483648 ≤ a ∧ a < 2147483648) (kt : a ≤ 0 → V X kc kn Q (tgt) L (st) ad N σ) (kf : 0 < a → V X kc kn Q (pc + 3) L (st) ad N σ) : V X kc kn Q (pc) L (.int (gI a) :: st) ad N σ := fun ls H locs hl hw => lv_if_le C.1 C.2.1 hd ht (fun h => kt ((gI_le ha (b := 0) (by omega)).mp (by rw [gI_0]; exact h)) ls H locs hl hw) (fun h => kf (by have := mt (gI_le ha (b := 0) (by omega)).mpr (by rw [gI_0]; exact h); omega) ls H locs hl hw)
theorem r_ifb_eq {X : gT} {cc : ByteArray} {nL : Nat} {own : String} {R : Room} {ret : Option FieldType} {kc kn : Nat} {Q : State → Prop} {pc : Nat} {L : List (Option Value)} {st : List Value} {ad : Int → Nat} {N : Int} {σ : Int → va_E} (C : gOk X cc nL own R ret) {p : Prop} [Decidable p] {off : Int} {tgt : Nat} (hd : decode cc pc = .ok (.ifCond .eq off, 3)) (ht : (pc : Int) + off = (tgt : Int)) (kt : ¬ p → V X kc kn Q (tgt) L (st) ad N σ) (kf : p → V X kc kn Q (pc + 3) L (st) ad N σ) : V X kc kn Q (pc) L (.int (gI (gB p)) :: st) ad N σ := r_if_eq C hd ht (by have := gB_rng p; omega) (fun h => kt ((gB_0 p).mp h)) (fun h => kf (Decidable.byContradiction fun q => h ((gB_0 p).mpr q)))
theorem r_ifb_ne {X : gT} {cc : ByteArray} {nL : Nat} {own : String} {R : Room} {ret : Option FieldType} {kc kn : Nat} {Q : State → Prop} {pc : Nat} {L : List (Option Value)} {st : List Value} {ad : Int → Nat} {N : Int} {σ : Int → va_E} (C : gOk X cc nL own R ret) {p : Prop} [Decidable p] {off : Int} {tgt : Nat} (hd : decode cc pc = .ok (.ifCond .ne off, 3)) (ht : (pc : Int) + off = (tgt : Int)) (kt : p → V X kc kn Q (tgt) L (st) ad N σ) (kf : ¬ p → V X kc kn Q (pc + 3) L (st) ad N σ) : V X kc kn Q (pc) L (.int (gI (gB p)) :: st) ad N σ := r_if_ne C hd ht (by have := gB_rng p; omega) (fun h => kt (Decidable.byContradiction fun q => h ((gB_0 p).mpr q))) (fun h => kf ((gB_0 p).mp h))
theorem r_goto {X : gT} {cc : ByteArray} {nL : Nat} {own : String} {R : Room} {ret : Option FieldType} {kc kn : Nat} {Q : State → Prop} {pc : Nat} {L : List (Option Value)} {st : List Value} {ad : Int → Nat} {N : Int} {σ : Int → va_E} (C : gOk X cc nL own R ret) {off : Int} {tgt : Nat} (hd : decode cc pc = .ok (.goto off, 3)) (ht : (pc : Int) + off = (tgt : Int)) (k : V X kc kn Q (tgt) L (st) ad N σ) : V X kc kn Q (pc) L (st) ad N σ := fun ls H locs hl hw => lv_goto C.1 C.2.1 hd ht (k ls H locs hl hw)
theorem r_tabIn {X : gT} {cc : ByteArray} {nL : Nat} {own : String} {R : Room} {ret : Option FieldType} {kc kn : Nat} {Q : State → Prop} {pc : Nat} {L : List (Option Value)} {st : List Value} {ad : Int → Nat} {N : Int} {σ : Int → va_E} (C : gOk X cc nL own R ret) {a dflt lo hi off : Int} {offs : Array Int} {len tgt : Nat} (hd : decode cc pc = .ok (.tableswitch dflt lo hi offs, len)) (ha : -2147483648 ≤ a ∧ a < 2147483648) (h1 : lo ≤ a) (h2 : a ≤ hi) (ho : offs[(a - lo).toNat]? = some off) (ht : (pc : Int) + off = (tgt : Int)) (k : V X kc kn Q (tgt) L (st) ad N σ) : V X kc kn Q (pc) L (.int (gI a) :: st) ad N σ := fun ls H locs hl hw => lv_tableIn C.1 C.2.1 hd (by rw [gI_toInt ha]; omega) (by rw [gI_toInt ha]; omega) (by rw [gI_toInt ha]; exact ho) ht (k ls H locs hl hw)
theorem r_tabOut {X : gT} {cc : ByteArray} {nL : Nat} {own : String} {R : Room} {ret : Option FieldType} {kc kn : Nat} {Q : State → Prop} {pc : Nat} {L : List (Option Value)} {st : List Value} {ad : Int → Nat} {N : Int} {σ : Int → va_E} (C : gOk X cc nL own R ret) {a dflt lo hi : Int} {offs : Array Int} {len tgt : Nat} (hd : decode cc pc = .ok (.tableswitch dflt lo hi offs, len)) (ha : -2147483648 ≤ a ∧ a < 2147483648) (h : a < lo ∨ hi < a) (ht : (pc : Int) + dflt = (tgt : Int)) (k : V X kc kn Q (tgt) L (st) ad N σ) : V X kc kn Q (pc) L (.int (gI a) :: st) ad N σ := fun ls H locs hl hw => lv_tableOut C.1 C.2.1 hd (by rw [gI_toInt ha]; exact h) ht (k ls H locs hl hw)
theorem r_look {X : gT} {cc : ByteArray} {nL : Nat} {own : String} {R : Room} {ret : Option FieldType} {kc kn : Nat} {Q : State → Prop} {pc : Nat} {L : List (Option Value)} {st : List Value} {ad : Int → Nat} {N : Int} {σ : Int → va_E} (C : gOk X cc nL own R ret) {a dflt off : Int} {ps : Array (Int × Int)} {len tgt : Nat} (hd : decode cc pc = .ok (.lookupswitch dflt ps, len)) (ha : -2147483648 ≤ a ∧ a < 2147483648) (hp : (ps.toList.zip (ps.toList.drop 1)).all (fun (a, next) => a.1 < next.1) = true) (ho : Op.lookupswitch.offset ps.toList dflt a = off) (ht : (pc : Int) + off = (tgt : Int)) (k : V X kc kn Q (tgt) L (st) ad N σ) : V X kc kn Q (pc) L (.int (gI a) :: st) ad N σ := fun ls H locs hl hw => lv_lookup C.1 C.2.1 hd hp (by rw [gI_toInt ha]; exact ho) ht (k ls H locs hl hw)
theorem r_widen {X : gT} {cc : ByteArray} {nL : Nat} {own : String} {R : Room} {ret : Option FieldType} {kc kn : Nat} {Q : State → Prop} {pc : Nat} {L : List (Option Value)} {st : List Value} {ad : Int → Nat} {N : Int} {σ : Int → va_E} {k2 n2 : Nat} (h1 : kc ≤ k2) (h2 : kn ≤ n2) (k : V X k2 n2 Q (pc) L (st) ad N σ) : V X kc kn Q (pc) L (st) ad N σ := fun ls H locs hl hw => W.widen h1 h2 (k ls H locs hl hw)
theorem r_iret {X : gT} {cc : ByteArray} {nL : Nat} {own : String} {R : Room} {kc kn : Nat} {pc : Nat} {L : List (Option Value)} {ad : Int → Nat} {N : Int} {σ : Int → va_E} {post : gPost} {mc ms : Nat} {z : Int32} (C : gOk X cc nL own R (some .int)) (hd : decode cc pc = .ok (.ireturn, 1)) (hp : post (some (.int z)) ad N σ) (hk : kc ≤ mc) (hn : kn ≤ ms) : V X kc kn (gQ X post mc ms) (pc) L ([.int z]) ad N σ := fun ls H locs hl hw =>
  W.widen hk hn (W.iret C.1 C.2.1 C.2.2.2.2.2.2.1  (fun t ht hW => ⟨⟨_, ad, N, σ, rfl, hp, ⟨by rw [ht]; exact hw.1, va_K.moved hW.alike C.2.2.2.2.2.2.2.2.1, ⟨hw.2.1.1, fun _ _ _ => trivial⟩, C.2.2.2.2.2.2.2.2.2.2.1.moved hW.alike, C.2.2.2.2.2.2.2.2.2.2.2.1.moved hW.alike, C.2.2.2.2.2.2.2.2.2.2.2.2.warm hW⟩, fun k hk => by have := hw.2.1.2 k.toNat (ad k, σ k) (gl_at hk); exact this⟩, hw.2.2.F ht⟩) hw.2.2.2.2 hd C.2.2.2.2.2.1)
theorem r_zret {X : gT} {cc : ByteArray} {nL : Nat} {own : String} {R : Room} {kc kn : Nat} {pc : Nat} {L : List (Option Value)} {ad : Int → Nat} {N : Int} {σ : Int → va_E} {post : gPost} {mc ms : Nat} {z : Int} (C : gOk X cc nL own R (some .boolean)) (hd : decode cc pc = .ok (.ireturn, 1)) (hz : z = 0 ∨ z = 1) (hp : post (some (.int (gI z))) ad N σ) (hk : kc ≤ mc) (hn : kn ≤ ms) : V X kc kn (gQ X post mc ms) (pc) L ([.int (gI z)]) ad N σ := fun ls H locs hl hw =>
  W.widen hk hn (W.zret C.1 C.2.1 C.2.2.2.2.2.2.1 (by rcases hz with h | h <;> subst h <;> rfl) (fun t ht hW => ⟨⟨_, ad, N, σ, rfl, hp, ⟨by rw [ht]; exact hw.1, va_K.moved hW.alike C.2.2.2.2.2.2.2.2.1, ⟨hw.2.1.1, fun _ _ _ => trivial⟩, C.2.2.2.2.2.2.2.2.2.2.1.moved hW.alike, C.2.2.2.2.2.2.2.2.2.2.2.1.moved hW.alike, C.2.2.2.2.2.2.2.2.2.2.2.2.warm hW⟩, fun k hk => by have := hw.2.1.2 k.toNat (ad k, σ k) (gl_at hk); exact this⟩, hw.2.2.F ht⟩) hw.2.2.2.2 hd C.2.2.2.2.2.1)
theorem r_lret {X : gT} {cc : ByteArray} {nL : Nat} {own : String} {R : Room} {kc kn : Nat} {pc : Nat} {L : List (Option Value)} {ad : Int → Nat} {N : Int} {σ : Int → va_E} {post : gPost} {mc ms : Nat} {z : Int64} (C : gOk X cc nL own R (some .long)) (hd : decode cc pc = .ok (.lreturn, 1)) (hp : post (some (.long z)) ad N σ) (hk : kc ≤ mc) (hn : kn ≤ ms) : V X kc kn (gQ X post mc ms) (pc) L ([.long z]) ad N σ := fun ls H locs hl hw =>
  W.widen hk hn (W.lret C.1 C.2.1 C.2.2.2.2.2.2.1  (fun t ht hW => ⟨⟨_, ad, N, σ, rfl, hp, ⟨by rw [ht]; exact hw.1, va_K.moved hW.alike C.2.2.2.2.2.2.2.2.1, ⟨hw.2.1.1, fun _ _ _ => trivial⟩, C.2.2.2.2.2.2.2.2.2.2.1.moved hW.alike, C.2.2.2.2.2.2.2.2.2.2.2.1.moved hW.alike, C.2.2.2.2.2.2.2.2.2.2.2.2.warm hW⟩, fun k hk => by have := hw.2.1.2 k.toNat (ad k, σ k) (gl_at hk); exact this⟩, hw.2.2.F ht⟩) hw.2.2.2.2 hd C.2.2.2.2.2.1)
theorem r_dret {X : gT} {cc : ByteArray} {nL : Nat} {own : String} {R : Room} {kc kn : Nat} {pc : Nat} {L : List (Option Value)} {ad : Int → Nat} {N : Int} {σ : Int → va_E} {post : gPost} {mc ms : Nat} {z : UInt64} (C : gOk X cc nL own R (some .double)) (hd : decode cc pc = .ok (.dreturn, 1)) (hp : post (some (.double z)) ad N σ) (hk : kc ≤ mc) (hn : kn ≤ ms) : V X kc kn (gQ X post mc ms) (pc) L ([.double z]) ad N σ := fun ls H locs hl hw =>
  W.widen hk hn (W.dret C.1 C.2.1 C.2.2.2.2.2.2.1  (fun t ht hW => ⟨⟨_, ad, N, σ, rfl, hp, ⟨by rw [ht]; exact hw.1, va_K.moved hW.alike C.2.2.2.2.2.2.2.2.1, ⟨hw.2.1.1, fun _ _ _ => trivial⟩, C.2.2.2.2.2.2.2.2.2.2.1.moved hW.alike, C.2.2.2.2.2.2.2.2.2.2.2.1.moved hW.alike, C.2.2.2.2.2.2.2.2.2.2.2.2.warm hW⟩, fun k hk => by have := hw.2.1.2 k.toNat (ad k, σ k) (gl_at hk); exact this⟩, hw.2.2.F ht⟩) hw.2.2.2.2 hd C.2.2.2.2.2.1)
theorem r_vret {X : gT} {cc : ByteArray} {nL : Nat} {own : String} {R : Room} {kc kn : Nat} {pc : Nat} {L : List (Option Value)} {ad : Int → Nat} {N : Int} {σ : Int → va_E} {post : gPost} {mc ms : Nat}  (C : gOk X cc nL own R none) (hd : decode cc pc = .ok (.return_, 1)) (hp : post none ad N σ) (hk : kc ≤ mc) (hn : kn ≤ ms) : V X kc kn (gQ X post mc ms) (pc) L ([]) ad N σ := fun ls H locs hl hw =>
  W.widen hk hn (W.vret C.1 C.2.1 C.2.2.2.2.2.2.1  (fun t ht hW => ⟨⟨_, ad, N, σ, rfl, hp, ⟨by rw [ht]; exact hw.1, va_K.moved hW.alike C.2.2.2.2.2.2.2.2.1, ⟨hw.2.1.1, fun _ _ _ => trivial⟩, C.2.2.2.2.2.2.2.2.2.2.1.moved hW.alike, C.2.2.2.2.2.2.2.2.2.2.2.1.moved hW.alike, C.2.2.2.2.2.2.2.2.2.2.2.2.warm hW⟩, fun k hk => by have := hw.2.1.2 k.toNat (ad k, σ k) (gl_at hk); exact this⟩, hw.2.2.F ht⟩) hw.2.2.2.2 hd C.2.2.2.2.2.1)
theorem r_aret {X : gT} {cc : ByteArray} {nL : Nat} {own : String} {R : Room} {kc kn : Nat} {pc : Nat} {L : List (Option Value)} {ad : Int → Nat} {N : Int} {σ : Int → va_E} {post : gPost} {mc ms : Nat} {z : Nat} {rc : String} (C : gOk X cc nL own R (some (.object rc))) (hd : decode cc pc = .ok (.areturn, 1)) (hp : post (some (.ref z)) ad N σ) (hk : kc ≤ mc) (hn : kn ≤ ms) : V X kc kn (gQ X post mc ms) (pc) L ([.ref z]) ad N σ := fun ls H locs hl hw =>
  W.widen hk hn (W.aret C.1 C.2.1 C.2.2.2.2.2.2.1 (Or.inl ⟨_, rfl⟩) (Or.inr ⟨_, rfl⟩) (fun t ht hW => ⟨⟨_, ad, N, σ, rfl, hp, ⟨by rw [ht]; exact hw.1, va_K.moved hW.alike C.2.2.2.2.2.2.2.2.1, ⟨hw.2.1.1, fun _ _ _ => trivial⟩, C.2.2.2.2.2.2.2.2.2.2.1.moved hW.alike, C.2.2.2.2.2.2.2.2.2.2.2.1.moved hW.alike, C.2.2.2.2.2.2.2.2.2.2.2.2.warm hW⟩, fun k hk => by have := hw.2.1.2 k.toNat (ad k, σ k) (gl_at hk); exact this⟩, hw.2.2.F ht⟩) hw.2.2.2.2 hd C.2.2.2.2.2.1)
end
section
/-! rows over V that read and write the world; calls -/
section HEAP
variable {X : gT} {cc : ByteArray} {nL : Nat} {own : String} {R : Room} {ret : Option FieldType} {kc kn : Nat} {Q : State → Prop} {pc : Nat} {L : List (Option Value)} {st : List Value} {ad : Int → Nat} {N : Int} {σ : Int → va_E}
theorem r_get (C : gOk X cc nL own R ret) {idx ci f n : Nat} {CN : String} {T : u_T} {ty : Nat → FieldType} (fl : gFL own idx ci f CN T n ty) (hd : decode cc pc = .ok (.getfield idx, 3)) {a : Int} (ha : 0 ≤ a ∧ a < N) {fs : List Value} {v : Value} (hσ : σ a = .inr (ci, fs)) (hv : fs[f]? = some v)
    (k : V X kc kn Q (pc + 3) L (v :: st) ad N σ) : V X kc kn Q pc L (.ref (ad a) :: st) ad N σ := fun ls H locs hl hw =>
  va_get C.1 C.2.1 (Ts := WS) C.2.2.2.2.1 fl.1 C.2.2.2.1 C.2.2.2.2.2.2.2.2.1 hw.1 a.toNat (by rw [gl_at ha, hσ]) fl.2.1 f fl.2.2.1 (C.2.2.2.2.1 _ fl.2.2.2.1) (fun _ h => h) hv hd (k ls H locs hl hw)
theorem r_put (C : gOk X cc nL own R ret) {idx ci f n : Nat} {CN : String} {T : u_T} {ty : Nat → FieldType} (fl : gFL own idx ci f CN T n ty) (hd : decode cc pc = .ok (.putfield idx, 3)) {a : Int} (ha : 0 ≤ a ∧ a < N) {fs : List Value} {v : Value} (hσ : σ a = .inr (ci, fs)) (hfin : (T f).2.2.2 = false) (hn : narrow (ty f) v = v) (hfit : fits (ty f) v = true) (hlen : f < fs.length)
    (k : V X kc kn Q (pc + 3) L st ad N (up σ a (.inr (ci, fs.set f v)))) : V X kc kn Q pc L (v :: .ref (ad a) :: st) ad N σ := fun ls H locs hl hw =>
  va_put C.1 C.2.1 (Ts := WS) C.2.2.2.2.1 fl.1 ty fl.2.2.2.2.1 fl.2.2.2.2.2 C.2.2.2.1 C.2.2.2.2.2.2.2.2.1 hw.1 hw.2.1 hw.2.2 a.toNat (by rw [gl_at ha, hσ]) fl.2.1 f fl.2.2.1 (C.2.2.2.2.1 _ fl.2.2.2.1) (fun _ h => h) hfin (fl.2.2.2.2.1 f fl.2.2.1) hn hfit hlen hd
    (fun H1 locs1 hP hD hS => k ls H1 locs1 hl ⟨by rw [gl_set ha] at hP; exact hP, by rw [gl_set ha] at hD; exact hD, hS⟩)
theorem r_putF (C : gOk X cc nL own R ret) (hini : (gme X).name = "<init>") {idx ci f n : Nat} {CN : String} {T : u_T} {ty : Nat → FieldType} (fl : gFL own idx ci f CN T n ty) (hd : decode cc pc = .ok (.putfield idx, 3)) {a : Int} (ha : 0 ≤ a ∧ a < N) {fs : List Value} {v : Value} (hσ : σ a = .inr (ci, fs)) (hfin : (T f).2.2.2 = true) (hdecl : (T f).1 = own) (hn : narrow (ty f) v = v) (hfit : fits (ty f) v = true) (hlen : f < fs.length)
    (k : V X kc kn Q (pc + 3) L st ad N (up σ a (.inr (ci, fs.set f v)))) : V X kc kn Q pc L (v :: .ref (ad a) :: st) ad N σ := fun ls H locs hl hw =>
  va_putF C.1 C.2.1 (Ts := WS) C.2.2.2.2.1 fl.1 ty fl.2.2.2.2.1 fl.2.2.2.2.2 C.2.2.2.1 C.2.2.2.2.2.2.2.2.1 hw.1 hw.2.1 hw.2.2 a.toNat (by rw [gl_at ha, hσ]) fl.2.1 f fl.2.2.1 (C.2.2.2.2.1 _ fl.2.2.2.1) (fun _ h => h) hfin hini hdecl (fl.2.2.2.2.1 f fl.2.2.1) hn hfit hlen hd
    (fun H1 locs1 hP hD hS => k ls H1 locs1 hl ⟨by rw [gl_set ha] at hP; exact hP, by rw [gl_set ha] at hD; exact hD, hS⟩)
/-- an array of ints (chars) that holds g -/
def gAr (c : ClassId) (n : Nat) (g : Int → Int) : va_E := .inl (c, n, .inl (fun j => if j < n then gI (g (j : Int)) else 0))
theorem gAr_ext {c : ClassId} {n : Nat} {g g' : Int → Int} (h : ∀ j : Int, 0 ≤ j → j < n → g j = g' j) : gAr c n g = gAr c n g' := by
  unfold gAr
  have e : (fun j : Nat => if j < n then gI (g (j : Int)) else 0) = (fun j : Nat => if j < n then gI (g' (j : Int)) else 0) := by
    funext j
    by_cases hj : j < n
    · rw [if_pos hj, if_pos hj, h j (by omega) (by omega)]
    · rw [if_neg hj, if_neg hj]
  rw [e]
theorem gAr_at {n : Nat} {g : Int → Int} {i : Int} (hi : 0 ≤ i ∧ i < n) : (if i.toNat < n then gI (g (i.toNat : Int)) else 0) = gI (g i) := by
  rw [if_pos (by omega), Int.toNat_of_nonneg hi.1]
theorem gAr_upd (g : Int → Int) {n : Nat} {i : Int} (hi : 0 ≤ i ∧ i < n) (z : Int) : upd (fun j : Nat => if j < n then gI (g (j : Int)) else 0) i.toNat (gI z) = fun j : Nat => if j < n then gI (up g i z (j : Int)) else 0 := by
  funext j
  unfold upd up
  by_cases h : j = i.toNat
  · rw [if_pos h, if_pos (by omega), if_pos (by omega)]
  · rw [if_neg h, if_neg (show ¬ (j : Int) = i by omega)]
theorem r_iald (C : gOk X cc nL own R ret) (hd : decode cc pc = .ok (.iaload, 1)) {a i : Int} {n : Nat} {g : Int → Int} (ha : 0 ≤ a ∧ a < N) (hσ : σ a = gAr (gty X 0) n g) (hi : 0 ≤ i ∧ i < n) (hn : n < 2147483648)
    (k : V X kc kn Q (pc + 1) L (.int (gI (g i)) :: st) ad N σ) : V X kc kn Q pc L (.int (gI i) :: .ref (ad a) :: st) ad N σ := fun ls H locs hl hw =>
  va_iald C.1 C.2.1 C.2.2.2.2.2.2.2.2.1 hw.1 a.toNat 0 (by rw [gl_at ha, hσ]; rfl) rfl (gI_in hi hn) hd (by rw [gI_clamp (by omega), gAr_at hi]; exact k ls H locs hl hw)
theorem r_iast (C : gOk X cc nL own R ret) (hd : decode cc pc = .ok (.iastore, 1)) {a i z : Int} {n : Nat} {g : Int → Int} (ha : 0 ≤ a ∧ a < N) (hσ : σ a = gAr (gty X 0) n g) (hi : 0 ≤ i ∧ i < n) (hn : n < 2147483648)
    (k : V X kc kn Q (pc + 1) L st ad N (up σ a (gAr (gty X 0) n (up g i z)))) : V X kc kn Q pc L (.int (gI z) :: .int (gI i) :: .ref (ad a) :: st) ad N σ := fun ls H locs hl hw =>
  va_iast C.1 C.2.1 C.2.2.2.2.2.2.2.2.1 hw.1 hw.2.1 hw.2.2 a.toNat 0 (by rw [gl_at ha, hσ]; rfl) rfl (gI_in hi hn) hd (fun H1 locs1 hP hD hS => by
    rw [gI_clamp (by omega), gAr_upd g hi, gl_set ha] at hP hD
    exact k ls H1 locs1 hl ⟨hP, hD, hS⟩)
theorem r_cald (C : gOk X cc nL own R ret) (hd : decode cc pc = .ok (.caload, 1)) {a i : Int} {n : Nat} {g : Int → Int} (ha : 0 ≤ a ∧ a < N) (hσ : σ a = gAr (gty X 1) n g) (hi : 0 ≤ i ∧ i < n) (hn : n < 2147483648)
    (k : V X kc kn Q (pc + 1) L (.int (gI (g i)) :: st) ad N σ) : V X kc kn Q pc L (.int (gI i) :: .ref (ad a) :: st) ad N σ := fun ls H locs hl hw =>
  va_cald C.1 C.2.1 C.2.2.2.2.2.2.2.2.1 hw.1 a.toNat 1 (by rw [gl_at ha, hσ]; rfl) rfl (gI_in hi hn) hd (by rw [gI_clamp (by omega), gAr_at hi]; exact k ls H locs hl hw)
theorem gI_char {z : Int} (h : 0 ≤ z ∧ z < 65536) : ((gI z).toUInt32 % 65536).toInt32 = gI z := lg_i2c_word (by rw [gI_toInt (by omega)]; exact h.1) (by rw [gI_toInt (by omega)]; exact h.2)
theorem gI_nar {z : Int} (h : 0 ≤ z ∧ z < 65536) : vp_nar .char (gI z) = gI z := by
  rw [vp_nar_char, ← lg_i2c_nf, gI_char h]
theorem r_cast (C : gOk X cc nL own R ret) (hd : decode cc pc = .ok (.castore, 1)) {a i z : Int} {n : Nat} {g : Int → Int} (ha : 0 ≤ a ∧ a < N) (hσ : σ a = gAr (gty X 1) n g) (hi : 0 ≤ i ∧ i < n) (hn : n < 2147483648) (hz : 0 ≤ z ∧ z < 65536)
    (k : V X kc kn Q (pc + 1) L st ad N (up σ a (gAr (gty X 1) n (up g i z)))) : V X kc kn Q pc L (.int (gI z) :: .int (gI i) :: .ref (ad a) :: st) ad N σ := fun ls H locs hl hw =>
  va_cast C.1 C.2.1 C.2.2.2.2.2.2.2.2.1 hw.1 hw.2.1 hw.2.2 a.toNat 1 (by rw [gl_at ha, hσ]; rfl) rfl (gI_in hi hn) hd (fun H1 locs1 hP hD hS => by
    rw [gI_nar hz, gI_clamp (by omega), gAr_upd g hi, gl_set ha] at hP hD
    exact k ls H1 locs1 hl ⟨hP, hD, hS⟩)
/-- an array of references -/
def gRA (c : ClassId) (n : Nat) (f : Nat → Option Nat) : va_E := .inl (c, n, .inr (.inr (.inr (.inr f))))
theorem r_aald (C : gOk X cc nL own R ret) (hd : decode cc pc = .ok (.aaload, 1)) {a i : Int} {n t : Nat} {f : Nat → Option Nat} {c : ClassId} {CN : String} {q : Nat} (ha : 0 ≤ a ∧ a < N) (hσ : σ a = gRA c n f) (ht : (gtys (gty X))[t]? = some (c, .object CN)) (hi : 0 ≤ i ∧ i < n) (hn : n < 2147483648) (hf : f i.toNat = some q)
    (k : V X kc kn Q (pc + 1) L (.ref q :: st) ad N σ) : V X kc kn Q pc L (.int (gI i) :: .ref (ad a) :: st) ad N σ := fun ls H locs hl hw =>
  va_aldq C.1 C.2.1 C.2.2.2.2.2.2.2.2.1 hw.1 a.toNat t (by rw [gl_at ha, hσ]; rfl) ht (gI_in hi hn) hd (by rw [gI_clamp (by omega), hf]; exact k ls H locs hl hw)
theorem r_aast (C : gOk X cc nL own R ret) (hd : decode cc pc = .ok (.aastore, 1)) {a b i : Int} {n t ci : Nat} {f : Nat → Option Nat} {c : ClassId} {r : vw_C} {vs : List Value} (ha : 0 ≤ a ∧ a < N) (hσ : σ a = gRA c n f) (ht : (gtys (gty X))[t]? = some (c, .object r.1)) (hi : 0 ≤ i ∧ i < n) (hn : n < 2147483648) (hb : 0 ≤ b ∧ b < N) (hσb : σ b = .inr (ci, vs)) (hci : vwCl[ci]? = some r)
    (k : V X kc kn Q (pc + 1) L st ad N (up σ a (gRA c n (va_up f i.toNat (some (ad b)))))) : V X kc kn Q pc L (.ref (ad b) :: .int (gI i) :: .ref (ad a) :: st) ad N σ := fun ls H locs hl hw =>
  va_astq C.1 C.2.1 C.2.2.2.2.2.2.2.2.1 hw.1 hw.2.1 hw.2.2 a.toNat t b.toNat ci (by rw [gl_at ha, hσ]; rfl) ht (by rw [gl_at hb, hσb]) hci (gI_in hi hn) hd (fun H1 locs1 hP hD hS => by
    rw [gI_clamp (by omega), gl_set ha] at hP hD
    exact k ls H1 locs1 hl ⟨hP, hD, hS⟩)
/-- an array of longs -/
def gLA (c : ClassId) (n : Nat) (f : Nat → Int64) : va_E := .inl (c, n, .inr (.inl f))
/-- System.arraycopy of ints -/
def gcpy (f g : Int → Int) (sp dp n : Int) : Int → Int := fun j => if dp ≤ j ∧ j < dp + n then f (sp + (j - dp)) else g j
theorem r_copy (C : gOk X cc nL own R ret) {idx : Nat} (hk : Cond.methodLink own idx arraycopyName ∈ WS ∧ Cond.native arraycopyName ∈ WS ∧ Cond.static arraycopyName ∈ WS ∧ Cond.initialized "java/lang/System" ∈ WS) (hd : decode cc pc = .ok (.invokestatic idx, 3)) {a b sp dp m : Int} {n0 n1 : Nat} {f g : Int → Int} (ha : 0 ≤ a ∧ a < N) (hb : 0 ≤ b ∧ b < N) (hσa : σ a = gAr (gty X 0) n0 f) (hσb : σ b = gAr (gty X 0) n1 g) (h1 : 0 ≤ sp) (h2 : 0 ≤ dp) (h3 : 0 ≤ m) (h4 : sp + m ≤ n0) (h5 : dp + m ≤ n1) (hn : n0 < 2147483648 ∧ n1 < 2147483648) (hL : L.length = nL) (hf : 1 ≤ R.frames) (hlo : (st.map fun v => v.category).sum + (nativeFrameWords "java/lang/System" "arraycopy" 5 + 11) ≤ R.locals)
    (k : V X kc kn Q (pc + 3) L st ad N (up σ b (gAr (gty X 0) n1 (gcpy f g sp dp m)))) : V X kc kn Q pc L (.int (gI m) :: .int (gI dp) :: .ref (ad b) :: .int (gI sp) :: .ref (ad a) :: st) ad N σ := fun ls H locs hl hw => by
  have hR := C.2.2.2.2.2.2.2.1
  have e1 := gI_clamp (z := sp) (by omega)
  have e2 := gI_clamp (z := dp) (by omega)
  have e3 := gI_clamp (z := m) (by omega)
  have nn : ∀ z : Int, 0 ≤ z → z < 2147483648 → ¬ gI z < 0 := fun z h h' => by rw [← gI_0, gI_lt (by omega) (by omega)]; omega
  refine va_copyi C.1 C.2.1 (by rw [C.2.2.1, hl.1, hL]) C.2.2.2.1 (C.2.2.2.2.1 _ hk.1) (C.2.2.2.2.1 _ hk.2.1) (C.2.2.2.2.1 _ hk.2.2.1) (C.2.2.2.2.1 _ hk.2.2.2) C.2.2.2.2.2.2.2.2.1 hw.1 hw.2.1 hw.2.2 a.toNat b.toNat 0 0 (by rw [gl_at ha, hσa]; rfl) (by rw [gl_at hb, hσb]; rfl) rfl rfl rfl (nn _ h1 (by omega)) (nn _ h2 (by omega)) (nn _ h3 (by omega)) (by rw [e1, e3]; omega) (by rw [e2, e3]; omega) (fun _ _ => rfl) (by rw [hR]; exact hf) (by rw [hR]; exact hlo) hd (fun H1 locs1 hP hD hS => ?_)
  have e : va_cpy (fun j : Nat => if j < n0 then gI (f (j : Int)) else 0) (fun j : Nat => if j < n1 then gI (g (j : Int)) else 0) (gI sp).toNatClampNeg (gI dp).toNatClampNeg (gI m).toNatClampNeg = fun j : Nat => if j < n1 then gI (gcpy f g sp dp m (j : Int)) else 0 := by
    rw [e1, e2, e3]
    funext j
    unfold va_cpy gcpy
    by_cases h : dp.toNat ≤ j ∧ j < dp.toNat + m.toNat
    · rw [if_pos h]
      show (if sp.toNat + (j - dp.toNat) < n0 then gI (f ((sp.toNat + (j - dp.toNat) : Nat) : Int)) else 0) = _
      rw [if_pos (by omega), if_pos (by omega), if_pos (by omega)]
      rw [show ((sp.toNat + (j - dp.toNat) : Nat) : Int) = sp + ((j : Int) - dp) by omega]
    · rw [if_neg h, if_neg (show ¬ (dp ≤ (j : Int) ∧ (j : Int) < dp + m) by omega)]
  rw [e, gl_set hb] at hP hD
  exact k ls H1 locs1 hl ⟨hP, hD, hS⟩
/-- Math.max, Math.min -/
theorem r_max (C : gOk X cc nL own R ret) {idx : Nat} (hk : Cond.methodLink own idx Lib.Math.max.name ∈ WS ∧ Cond.static Lib.Math.max.name ∈ WS ∧ Cond.initialized "java/lang/Math" ∈ WS ∧ Cond.code Lib.Math.max.name Lib.Math.max.code 2 (some .int) ∈ WS) (hd : decode cc pc = .ok (.invokestatic idx, 3)) {a b : Int} (ha : -2147483648 ≤ a ∧ a < 2147483648) (hb : -2147483648 ≤ b ∧ b < 2147483648) (hL : L.length = nL) (hR : 1 ≤ R.frames ∧ (st.map fun v => v.category).sum + 13 ≤ R.locals) (hc : kc ≤ R.cells ∧ kn ≤ R.slots)
    (k : V X kc kn Q (pc + 3) L (.int (gI (max a b)) :: st) ad N σ) : V X kc kn Q pc L (.int (gI b) :: .int (gI a) :: st) ad N σ := fun ls H locs hl hw => by
  have hR' := C.2.2.2.2.2.2.2.1
  refine va_mmax C.1 C.2.1 (by rw [C.2.2.1, hl.1, hL]) C.2.2.2.1 (C.2.2.2.2.1 _ hk.1) (C.2.2.2.2.1 _ hk.2.1) (C.2.2.2.2.1 _ hk.2.2.1) (C.2.2.2.2.1 _ hk.2.2.2) (by rw [hR']; exact hR.1) (by rw [hR']; exact hR.2) (by rw [hR']; exact hc.1) (by rw [hR']; exact hc.2) hd ?_
  have e : (if gI a < gI b then gI b else gI a) = gI (max a b) := by
    by_cases h : a < b
    · rw [if_pos ((gI_lt ha hb).mpr h), Int.max_eq_right (by omega)]
    · rw [if_neg (mt (gI_lt ha hb).mp h), Int.max_eq_left (by omega)]
  rw [e]
  exact k ls H locs hl hw
theorem r_min (C : gOk X cc nL own R ret) {idx : Nat} (hk : Cond.methodLink own idx Lib.Math.min.name ∈ WS ∧ Cond.static Lib.Math.min.name ∈ WS ∧ Cond.initialized "java/lang/Math" ∈ WS ∧ Cond.code Lib.Math.min.name Lib.Math.min.code 2 (some .int) ∈ WS) (hd : decode cc pc = .ok (.invokestatic idx, 3)) {a b : Int} (ha : -2147483648 ≤ a ∧ a < 2147483648) (hb : -2147483648 ≤ b ∧ b < 2147483648) (hL : L.length = nL) (hR : 1 ≤ R.frames ∧ (st.map fun v => v.category).sum + 13 ≤ R.locals) (hc : kc ≤ R.cells ∧ kn ≤ R.slots)
    (k : V X kc kn Q (pc + 3) L (.int (gI (min a b)) :: st) ad N σ) : V X kc kn Q pc L (.int (gI b) :: .int (gI a) :: st) ad N σ := fun ls H locs hl hw => by
  have hR' := C.2.2.2.2.2.2.2.1
  refine va_mmin C.1 C.2.1 (by rw [C.2.2.1, hl.1, hL]) C.2.2.2.1 (C.2.2.2.2.1 _ hk.1) (C.2.2.2.2.1 _ hk.2.1) (C.2.2.2.2.1 _ hk.2.2.1) (C.2.2.2.2.1 _ hk.2.2.2) (by rw [hR']; exact hR.1) (by rw [hR']; exact hR.2) (by rw [hR']; exact hc.1) (by rw [hR']; exact hc.2) hd ?_
  have e : (if gI b < gI a then gI b else gI a) = gI (min a b) := by
    by_cases h : b < a
    · rw [if_pos ((gI_lt hb ha).mpr h), Int.min_eq_right (by omega)]
    · rw [if_neg (mt (gI_lt hb ha).mp h), Int.min_eq_left (by omega)]
  rw [e]
  exact k ls H locs hl hw
/-- Object.<init> -/
theorem r_objInit (C : gOk X cc nL own R ret) {idx : Nat} (hk : Cond.methodLink own idx objectInit ∈ WS ∧ Cond.instanceMethod objectInit ∈ WS ∧ Cond.code objectInit ⟨#[0xb1]⟩ 1 none ∈ WS) (hd : decode cc pc = .ok (.invokespecial idx, 3)) {q : Nat} (hL : L.length = nL) (hR : 1 ≤ R.frames ∧ (st.map fun v => v.category).sum + 12 ≤ R.locals)
    (k : V X kc kn Q (pc + 3) L st ad N σ) : V X kc kn Q pc L (.ref q :: st) ad N σ := fun ls H locs hl hw => by
  have hR' := C.2.2.2.2.2.2.2.1
  refine W.objInit C.1 C.2.1 C.2.2.2.1 (C.2.2.2.2.1 _ hk.1) (C.2.2.2.2.1 _ hk.2.1) (C.2.2.2.2.1 _ hk.2.2) rfl (by rw [C.2.2.1]; exact hl.1.trans hL) rfl hd (by rw [hR']; exact hR.1) ?_ (k ls H locs hl hw)
  rw [hR', show 2 * (F0 (gmi X) pc ls (.ref q :: st)).monitorRoom = 0 from rfl, Nat.zero_add]
  exact hR.2
/-- behind a call -/
theorem g_back (C : gOk X cc nL own R ret) {post : gPost} {mc ms : Nat} {rest : List Value} {a : Array Value} {ls : Array Slot} {H : Heap} {locs : List Loc}
    (hr : va_Run (gpr X) (gln X) (gev X) (gRm X) (gst X) (gmi X) (gar X) (gbl X) (gme X) (gco X) H locs kc kn mc ms (F0 (gmi X) pc ls st) rest (gQc (gDD X) (gty X) (gA ad N H.size) post a) (gA ad N H.size)) (hl : lv_has ls L.length (lpos 0 L)) (hw : gWd X ad N σ H locs)
    (kk : ∀ (rv : Option Value) (ad' : Int → Nat) (N' : Int) (σ' : Int → va_E), post rv ad' N' σ' → V X (kc + mc) (kn + ms) Q (pc + 3) L (rv.toList ++ rest) ad' N' σ') : gW X H locs kc kn Q (F0 (gmi X) pc ls st) := by
  intro T hT X0
  obtain ⟨v, st₀, t, T', L1, h0, X', hL, e1, e2, ⟨⟨rv, ad', N', σ', hv, hp, hg, hin⟩, hz, hk⟩, stp⟩ := hr T hT X0
  cases hv
  rw [h0] at hz hk
  have hf := gA_free C.2.2.2.2.2.2.2.2.2.1 hw
  obtain ⟨t2, a1, b1⟩ := kk v ad' N' σ' hp ls T'.heap (locs ++ L1) hl
    ⟨by rw [e1]; exact hg.1, ⟨hg.2.2.1.1, fun k q hq => by
      obtain ⟨g1, g2⟩ := gl_of hq
      rw [g2]
      exact hf _ (hin k g1)⟩, ⟨Nat.le_trans hw.2.2.1 (by rw [e1]; exact hz), fun q h1 h2 => by rw [e1, hk q (Nat.lt_of_lt_of_le h1 hw.2.2.1) (fun z => h2 (hf q z))]; exact hw.2.2.2.1 q h1 h2, fun q hq => by
      rcases List.mem_append.mp hq with h | h
      · exact hw.2.2.2.2 q h
      · exact hf _ (hL q h)⟩⟩ T' rfl X'
  exact ⟨t2, stp t2 a1, b1⟩
theorem g_blind {av : List Value} {sz : Nat} {D : va_G} {ty : Nat → ClassId} : FrameBlind (va_Pc av (fun U => U.heap.size = sz ∧ gw D ty ad N σ U)) := fun a U g mk q => by
  obtain ⟨q0, q1, qP, qK, qD, qO, qO3, qN⟩ := q
  exact ⟨q0, q1, qP, va_K.moved (u := U) (U := U.calling g mk a) (Vm.Alike.refl U.vm) qK, qD, qO.moved (U := U.calling g mk a) (Vm.Alike.refl U.vm), qO3.moved (U := U.calling g mk a) (Vm.Alike.refl U.vm), gNs.same (U := U.calling g mk a) rfl qN⟩
theorem g_good {y : MethodName} {b : ByteArray} {n : Nat} {r : Option FieldType} (h : Cond.code y b n r ∈ WS) : GoodIn WS (Cond.code y b n r :: WS) := fun w hw => (List.mem_cons.mp hw).elim (fun e => by subst e; exact WS_good _ h) (WS_good w)
theorem g_pre {s U : State} {D : va_G} {ty : Nat → ClassId} {H : Heap} (hP : va_P D vwCl (gl ad N σ) H) (hD : ∃ A, va_D A (gl ad N σ)) (hK : va_K D vwCl (gtys ty) s) (hO : va_AO RX1 s ∧ va_AO RX3 s ∧ gNs s) (hU : U.heap = H) (hW : s.WarmedH U.vm) : U.heap.size = H.size ∧ gw D ty ad N σ U := by
  obtain ⟨A, hD⟩ := hD
  exact ⟨by rw [hU], by rw [hU]; exact hP, va_K.moved hW.alike hK, ⟨hD.1, fun _ _ _ => trivial⟩, hO.1.moved hW.alike, hO.2.1.moved hW.alike, hO.2.2.warm hW⟩
variable {idx nY np ci f0 lo : Nat} {y : MethodName} {cY : ByteArray} {rY : Option FieldType} {RY : Room} {As rest : List Value} {post : gPost} {fs : List Value}
theorem r_callV (C : gOk X cc nL own R ret) {CY : String} (w : gCV own idx CY y cY nY rY np) {b : Int} (hM : gMet (gln X) y cY nY rY RY (.ref (ad b) :: As) (gDD X) (gty X) ad N σ post) (hd : decode cc pc = .ok (.invokevirtual idx, 3)) (hst : st = As.reverse ++ .ref (ad b) :: rest) (hb : 0 ≤ b ∧ b < N) (hσ : σ b = .inr (ci, fs)) {T : u_T} {n : Nat} (hci : vwCl[ci]? = some (CY, T, n)) (hn : As.length = np) (hL : L.length = nL) (hW : (rest.map fun v => v.category).sum ≤ 8) (hR : RY.frames + 1 ≤ R.frames ∧ 8 + (nY + 11) + RY.locals ≤ R.locals) (hc : kc + RY.cells ≤ R.cells ∧ kn + RY.slots ≤ R.slots)
    (kk : ∀ (rv : Option Value) (ad' : Int → Nat) (N' : Int) (σ' : Int → va_E), post rv ad' N' σ' → V X (kc + RY.cells) (kn + RY.slots) Q (pc + 3) L (rv.toList ++ rest) ad' N' σ') : V X kc kn Q pc L st ad N σ := fun ls H locs hl hw => by
  have hR' := C.2.2.2.2.2.2.2.1
  have hts := C.2.2.2.2.1
  subst hst
  obtain ⟨w1, w2, w3, w4, w5, rfl, w7, w8, w9⟩ := w
  refine g_back C (va_runV (As := As) (rest := rest) ⟨C.1, C.2.1, C.2.2.1, C.2.2.2.1, hts⟩ (hM H.size) ⟨callB_of np hts (g_good w5) rfl rfl rfl (hts _ w4) (hts _ w1) ⟨w7, w8, w9⟩ (by rw [hR']; exact hR), hts _ w2, hts _ w3⟩ ⟨g_blind, ?_, fun U hU hW => ⟨rfl, g_pre hw.1 ⟨_, hw.2.1⟩ C.2.2.2.2.2.2.2.2.1 C.2.2.2.2.2.2.2.2.2.2 hU hW⟩⟩ rfl hn (hl.1.trans hL) rfl (lv_room hW) hd (by rw [hR']; exact hc)) hl hw kk
  exact va_recv (ci := ci) (q0 := b.toNat) C.2.2.2.2.2.2.2.2.1 hw.1 hci (by rw [gl_at hb, hσ])
theorem r_callS (C : gOk X cc nL own R ret) (w : gCS own idx y cY nY rY np) (hM : gMet (gln X) y cY nY rY RY As (gDD X) (gty X) ad N σ post) (hd : decode cc pc = .ok (.invokestatic idx, 3)) (hst : st = As.reverse ++ rest) (hn : As.length = np) (hL : L.length = nL) (hW : (rest.map fun v => v.category).sum ≤ 8) (hR : RY.frames + 1 ≤ R.frames ∧ 8 + (nY + 11) + RY.locals ≤ R.locals) (hc : kc + RY.cells ≤ R.cells ∧ kn + RY.slots ≤ R.slots)
    (kk : ∀ (rv : Option Value) (ad' : Int → Nat) (N' : Int) (σ' : Int → va_E), post rv ad' N' σ' → V X (kc + RY.cells) (kn + RY.slots) Q (pc + 3) L (rv.toList ++ rest) ad' N' σ') : V X kc kn Q pc L st ad N σ := fun ls H locs hl hw => by
  have hR' := C.2.2.2.2.2.2.2.1
  have hts := C.2.2.2.2.1
  subst hst
  obtain ⟨w1, w2, w4, w5, w7, w8, w9⟩ := w
  exact g_back C (va_runS (As := As) (rest := rest) ⟨C.1, C.2.1, C.2.2.1, C.2.2.2.1, hts⟩ (hM H.size) ⟨callB_of np hts (g_good w5) rfl rfl rfl (hts _ w4) (hts _ w1) ⟨w7, w8, w9⟩ (by rw [hR']; exact hR), hts _ w2⟩ ⟨g_blind, fun U hU hW => ⟨rfl, g_pre hw.1 ⟨_, hw.2.1⟩ C.2.2.2.2.2.2.2.2.1 C.2.2.2.2.2.2.2.2.2.2 hU hW⟩⟩ rfl hn (hl.1.trans hL) rfl (lv_room hW) hd (by rw [hR']; exact hc)) hl hw kk
theorem r_callI (C : gOk X cc nL own R ret) (w : gCI own idx y cY nY np) {q : Nat} (hM : gMet (gln X) y cY nY none RY (.ref q :: As) (gDD X) (gty X) ad N σ post) (hd : decode cc pc = .ok (.invokespecial idx, 3)) (hst : st = As.reverse ++ .ref q :: rest) (hn : As.length = np) (hL : L.length = nL) (hW : (rest.map fun v => v.category).sum ≤ 8) (hR : RY.frames + 1 ≤ R.frames ∧ 8 + (nY + 11) + RY.locals ≤ R.locals) (hc : kc + RY.cells ≤ R.cells ∧ kn + RY.slots ≤ R.slots)
    (kk : ∀ (rv : Option Value) (ad' : Int → Nat) (N' : Int) (σ' : Int → va_E), post rv ad' N' σ' → V X (kc + RY.cells) (kn + RY.slots) Q (pc + 3) L (rv.toList ++ rest) ad' N' σ') : V X kc kn Q pc L st ad N σ := fun ls H locs hl hw => by
  have hR' := C.2.2.2.2.2.2.2.1
  have hts := C.2.2.2.2.1
  subst hst
  obtain ⟨w1, w2, w4, w5, w6, w7, w8, w9⟩ := w
  exact g_back C (va_runI (As := As) (rest := rest) ⟨C.1, C.2.1, C.2.2.1, C.2.2.2.1, hts⟩ (hM H.size) ⟨callB_of np hts (g_good w5) rfl rfl rfl (hts _ w4) (hts _ w1) ⟨w7, w8, w9⟩ (by rw [hR']; exact hR), w6, hts _ w2⟩ ⟨g_blind, fun U hU hW => ⟨rfl, g_pre hw.1 ⟨_, hw.2.1⟩ C.2.2.2.2.2.2.2.2.1 C.2.2.2.2.2.2.2.2.2.2 hU hW⟩⟩ rfl hn (hl.1.trans hL) rfl (lv_room hW) hd (by rw [hR']; exact hc)) hl hw kk
/-- calls of methods that make nothing, with one answer -/
theorem r_cV (C : gOk X cc nL own R ret) {CY : String} (w : gCV own idx CY y cY nY rY np) {b : Int} {v : Value} {σ' : Int → va_E} (hM : gM0 (gln X) y cY nY rY f0 lo (.ref (ad b) :: As) (gDD X) (gty X) ad N σ (some v) σ') (hd : decode cc pc = .ok (.invokevirtual idx, 3)) (hst : st = As.reverse ++ .ref (ad b) :: rest) (hb : 0 ≤ b ∧ b < N) (hσ : σ b = .inr (ci, fs)) {T : u_T} {n : Nat} (hci : vwCl[ci]? = some (CY, T, n)) (hn : As.length = np) (hL : L.length = nL) (hW : (rest.map fun v => v.category).sum ≤ 8) (hR : f0 + 1 ≤ R.frames ∧ 8 + (nY + 11) + lo ≤ R.locals) (hc : kc ≤ R.cells ∧ kn ≤ R.slots)
    (k : V X kc kn Q (pc + 3) L (v :: rest) ad N σ') : V X kc kn Q pc L st ad N σ :=
  r_callV C w hM hd hst hb hσ hci hn hL hW hR hc (fun rv ad' N' σ2 h => by obtain ⟨rfl, rfl, rfl, rfl⟩ := h; exact k)
theorem r_cVv (C : gOk X cc nL own R ret) {CY : String} (w : gCV own idx CY y cY nY rY np) {b : Int} {σ' : Int → va_E} (hM : gM0 (gln X) y cY nY rY f0 lo (.ref (ad b) :: As) (gDD X) (gty X) ad N σ none σ') (hd : decode cc pc = .ok (.invokevirtual idx, 3)) (hst : st = As.reverse ++ .ref (ad b) :: rest) (hb : 0 ≤ b ∧ b < N) (hσ : σ b = .inr (ci, fs)) {T : u_T} {n : Nat} (hci : vwCl[ci]? = some (CY, T, n)) (hn : As.length = np) (hL : L.length = nL) (hW : (rest.map fun v => v.category).sum ≤ 8) (hR : f0 + 1 ≤ R.frames ∧ 8 + (nY + 11) + lo ≤ R.locals) (hc : kc ≤ R.cells ∧ kn ≤ R.slots)
    (k : V X kc kn Q (pc + 3) L rest ad N σ') : V X kc kn Q pc L st ad N σ :=
  r_callV C w hM hd hst hb hσ hci hn hL hW hR hc (fun rv ad' N' σ2 h => by obtain ⟨rfl, rfl, rfl, rfl⟩ := h; exact k)
theorem r_cS (C : gOk X cc nL own R ret) (w : gCS own idx y cY nY rY np) {v : Value} {σ' : Int → va_E} (hM : gM0 (gln X) y cY nY rY f0 lo As (gDD X) (gty X) ad N σ (some v) σ') (hd : decode cc pc = .ok (.invokestatic idx, 3)) (hst : st = As.reverse ++ rest) (hn : As.length = np) (hL : L.length = nL) (hW : (rest.map fun v => v.category).sum ≤ 8) (hR : f0 + 1 ≤ R.frames ∧ 8 + (nY + 11) + lo ≤ R.locals) (hc : kc ≤ R.cells ∧ kn ≤ R.slots)
    (k : V X kc kn Q (pc + 3) L (v :: rest) ad N σ') : V X kc kn Q pc L st ad N σ :=
  r_callS C w hM hd hst hn hL hW hR hc (fun rv ad' N' σ2 h => by obtain ⟨rfl, rfl, rfl, rfl⟩ := h; exact k)
theorem r_cSv (C : gOk X cc nL own R ret) (w : gCS own idx y cY nY rY np) {σ' : Int → va_E} (hM : gM0 (gln X) y cY nY rY f0 lo As (gDD X) (gty X) ad N σ none σ') (hd : decode cc pc = .ok (.invokestatic idx, 3)) (hst : st = As.reverse ++ rest) (hn : As.length = np) (hL : L.length = nL) (hW : (rest.map fun v => v.category).sum ≤ 8) (hR : f0 + 1 ≤ R.frames ∧ 8 + (nY + 11) + lo ≤ R.locals) (hc : kc ≤ R.cells ∧ kn ≤ R.slots)
    (k : V X kc kn Q (pc + 3) L rest ad N σ') : V X kc kn Q pc L st ad N σ :=
  r_callS C w hM hd hst hn hL hW hR hc (fun rv ad' N' σ2 h => by obtain ⟨rfl, rfl, rfl, rfl⟩ := h; exact k)
/-- the static method of the nest's host -/
theorem r_cSN (C : gOk X cc nL own R ret) {host : String} (hk : va_Nw (.methodLinkNest own idx y host) (gst X)) (w : Cond.static y ∈ WS ∧ Cond.initialized y.cls ∈ WS ∧ Cond.code y cY nY rY ∈ WS ∧ y.cls ≠ "java/lang/invoke/MethodHandle" ∧ y.cls ≠ "java/lang/invoke/VarHandle" ∧ (parseMethodDescriptor y.desc).map (fun d => d.parameters.length) = some np) {v : Value} {σ' : Int → va_E} (hM : gM0 (gln X) y cY nY rY f0 lo As (gDD X) (gty X) ad N σ (some v) σ') (hd : decode cc pc = .ok (.invokestatic idx, 3)) (hst : st = As.reverse ++ rest) (hn : As.length = np) (hL : L.length = nL) (hW : (rest.map fun v => v.category).sum ≤ 8) (hR : f0 + 1 ≤ R.frames ∧ 8 + (nY + 11) + lo ≤ R.locals) (hc : kc ≤ R.cells ∧ kn ≤ R.slots)
    (k : V X kc kn Q (pc + 3) L (v :: rest) ad N σ') : V X kc kn Q pc L st ad N σ := fun ls H locs hl hw => by
  have hR' := C.2.2.2.2.2.2.2.1
  have hts := C.2.2.2.2.1
  subst hst
  obtain ⟨w2, w4, w5, w7, w8, w9⟩ := w
  exact g_back C (va_runSN (host := host) (As := As) (rest := rest) ⟨C.1, C.2.1, C.2.2.1, C.2.2.2.1, hts⟩ (hM H.size) ⟨va_cnB np hts (g_good w5) rfl rfl rfl hk (hts _ w4) ⟨w7, w8, w9⟩ (by rw [hR']; exact hR), hts _ w2, trivial⟩ ⟨g_blind, fun U hU hW => ⟨rfl, g_pre hw.1 ⟨_, hw.2.1⟩ C.2.2.2.2.2.2.2.2.1 C.2.2.2.2.2.2.2.2.2.2 hU hW⟩⟩ rfl hn (hl.1.trans hL) rfl (lv_room hW) hd (by rw [hR']; exact hc)) hl hw (fun rv ad' N' σ2 h => by obtain ⟨rfl, rfl, rfl, rfl⟩ := h; exact k)
/-- making -/
theorem r_new (C : gOk X cc nL own R ret) {idx ci n : Nat} {CN : String} {T : u_T} {ty : Nat → FieldType} (hin : ∀ w ∈ u_ws CN T n, w ∈ WS) (hty : ∀ k, k < n → parseFieldDescriptor (T k).2.2.1 = some (ty k)) (hk : Cond.classLink own idx CN ∈ WS ∧ Cond.instantiable CN n ∈ WS ∧ Cond.initialized CN ∈ WS) (hci : vwCl[ci]? = some (CN, T, n)) (hd : decode cc pc = .ok (.new idx, 3)) {fs : List Value} (hfs : ∀ j, j < n → defaultValue (ty j) = vp_V fs j) (hN : 0 ≤ N) (hc : kc + 1 ≤ R.cells ∧ kn + n ≤ R.slots)
    (k : ∀ q : Nat, V X (kc + 1) (kn + n) Q (pc + 3) L (.ref q :: st) (up ad N q) (N + 1) (up σ N (.inr (ci, fs)))) : V X kc kn Q pc L st ad N σ := fun ls H locs hl hw => by
  have hR' := C.2.2.2.2.2.2.2.1
  have hts := C.2.2.2.2.1
  refine va_new C.1 C.2.1 (Ts := WS) hts hin ty hty C.2.2.2.1 (hts _ hk.1) (hts _ hk.2.1) (hts _ hk.2.2) C.2.2.2.2.2.2.2.2.1 hw.1 hw.2.1 hw.2.2 C.2.2.2.2.2.2.2.2.2.1 hci hfs (by rw [hR']; exact hc.1) (by rw [hR']; exact hc.2) hd (fun q H1 hP hD hS => ?_)
  rw [gl_push hN] at hP hD
  exact k q ls H1 locs hl ⟨hP, hD, hS⟩
theorem r_newI (C : gOk X cc nL own R ret) (hk : Cond.arrayClass .int ∈ WS) (hd : decode cc pc = .ok (.newarray .int, 2)) {n : Nat} (hn : n < 100000) (hN : 0 ≤ N) (hc : kc + 1 ≤ R.cells ∧ kn + n ≤ R.slots)
    (k : ∀ q : Nat, V X (kc + 1) (kn + n) Q (pc + 2) L (.ref q :: st) (up ad N q) (N + 1) (up σ N (gAr (gty X 0) n (fun _ => 0)))) : V X kc kn Q pc L (.int (gI n) :: st) ad N σ := fun ls H locs hl hw => by
  have hR' := C.2.2.2.2.2.2.2.1
  have hts := C.2.2.2.2.1
  have hK := C.2.2.2.2.2.2.2.2.1
  refine va_newa (atype := .int) (ty := .int) (N' := n) (a0 := (n, .inl (fun j => if j < n then gI 0 else 0))) C.1 C.2.1 (hts _ hk) rfl hK hw.1 hw.2.1 hw.2.2 C.2.2.2.2.2.2.2.2.2.1 (fun cA => by rw [vp_cell_i, gI_0]; simp only [ite_self]; rfl) (by rw [← gI_0, gI_lt (by omega) (by omega)]; omega) (by rw [gI_clamp (by omega)]; rfl) (by show n * 4 ≤ _; omega) (by rw [hR']; exact hc.1) (by rw [hR']; exact hc.2) hd (fun q cA H1 hK1 hP hD hS => ?_)
  have e : cA = gty X 0 := by
    have h1 := (hK.2 0 _ rfl).2
    have h2 := (hK1.2 5 (cA, .int) rfl).2
    exact Option.some.inj (h2.symm.trans h1)
  rw [gl_push hN, e] at hP hD
  exact k q ls H1 locs hl ⟨hP, hD, hS⟩
theorem r_newC (C : gOk X cc nL own R ret) (hk : Cond.arrayClass .char ∈ WS) (hd : decode cc pc = .ok (.newarray .char, 2)) {n : Nat} (hn : n < 100000) (hN : 0 ≤ N) (hc : kc + 1 ≤ R.cells ∧ kn + n ≤ R.slots)
    (k : ∀ q : Nat, V X (kc + 1) (kn + n) Q (pc + 2) L (.ref q :: st) (up ad N q) (N + 1) (up σ N (gAr (gty X 1) n (fun _ => 0)))) : V X kc kn Q pc L (.int (gI n) :: st) ad N σ := fun ls H locs hl hw => by
  have hR' := C.2.2.2.2.2.2.2.1
  have hts := C.2.2.2.2.1
  have hK := C.2.2.2.2.2.2.2.2.1
  refine va_newa (atype := .char) (ty := .char) (N' := n) (a0 := (n, .inl (fun j => if j < n then gI 0 else 0))) C.1 C.2.1 (hts _ hk) rfl hK hw.1 hw.2.1 hw.2.2 C.2.2.2.2.2.2.2.2.2.1 (fun cA => by rw [vp_cell_i, gI_0]; simp only [ite_self]; rfl) (by rw [← gI_0, gI_lt (by omega) (by omega)]; omega) (by rw [gI_clamp (by omega)]; rfl) (by show n * 2 ≤ _; omega) (by rw [hR']; exact hc.1) (by rw [hR']; exact hc.2) hd (fun q cA H1 hK1 hP hD hS => ?_)
  have e : cA = gty X 1 := by
    have h1 := (hK.2 1 _ rfl).2
    have h2 := (hK1.2 5 (cA, .char) rfl).2
    exact Option.some.inj (h2.symm.trans h1)
  rw [gl_push hN, e] at hP hD
  exact k q ls H1 locs hl ⟨hP, hD, hS⟩
theorem r_newRooms (C : gOk X cc nL own R ret) {idx : Nat} (hk : Cond.classLink own idx RX1 ∈ WS) (hd : decode cc pc = .ok (.anewarray idx, 3)) {n : Nat} (hn : n < 100000) (hN : 0 ≤ N) (hc : kc + 1 ≤ R.cells ∧ kn + n ≤ R.slots)
    (k : ∀ q : Nat, V X (kc + 1) (kn + n) Q (pc + 3) L (.ref q :: st) (up ad N q) (N + 1) (up σ N (gRA (gty X 3) n (fun _ => none)))) : V X kc kn Q pc L (.int (gI n) :: st) ad N σ := fun ls H locs hl hw => by
  have hR' := C.2.2.2.2.2.2.2.1
  have hts := C.2.2.2.2.1
  have hK := C.2.2.2.2.2.2.2.2.1
  refine va_newq (C := RX1) (N' := n) C.1 C.2.1 C.2.2.2.1 (hts _ hk) C.2.2.2.2.2.2.2.2.2.2.1 hK hw.1 hw.2.1 hw.2.2 C.2.2.2.2.2.2.2.2.2.1 (by rw [← gI_0, gI_lt (by omega) (by omega)]; omega) (by rw [gI_clamp (by omega)]; rfl) (by omega) (by rw [hR']; exact hc.1) (by rw [hR']; exact hc.2) hd (fun q cA H1 hK1 hP hD hS => ?_)
  have e : cA = gty X 3 := by
    obtain ⟨-, -, -, -, -, h1⟩ := (hK.2 3 _ rfl).2
    obtain ⟨-, -, -, -, -, h2⟩ := (hK1.2 5 (cA, .object RX1) rfl).2
    exact Option.some.inj (h2.symm.trans h1)
  rw [gl_push hN, e] at hP hD
  exact k q ls H1 locs hl ⟨hP, hD, hS⟩
theorem r_newStores (C : gOk X cc nL own R ret) {idx : Nat} (hk : Cond.classLink own idx RX3 ∈ WS) (hd : decode cc pc = .ok (.anewarray idx, 3)) {n : Nat} (hn : n < 100000) (hN : 0 ≤ N) (hc : kc + 1 ≤ R.cells ∧ kn + n ≤ R.slots)
    (k : ∀ q : Nat, V X (kc + 1) (kn + n) Q (pc + 3) L (.ref q :: st) (up ad N q) (N + 1) (up σ N (gRA (gty X 4) n (fun _ => none)))) : V X kc kn Q pc L (.int (gI n) :: st) ad N σ := fun ls H locs hl hw => by
  have hR' := C.2.2.2.2.2.2.2.1
  have hts := C.2.2.2.2.1
  have hK := C.2.2.2.2.2.2.2.2.1
  refine va_newq (C := RX3) (N' := n) C.1 C.2.1 C.2.2.2.1 (hts _ hk) C.2.2.2.2.2.2.2.2.2.2.2.1 hK hw.1 hw.2.1 hw.2.2 C.2.2.2.2.2.2.2.2.2.1 (by rw [← gI_0, gI_lt (by omega) (by omega)]; omega) (by rw [gI_clamp (by omega)]; rfl) (by omega) (by rw [hR']; exact hc.1) (by rw [hR']; exact hc.2) hd (fun q cA H1 hK1 hP hD hS => ?_)
  have e : cA = gty X 4 := by
    obtain ⟨-, -, -, -, -, h1⟩ := (hK.2 4 _ rfl).2
    obtain ⟨-, -, -, -, -, h2⟩ := (hK1.2 5 (cA, .object RX3) rfl).2
    exact Option.some.inj (h2.symm.trans h1)
  rw [gl_push hN, e] at hP hD
  exact k q ls H1 locs hl ⟨hP, hD, hS⟩
end HEAP
end
section
/-! the worlds of the two systems: a room, a store, an array of the reference -/
def rF (ad : Int → Nat) (k : Int) (ρ : Int → Int) : List Value := [.ref (ad (k + 1)), .ref (ad (k + 2)), .int (gI (ρ 6)), .int (gI (ρ 0)), .int (gI (ρ 1)), .int (gI (ρ 2)), .int (gI (ρ 3)), .int (gI (ρ 5)), .int (gI (ρ 4))]
/-- a room at k, its keys at k + 1, its things' beats at k + 2 -/
def rput (ad : Int → Nat) (ty : Nat → ClassId) (σ : Int → va_E) (k : Int) (ρ : Int → Int) : Int → va_E := fun q =>
  if q = k then .inr (1, rF ad k ρ) else if q = k + 1 then gAr (ty 0) 4 (fun i => ρ (7 + i)) else if q = k + 2 then gAr (ty 0) 4 (fun i => ρ (11 + i)) else σ q
/-- which of a room's numbers a field is -/
def rj : Nat → Int
  | 2 => 6
  | 3 => 0
  | 4 => 1
  | 5 => 2
  | 6 => 3
  | 7 => 5
  | _ => 4
section TYPED
variable {ad : Int → Nat} {ty : Nat → ClassId} {σ : Int → va_E} {k b : Int} {ρ s : Int → Int}
theorem rput_0 : rput ad ty σ k ρ k = .inr (1, rF ad k ρ) := if_pos rfl
theorem rput_1 : rput ad ty σ k ρ (k + 1) = gAr (ty 0) 4 (fun i => ρ (7 + i)) := by
  unfold rput; rw [if_neg (by omega), if_pos rfl]
theorem rput_2 : rput ad ty σ k ρ (k + 2) = gAr (ty 0) 4 (fun i => ρ (11 + i)) := by
  unfold rput; rw [if_neg (by omega), if_neg (by omega), if_pos rfl]
theorem rput_x {q : Int} (h : q < k ∨ k + 2 < q) : rput ad ty σ k ρ q = σ q := by
  unfold rput; rw [if_neg (by omega), if_neg (by omega), if_neg (by omega)]
/-- two rooms that hold the same -/
theorem rput_ext {ρ' : Int → Int} (h : ∀ j : Int, 0 ≤ j → j < 15 → ρ j = ρ' j) : rput ad ty σ k ρ = rput ad ty σ k ρ' := by
  funext q
  unfold rput
  split
  · unfold rF; rw [h 6 (by omega) (by omega), h 0 (by omega) (by omega), h 1 (by omega) (by omega), h 2 (by omega) (by omega), h 3 (by omega) (by omega), h 5 (by omega) (by omega), h 4 (by omega) (by omega)]
  · split
    · exact gAr_ext fun j h1 h2 => h _ (by omega) (by omega)
    · split
      · exact gAr_ext fun j h1 h2 => h _ (by omega) (by omega)
      · rfl
theorem rput_up (f : Nat) (hf : 2 ≤ f ∧ f < 9) (z : Int) : up (rput ad ty σ k ρ) k (.inr (1, (rF ad k ρ).set f (.int (gI z)))) = rput ad ty σ k (up ρ (rj f) z) := by
  have hj : rj f < 7 := by
    obtain ⟨h1, h2⟩ := hf
    rcases (show f = 2 ∨ f = 3 ∨ f = 4 ∨ f = 5 ∨ f = 6 ∨ f = 7 ∨ f = 8 by omega) with rfl | rfl | rfl | rfl | rfl | rfl | rfl <;> decide
  funext q
  by_cases h0 : q = k
  · subst h0
    rw [up_s, rput_0]
    obtain ⟨h1, h2⟩ := hf
    rcases (show f = 2 ∨ f = 3 ∨ f = 4 ∨ f = 5 ∨ f = 6 ∨ f = 7 ∨ f = 8 by omega) with rfl | rfl | rfl | rfl | rfl | rfl | rfl <;> simp [rF, rj, up]
  · rw [up_n h0]
    unfold rput
    rw [if_neg h0, if_neg h0]
    split
    · exact gAr_ext fun j h1 h2 => (up_n (by omega)).symm
    · split
      · exact gAr_ext fun j h1 h2 => (up_n (by omega)).symm
      · rfl
theorem rput_u1 {i : Int} (hi : 0 ≤ i ∧ i < 4) (z : Int) : up (rput ad ty σ k ρ) (k + 1) (gAr (ty 0) 4 (up (fun i => ρ (7 + i)) i z)) = rput ad ty σ k (up ρ (7 + i) z) := by
  funext q
  by_cases h1 : q = k + 1
  · subst h1
    rw [up_s, rput_1]
    refine gAr_ext fun j h1 h2 => ?_
    unfold up
    by_cases h : j = i
    · rw [if_pos h, if_pos (by omega)]
    · rw [if_neg h, if_neg (by omega)]
  · rw [up_n h1]
    unfold rput
    rw [if_neg h1, if_neg h1]
    split
    · unfold rF
      repeat rw [up_n (by omega)]
    · split
      · exact gAr_ext fun j h1 h2 => (up_n (by omega)).symm
      · rfl
theorem rput_u2 {i : Int} (hi : 0 ≤ i ∧ i < 4) (z : Int) : up (rput ad ty σ k ρ) (k + 2) (gAr (ty 0) 4 (up (fun i => ρ (11 + i)) i z)) = rput ad ty σ k (up ρ (11 + i) z) := by
  funext q
  by_cases h1 : q = k + 2
  · subst h1
    rw [up_s, rput_2]
    refine gAr_ext fun j h1 h2 => ?_
    unfold up
    by_cases h : j = i
    · rw [if_pos h, if_pos (by omega)]
    · rw [if_neg h, if_neg (by omega)]
  · rw [up_n h1]
    unfold rput
    rw [if_neg h1, if_neg h1]
    split
    · unfold rF
      repeat rw [up_n (by omega)]
    · split
      · exact gAr_ext fun j h1 h2 => (up_n (by omega)).symm
      · rfl
theorem rput_rput {ρ' : Int → Int} : rput ad ty (rput ad ty σ k ρ) k ρ' = rput ad ty σ k ρ' := by
  funext q
  unfold rput
  split
  · rfl
  · split
    · rfl
    · split <;> rfl
end TYPED
section TYPEDROWS
variable {X : gT} {cc : ByteArray} {nL : Nat} {own : String} {R : Room} {ret : Option FieldType} {kc kn : Nat} {Q : State → Prop} {pc : Nat} {L : List (Option Value)} {st : List Value} {ad : Int → Nat} {N : Int} {σ : Int → va_E} {k i z : Int} {ρ s : Int → Int} {idx f : Nat}
theorem rr_get (C : gOk X cc nL own R ret) (fl : gFL own idx 1 f RX1 TX1 9 tyX1) (hd : decode cc pc = .ok (.getfield idx, 3)) (hk : 0 ≤ k ∧ k + 3 ≤ N) {v : Value} (hv : (rF ad k ρ)[f]? = some v)
    (kk : V X kc kn Q (pc + 3) L (v :: st) ad N (rput ad (gty X) σ k ρ)) : V X kc kn Q pc L (.ref (ad k) :: st) ad N (rput ad (gty X) σ k ρ) := r_get C fl hd (by omega) rput_0 hv kk
theorem rr_put (C : gOk X cc nL own R ret) (fl : gFL own idx 1 f RX1 TX1 9 tyX1) (hd : decode cc pc = .ok (.putfield idx, 3)) {j : Int} (hk : 0 ≤ k ∧ k + 3 ≤ N) (hf : 2 ≤ f ∧ f < 9) (hj : rj f = j) (hfin : (TX1 f).2.2.2 = false) (hn : narrow (tyX1 f) (.int (gI z)) = .int (gI z)) (hfit : fits (tyX1 f) (.int (gI z)) = true)
    (kk : V X kc kn Q (pc + 3) L st ad N (rput ad (gty X) σ k (up ρ j z))) : V X kc kn Q pc L (.int (gI z) :: .ref (ad k) :: st) ad N (rput ad (gty X) σ k ρ) := r_put C fl hd (by omega) rput_0 hfin hn hfit hf.2 (by rw [rput_up f hf, hj]; exact kk)
theorem rr_kld (C : gOk X cc nL own R ret) (hd : decode cc pc = .ok (.iaload, 1)) (hk : 0 ≤ k ∧ k + 3 ≤ N) (hi : 0 ≤ i ∧ i < 4)
    (kk : V X kc kn Q (pc + 1) L (.int (gI (ρ (7 + i))) :: st) ad N (rput ad (gty X) σ k ρ)) : V X kc kn Q pc L (.int (gI i) :: .ref (ad (k + 1)) :: st) ad N (rput ad (gty X) σ k ρ) := r_iald C hd (by omega) rput_1 hi (by omega) kk
theorem rr_dld (C : gOk X cc nL own R ret) (hd : decode cc pc = .ok (.iaload, 1)) (hk : 0 ≤ k ∧ k + 3 ≤ N) (hi : 0 ≤ i ∧ i < 4)
    (kk : V X kc kn Q (pc + 1) L (.int (gI (ρ (11 + i))) :: st) ad N (rput ad (gty X) σ k ρ)) : V X kc kn Q pc L (.int (gI i) :: .ref (ad (k + 2)) :: st) ad N (rput ad (gty X) σ k ρ) := r_iald C hd (by omega) rput_2 hi (by omega) kk
theorem rr_kst (C : gOk X cc nL own R ret) (hd : decode cc pc = .ok (.iastore, 1)) (hk : 0 ≤ k ∧ k + 3 ≤ N) (hi : 0 ≤ i ∧ i < 4)
    (kk : V X kc kn Q (pc + 1) L st ad N (rput ad (gty X) σ k (up ρ (7 + i) z))) : V X kc kn Q pc L (.int (gI z) :: .int (gI i) :: .ref (ad (k + 1)) :: st) ad N (rput ad (gty X) σ k ρ) := r_iast C hd (by omega) rput_1 hi (by omega) (by rw [rput_u1 hi]; exact kk)
theorem rr_dst (C : gOk X cc nL own R ret) (hd : decode cc pc = .ok (.iastore, 1)) (hk : 0 ≤ k ∧ k + 3 ≤ N) (hi : 0 ≤ i ∧ i < 4)
    (kk : V X kc kn Q (pc + 1) L st ad N (rput ad (gty X) σ k (up ρ (11 + i) z))) : V X kc kn Q pc L (.int (gI z) :: .int (gI i) :: .ref (ad (k + 2)) :: st) ad N (rput ad (gty X) σ k ρ) := r_iast C hd (by omega) rput_2 hi (by omega) (by rw [rput_u2 hi]; exact kk)
theorem up_ap {α : Type} (f : Int → α) (k : Int) (v : α) (j : Int) : up f k v j = if j = k then v else f j := rfl
theorem gI_z {z : Int} (h : z = 0 ∨ z = 1) : narrow .boolean (.int (gI z)) = .int (gI z) := by rcases h with h | h <;> subst h <;> rfl
theorem gI_f {z : Int} (h : z = 0 ∨ z = 1) : fits .boolean (.int (gI z)) = true := by rcases h with h | h <;> subst h <;> rfl
/-- the ends of contracts with one answer -/
theorem r_iretD {z0 : Int} {σ' : Int → va_E} (C : gOk X cc nL own R (some .int)) (hd : decode cc pc = .ok (.ireturn, 1)) (e : z = z0) (es : σ = σ') : V X 0 0 (gQ X (gD (some (.int (gI z0))) ad N σ') 0 0) pc L [.int (gI z)] ad N σ := r_iret C hd ⟨by rw [e], rfl, rfl, es⟩ (Nat.le_refl _) (Nat.le_refl _)
theorem r_zretD {z0 : Int} {σ' : Int → va_E} (C : gOk X cc nL own R (some .boolean)) (hd : decode cc pc = .ok (.ireturn, 1)) (hz : z = 0 ∨ z = 1) (e : z = z0) (es : σ = σ') : V X 0 0 (gQ X (gD (some (.int (gI z0))) ad N σ') 0 0) pc L [.int (gI z)] ad N σ := r_zret C hd hz ⟨by rw [e], rfl, rfl, es⟩ (Nat.le_refl _) (Nat.le_refl _)
theorem r_vretD {σ' : Int → va_E} (C : gOk X cc nL own R none) (hd : decode cc pc = .ok (.return_, 1)) (es : σ = σ') : V X 0 0 (gQ X (gD none ad N σ') 0 0) pc L [] ad N σ := r_vret C hd ⟨rfl, rfl, rfl, es⟩ (Nat.le_refl _) (Nat.le_refl _)
theorem r_lretD {x x0 : Int64} {σ' : Int → va_E} (C : gOk X cc nL own R (some .long)) (hd : decode cc pc = .ok (.lreturn, 1)) (e : x = x0) (es : σ = σ') : V X 0 0 (gQ X (gD (some (.long x0)) ad N σ') 0 0) pc L [.long x] ad N σ := r_lret C hd ⟨by rw [e], rfl, rfl, es⟩ (Nat.le_refl _) (Nat.le_refl _)
theorem r_dretD {x x0 : UInt64} {σ' : Int → va_E} (C : gOk X cc nL own R (some .double)) (hd : decode cc pc = .ok (.dreturn, 1)) (e : x = x0) (es : σ = σ') : V X 0 0 (gQ X (gD (some (.double x0)) ad N σ') 0 0) pc L [.double x] ad N σ := r_dret C hd ⟨by rw [e], rfl, rfl, es⟩ (Nat.le_refl _) (Nat.le_refl _)
theorem r_aretD {x x0 : Nat} {rc : String} {σ' : Int → va_E} (C : gOk X cc nL own R (some (.object rc))) (hd : decode cc pc = .ok (.areturn, 1)) (e : x = x0) (es : σ = σ') : V X 0 0 (gQ X (gD (some (.ref x0)) ad N σ') 0 0) pc L [.ref x] ad N σ := r_aret C hd ⟨by rw [e], rfl, rfl, es⟩ (Nat.le_refl _) (Nat.le_refl _)
end TYPEDROWS
end
section
/-! words: Object.<init>, arraycopy, makings, constants (printed by program) -/
theorem knX2_9 : Cond.classLink RX2 9 RX3 ∈ WS ∧ Cond.instantiable RX3 10 ∈ WS ∧ Cond.initialized RX3 ∈ WS := ⟨gws 120 (by decide +kernel) (by decide +kernel), gws 25 (by decide +kernel) (by decide +kernel), kiRX3⟩
theorem knX3_9 : Cond.classLink RX3 9 RX1 ∈ WS ∧ Cond.instantiable RX1 9 ∈ WS ∧ Cond.initialized RX1 ∈ WS := ⟨gws 30 (by decide +kernel) (by decide +kernel), gws 32 (by decide +kernel) (by decide +kernel), kiRX1⟩
theorem knX4_16 : Cond.classLink RX4 16 RX2 ∈ WS ∧ Cond.instantiable RX2 2 ∈ WS ∧ Cond.initialized RX2 ∈ WS := ⟨gws 114 (by decide +kernel) (by decide +kernel), gws 115 (by decide +kernel) (by decide +kernel), kiRX2⟩
theorem knX4_23 : Cond.classLink RX4 23 RX0 ∈ WS ∧ Cond.instantiable RX0 2 ∈ WS ∧ Cond.initialized RX0 ∈ WS := ⟨gws 131 (by decide +kernel) (by decide +kernel), gws 132 (by decide +kernel) (by decide +kernel), kiRX0⟩
theorem knX4_7 : Cond.classLink RX4 7 RX3 ∈ WS ∧ Cond.instantiable RX3 10 ∈ WS ∧ Cond.initialized RX3 ∈ WS := ⟨gws 24 (by decide +kernel) (by decide +kernel), gws 25 (by decide +kernel) (by decide +kernel), kiRX3⟩
theorem knL_10 : Cond.classLink RL 10 RX4 ∈ WS ∧ Cond.instantiable RX4 3 ∈ WS ∧ Cond.initialized RX4 ∈ WS := ⟨gws 16 (by decide +kernel) (by decide +kernel), gws 17 (by decide +kernel) (by decide +kernel), kiRX4⟩
theorem koX0_3 : Cond.methodLink RX0 3 objectInit ∈ WS ∧ Cond.instanceMethod objectInit ∈ WS ∧ Cond.code objectInit ⟨#[0xb1]⟩ 1 none ∈ WS := ⟨gws 136 (by decide +kernel) (by decide +kernel), gws 22 (by decide +kernel) (by decide +kernel), gws 23 (by decide +kernel) (by decide +kernel)⟩
theorem kaX1_26 : Cond.methodLink RX1 26 arraycopyName ∈ WS ∧ Cond.native arraycopyName ∈ WS ∧ Cond.static arraycopyName ∈ WS ∧ Cond.initialized "java/lang/System" ∈ WS := ⟨gws 242 (by decide +kernel) (by decide +kernel), gws 244 (by decide +kernel) (by decide +kernel), gws 243 (by decide +kernel) (by decide +kernel), kiSystem⟩
theorem koX1_3 : Cond.methodLink RX1 3 objectInit ∈ WS ∧ Cond.instanceMethod objectInit ∈ WS ∧ Cond.code objectInit ⟨#[0xb1]⟩ 1 none ∈ WS := ⟨gws 36 (by decide +kernel) (by decide +kernel), gws 22 (by decide +kernel) (by decide +kernel), gws 23 (by decide +kernel) (by decide +kernel)⟩
theorem koX2_3 : Cond.methodLink RX2 3 objectInit ∈ WS ∧ Cond.instanceMethod objectInit ∈ WS ∧ Cond.code objectInit ⟨#[0xb1]⟩ 1 none ∈ WS := ⟨gws 119 (by decide +kernel) (by decide +kernel), gws 22 (by decide +kernel) (by decide +kernel), gws 23 (by decide +kernel) (by decide +kernel)⟩
theorem koX3_3 : Cond.methodLink RX3 3 objectInit ∈ WS ∧ Cond.instanceMethod objectInit ∈ WS ∧ Cond.code objectInit ⟨#[0xb1]⟩ 1 none ∈ WS := ⟨gws 29 (by decide +kernel) (by decide +kernel), gws 22 (by decide +kernel) (by decide +kernel), gws 23 (by decide +kernel) (by decide +kernel)⟩
theorem koX4_1 : Cond.methodLink RX4 1 objectInit ∈ WS ∧ Cond.instanceMethod objectInit ∈ WS ∧ Cond.code objectInit ⟨#[0xb1]⟩ 1 none ∈ WS := ⟨gws 21 (by decide +kernel) (by decide +kernel), gws 22 (by decide +kernel) (by decide +kernel), gws 23 (by decide +kernel) (by decide +kernel)⟩
theorem kar_int : Cond.arrayClass .int ∈ WS := gws 73 (by decide +kernel) (by decide +kernel)
theorem kar_char : Cond.arrayClass .char ∈ WS := gws 143 (by decide +kernel) (by decide +kernel)
theorem kasn : Cond.static yX4_asNumber ∈ WS ∧ Cond.initialized yX4_asNumber.cls ∈ WS ∧ Cond.code yX4_asNumber cX4_asNumber 1 (some .int) ∈ WS ∧ yX4_asNumber.cls ≠ "java/lang/invoke/MethodHandle" ∧ yX4_asNumber.cls ≠ "java/lang/invoke/VarHandle" ∧ (parseMethodDescriptor yX4_asNumber.desc).map (fun d => d.parameters.length) = some 1 := ⟨gws 261 (by decide +kernel) (by decide +kernel), kiRX4, kcX4_asNumber, by decide +kernel, by decide +kernel, by decide +kernel⟩
end
section
/-! a store: 20 cells from b on: the object, its row of rooms, six rooms; its numbers as the reference has them, s : 0 .. 98 -/
/-- the 15 numbers of a room -/
def rm (s : Int → Int) (r : Int) : Int → Int := fun j => if 0 ≤ j ∧ j < 15 then s (9 + 15 * r + j) else 0
theorem rm_ap (s : Int → Int) (r j : Int) : rm s r j = if 0 ≤ j ∧ j < 15 then s (9 + 15 * r + j) else 0 := rfl
theorem rm_at (s : Int → Int) (r : Int) {j : Int} (h : 0 ≤ j ∧ j < 15) : rm s r j = s (9 + 15 * r + j) := if_pos h
/-- a room's numbers put back -/
def srm (s : Int → Int) (r : Int) (ρ : Int → Int) : Int → Int := fun j => if 9 + 15 * r ≤ j ∧ j < 24 + 15 * r then ρ (j - (9 + 15 * r)) else s j
def can (ρ : Int → Int) : Prop := ∀ j : Int, j < 0 ∨ 15 ≤ j → ρ j = 0
theorem can_rm (s : Int → Int) (r : Int) : can (rm s r) := fun j h => if_neg (by omega)
theorem can_up {ρ : Int → Int} (h : can ρ) {i : Int} (hi : 0 ≤ i ∧ i < 15) (z : Int) : can (up ρ i z) := fun j hj => by rw [up_n (by omega)]; exact h j hj
theorem srm_rm (s : Int → Int) (r : Int) : srm s r (rm s r) = s := by
  funext j
  unfold srm
  split
  · rw [rm_at _ _ (by omega)]; congr 1; omega
  · rfl
theorem rm_srm {s ρ : Int → Int} {r : Int} (h : can ρ) : rm (srm s r ρ) r = ρ := by
  funext j
  by_cases hj : 0 ≤ j ∧ j < 15
  · rw [rm_at _ _ hj]; unfold srm; rw [if_pos (by omega)]; congr 1; omega
  · rw [h j (by omega)]; exact if_neg hj
theorem rm_srm_ne {s ρ : Int → Int} {r q : Int} (h : q ≠ r) : rm (srm s r ρ) q = rm s q := by
  funext j
  unfold rm
  split
  · unfold srm; rw [if_neg (by omega)]
  · rfl
theorem srm_srm {s ρ ρ' : Int → Int} {r : Int} : srm (srm s r ρ) r ρ' = srm s r ρ' := by
  funext j; unfold srm; split <;> rfl
theorem srm_up (s : Int → Int) (r : Int) {j : Int} (h : 0 ≤ j ∧ j < 15) (z : Int) : srm s r (up (rm s r) j z) = up s (9 + 15 * r + j) z := by
  funext i
  unfold srm
  split
  · by_cases e : i = 9 + 15 * r + j
    · rw [e, up_s, show 9 + 15 * r + j - (9 + 15 * r) = j by omega, up_s]
    · rw [up_n (by omega), up_n e, rm_at _ _ (by omega)]; congr 1; omega
  · rw [up_n (by omega)]
theorem srm_lo {s ρ : Int → Int} {r j : Int} (h : j < 9 + 15 * r) : srm s r ρ j = s j := if_neg (by omega)
theorem rm_up_lo {s : Int → Int} {r j z : Int} (h : j < 9 + 15 * r) : rm (up s j z) r = rm s r := by
  funext i; unfold rm; split
  · rw [up_n (by omega)]
  · rfl
theorem rm_up {s : Int → Int} {r j z : Int} (h : 0 ≤ j ∧ j < 15) : rm (up s (9 + 15 * r + j) z) r = up (rm s r) j z := by
  rw [← srm_up s r h, rm_srm (can_up (can_rm s r) h z)]
theorem rm_up_ne {s : Int → Int} {r q j z : Int} (h : 0 ≤ j ∧ j < 15) (hq : q ≠ r) : rm (up s (9 + 15 * r + j) z) q = rm s q := by
  rw [← srm_up s r h, rm_srm_ne hq]
def sF (ad : Int → Nat) (b : Int) (s : Int → Int) : List Value := [.ref (ad (b + 1)), .int (gI (s 2)), .int (gI (s 1)), .int (gI (s 3)), .int (gI (s 4)), .int (gI (s 5)), .int (gI (s 6)), .int (gI (s 7)), .int (gI (s 8)), .int (gI (s 0))]
def sj : Nat → Int
  | 1 => 2
  | 2 => 1
  | 3 => 3
  | 4 => 4
  | 5 => 5
  | 6 => 6
  | 7 => 7
  | 8 => 8
  | _ => 0
/-- the row of rooms -/
def rmA (ad : Int → Nat) (b : Int) : Nat → Option Nat := fun j => if j < 6 then some (ad (b + 2 + 3 * (j : Int))) else none
def rcell (ad : Int → Nat) (ty : Nat → ClassId) (k : Int) (ρ : Int → Int) (m : Int) : va_E :=
  if m = 0 then .inr (1, rF ad k ρ) else if m = 1 then gAr (ty 0) 4 (fun i => ρ (7 + i)) else gAr (ty 0) 4 (fun i => ρ (11 + i))
def sput (ad : Int → Nat) (ty : Nat → ClassId) (σ : Int → va_E) (b : Int) (s : Int → Int) : Int → va_E := fun q =>
  if q = b then .inr (3, sF ad b s) else if q = b + 1 then gRA (ty 3) 6 (rmA ad b) else
  if b + 2 ≤ q ∧ q < b + 20 then rcell ad ty (b + 2 + 3 * ((q - b - 2) / 3)) (rm s ((q - b - 2) / 3)) ((q - b - 2) % 3) else σ q
section STORE
variable {ad : Int → Nat} {ty : Nat → ClassId} {σ : Int → va_E} {b r : Int} {s ρ : Int → Int}
theorem sput_0 : sput ad ty σ b s b = .inr (3, sF ad b s) := if_pos rfl
theorem sput_1 : sput ad ty σ b s (b + 1) = gRA (ty 3) 6 (rmA ad b) := by
  unfold sput; rw [if_neg (by omega), if_pos rfl]
theorem sput_x {q : Int} (h : q < b ∨ b + 20 ≤ q) : sput ad ty σ b s q = σ q := by
  unfold sput; rw [if_neg (by omega), if_neg (by omega), if_neg (by omega)]
theorem sput_c {q r m : Int} (hr : 0 ≤ r ∧ r < 6) (hm : 0 ≤ m ∧ m < 3) (hq : q = b + 2 + 3 * r + m) : sput ad ty σ b s q = rcell ad ty (b + 2 + 3 * r) (rm s r) m := by
  unfold sput
  rw [if_neg (by omega), if_neg (by omega), if_pos (by omega), show (q - b - 2) / 3 = r by omega, show (q - b - 2) % 3 = m by omega]
theorem sput_r (hr : 0 ≤ r ∧ r < 6) : sput ad ty σ b s (b + 2 + 3 * r) = .inr (1, rF ad (b + 2 + 3 * r) (rm s r)) := by
  rw [sput_c hr (m := 0) (by omega) (by omega)]; exact if_pos rfl
theorem rcell_ext {k m : Int} {ρ ρ' : Int → Int} (h : ∀ j : Int, 0 ≤ j → j < 15 → ρ j = ρ' j) : rcell ad ty k ρ m = rcell ad ty k ρ' m := by
  unfold rcell
  split
  · unfold rF; rw [h 6 (by omega) (by omega), h 0 (by omega) (by omega), h 1 (by omega) (by omega), h 2 (by omega) (by omega), h 3 (by omega) (by omega), h 5 (by omega) (by omega), h 4 (by omega) (by omega)]
  · split
    · exact gAr_ext fun j h1 h2 => h _ (by omega) (by omega)
    · exact gAr_ext fun j h1 h2 => h _ (by omega) (by omega)
/-- two stores that hold the same -/
theorem sput_ext {s' : Int → Int} (h : ∀ j : Int, 0 ≤ j → j < 99 → s j = s' j) : sput ad ty σ b s = sput ad ty σ b s' := by
  funext q
  unfold sput
  split
  · unfold sF; rw [h 2 (by omega) (by omega), h 1 (by omega) (by omega), h 3 (by omega) (by omega), h 4 (by omega) (by omega), h 5 (by omega) (by omega), h 6 (by omega) (by omega), h 7 (by omega) (by omega), h 8 (by omega) (by omega), h 0 (by omega) (by omega)]
  · split
    · rfl
    · split
      · refine rcell_ext fun j h1 h2 => ?_
        rw [rm_at _ _ ⟨h1, h2⟩, rm_at _ _ ⟨h1, h2⟩]
        exact h _ (by omega) (by omega)
      · rfl
theorem sput_re (hr : 0 ≤ r ∧ r < 6) : rput ad ty (sput ad ty σ b s) (b + 2 + 3 * r) ρ = sput ad ty σ b (srm s r ρ) := by
  have hx : ∀ j : Int, 0 ≤ j → j < 15 → ρ j = rm (srm s r ρ) r j := fun j h1 h2 => by
    rw [rm_at _ _ ⟨h1, h2⟩]; unfold srm; rw [if_pos (by omega)]; congr 1; omega
  funext q
  by_cases h : b + 2 + 3 * r ≤ q ∧ q < b + 2 + 3 * r + 3
  · rw [sput_c hr (q := q) (m := q - (b + 2 + 3 * r)) (by omega) (by omega), ← rcell_ext (ρ := ρ) hx]
    unfold rput rcell
    by_cases h0 : q = b + 2 + 3 * r
    · rw [if_pos h0, if_pos (show q - (b + 2 + 3 * r) = 0 by omega)]
    · by_cases h1 : q = b + 2 + 3 * r + 1
      · rw [if_neg h0, if_pos h1, if_neg (show ¬ q - (b + 2 + 3 * r) = 0 by omega), if_pos (show q - (b + 2 + 3 * r) = 1 by omega)]
      · rw [if_neg h0, if_neg h1, if_pos (show q = b + 2 + 3 * r + 2 by omega), if_neg (show ¬ q - (b + 2 + 3 * r) = 0 by omega), if_neg (show ¬ q - (b + 2 + 3 * r) = 1 by omega)]
  · rw [rput_x (by omega)]
    unfold sput
    split
    · unfold sF; repeat rw [srm_lo (by omega)]
    · split
      · rfl
      · split
        · refine rcell_ext fun j h1 h2 => ?_
          rw [rm_srm_ne (by omega)]
        · rfl
theorem sput_eq (hr : 0 ≤ r ∧ r < 6) : rput ad ty (sput ad ty σ b s) (b + 2 + 3 * r) (rm s r) = sput ad ty σ b s := by
  rw [sput_re hr, srm_rm]
theorem sput_up (f : Nat) (hf : 1 ≤ f ∧ f < 10) (z : Int) : up (sput ad ty σ b s) b (.inr (3, (sF ad b s).set f (.int (gI z)))) = sput ad ty σ b (up s (sj f) z) := by
  have hj : sj f < 9 := by
    rcases (show f = 1 ∨ f = 2 ∨ f = 3 ∨ f = 4 ∨ f = 5 ∨ f = 6 ∨ f = 7 ∨ f = 8 ∨ f = 9 by omega) with rfl | rfl | rfl | rfl | rfl | rfl | rfl | rfl | rfl <;> decide
  funext q
  by_cases h0 : q = b
  · subst h0
    rw [up_s, sput_0]
    rcases (show f = 1 ∨ f = 2 ∨ f = 3 ∨ f = 4 ∨ f = 5 ∨ f = 6 ∨ f = 7 ∨ f = 8 ∨ f = 9 by omega) with rfl | rfl | rfl | rfl | rfl | rfl | rfl | rfl | rfl <;> simp [sF, sj, up]
  · rw [up_n h0]
    unfold sput
    rw [if_neg h0, if_neg h0]
    split
    · rfl
    · split
      · rw [rm_up_lo (by omega)]
      · rfl
theorem sput_sput {s' : Int → Int} : sput ad ty (sput ad ty σ b s) b s' = sput ad ty σ b s' := by
  funext q
  unfold sput
  split
  · rfl
  · split
    · rfl
    · split <;> rfl
theorem lift {l : Launch} {y : MethodName} {cc : ByteArray} {nL : Nat} {ret : Option FieldType} {f lo : Nat} {av : List Value} {D : va_G} {N : Int} {rv : Option Value} (hr : 0 ≤ r ∧ r < 6) (h : gM0 l y cc nL ret f lo av D ty ad N (rput ad ty (sput ad ty σ b s) (b + 2 + 3 * r) (rm s r)) rv (rput ad ty (sput ad ty σ b s) (b + 2 + 3 * r) ρ)) : gM0 l y cc nL ret f lo av D ty ad N (sput ad ty σ b s) rv (sput ad ty σ b (srm s r ρ)) := by
  rw [sput_eq hr, sput_re hr] at h
  exact h
theorem lift0 {l : Launch} {y : MethodName} {cc : ByteArray} {nL : Nat} {ret : Option FieldType} {f lo : Nat} {av : List Value} {D : va_G} {N : Int} {rv : Option Value} (hr : 0 ≤ r ∧ r < 6) (h : gM0 l y cc nL ret f lo av D ty ad N (rput ad ty (sput ad ty σ b s) (b + 2 + 3 * r) (rm s r)) rv (rput ad ty (sput ad ty σ b s) (b + 2 + 3 * r) (rm s r))) : gM0 l y cc nL ret f lo av D ty ad N (sput ad ty σ b s) rv (sput ad ty σ b s) := by
  rw [sput_eq hr] at h
  exact h
end STORE
section STOREROWS
variable {X : gT} {cc : ByteArray} {nL : Nat} {own : String} {R : Room} {ret : Option FieldType} {kc kn : Nat} {Q : State → Prop} {pc : Nat} {L : List (Option Value)} {st : List Value} {ad : Int → Nat} {N : Int} {σ : Int → va_E} {b r i z j : Int} {ρ s : Int → Int} {idx f : Nat}
theorem ss_get (C : gOk X cc nL own R ret) (fl : gFL own idx 3 f RX3 TX3 10 tyX3) (hd : decode cc pc = .ok (.getfield idx, 3)) (hb : 0 ≤ b ∧ b + 20 ≤ N) {v : Value} (hv : (sF ad b s)[f]? = some v)
    (kk : V X kc kn Q (pc + 3) L (v :: st) ad N (sput ad (gty X) σ b s)) : V X kc kn Q pc L (.ref (ad b) :: st) ad N (sput ad (gty X) σ b s) := r_get C fl hd (by omega) sput_0 hv kk
theorem ss_put (C : gOk X cc nL own R ret) (fl : gFL own idx 3 f RX3 TX3 10 tyX3) (hd : decode cc pc = .ok (.putfield idx, 3)) (hb : 0 ≤ b ∧ b + 20 ≤ N) (hf : 1 ≤ f ∧ f < 10) (hj : sj f = j) (hfin : (TX3 f).2.2.2 = false) (hn : narrow (tyX3 f) (.int (gI z)) = .int (gI z)) (hfit : fits (tyX3 f) (.int (gI z)) = true)
    (kk : V X kc kn Q (pc + 3) L st ad N (sput ad (gty X) σ b (up s j z))) : V X kc kn Q pc L (.int (gI z) :: .ref (ad b) :: st) ad N (sput ad (gty X) σ b s) := r_put C fl hd (by omega) sput_0 hfin hn hfit hf.2 (by rw [sput_up f hf, hj]; exact kk)
theorem ss_room (C : gOk X cc nL own R ret) (hd : decode cc pc = .ok (.aaload, 1)) (hb : 0 ≤ b ∧ b + 20 ≤ N) (hi : 0 ≤ r ∧ r < 6)
    (kk : V X kc kn Q (pc + 1) L (.ref (ad (b + 2 + 3 * r)) :: st) ad N (sput ad (gty X) σ b s)) : V X kc kn Q pc L (.int (gI r) :: .ref (ad (b + 1)) :: st) ad N (sput ad (gty X) σ b s) :=
  r_aald (t := 3) C hd (by omega) sput_1 rfl hi (by omega) (by unfold rmA; rw [if_pos (by omega), Int.toNat_of_nonneg hi.1]) kk
theorem sr_get (C : gOk X cc nL own R ret) (fl : gFL own idx 1 f RX1 TX1 9 tyX1) (hd : decode cc pc = .ok (.getfield idx, 3)) (hb : 0 ≤ b ∧ b + 20 ≤ N) (hr : 0 ≤ r ∧ r < 6) {v : Value} (hv : (rF ad (b + 2 + 3 * r) (rm s r))[f]? = some v)
    (kk : V X kc kn Q (pc + 3) L (v :: st) ad N (sput ad (gty X) σ b s)) : V X kc kn Q pc L (.ref (ad (b + 2 + 3 * r)) :: st) ad N (sput ad (gty X) σ b s) := r_get C fl hd (by omega) (sput_r hr) hv kk
theorem sr_put (C : gOk X cc nL own R ret) (fl : gFL own idx 1 f RX1 TX1 9 tyX1) (hd : decode cc pc = .ok (.putfield idx, 3)) (hb : 0 ≤ b ∧ b + 20 ≤ N) (hr : 0 ≤ r ∧ r < 6) (hf : 2 ≤ f ∧ f < 9) (hj : rj f = j) (hj2 : 0 ≤ j ∧ j < 15) (hfin : (TX1 f).2.2.2 = false) (hn : narrow (tyX1 f) (.int (gI z)) = .int (gI z)) (hfit : fits (tyX1 f) (.int (gI z)) = true)
    (kk : V X kc kn Q (pc + 3) L st ad N (sput ad (gty X) σ b (up s (9 + 15 * r + j) z))) : V X kc kn Q pc L (.int (gI z) :: .ref (ad (b + 2 + 3 * r)) :: st) ad N (sput ad (gty X) σ b s) := by
  rw [← sput_eq hr]
  refine rr_put C fl hd (by omega) hf hj hfin hn hfit ?_
  rw [sput_re hr, srm_up s r hj2]
  exact kk
end STOREROWS
/-! what holds of every store that comes up -/
def okR (ρ : Int → Int) : Prop := (0 ≤ ρ 0 ∧ ρ 0 ≤ 60) ∧ (ρ 1 = 0 ∨ ρ 1 = 1) ∧ (0 ≤ ρ 2 ∧ ρ 2 ≤ 9) ∧ (ρ 3 = 0 ∨ ρ 3 = 1) ∧ (ρ 5 = 0 ∨ ρ 5 = 1) ∧ (0 ≤ ρ 6 ∧ ρ 6 ≤ 4) ∧ (∀ i, 0 ≤ i → i < 4 → 0 ≤ ρ (7 + i) ∧ ρ (7 + i) < 100) ∧ (∀ i, 0 ≤ i → i < 4 → 0 ≤ ρ (11 + i) ∧ ρ (11 + i) < 50) ∧ (ρ 1 = 1 → 0 < ρ 0)
def okS (s : Int → Int) : Prop := (1 ≤ s 0 ∧ s 0 ≤ 50) ∧ (0 ≤ s 1 ∧ s 1 ≤ 12) ∧ ((s 7 = -1 ∧ s 8 = 0) ∨ (0 ≤ s 7 ∧ s 7 < 6 ∧ 1 ≤ s 8 ∧ s 8 ≤ 6)) ∧ ∀ r : Int, 0 ≤ r → r < 6 → okR (rm s r)
theorem okR.len {ρ : Int → Int} (h : okR ρ) : 0 ≤ ρ 0 ∧ ρ 0 ≤ 60 := h.1
theorem okR.bur {ρ : Int → Int} (h : okR ρ) : ρ 1 = 0 ∨ ρ 1 = 1 := h.2.1
theorem okR.wick {ρ : Int → Int} (h : okR ρ) : 0 ≤ ρ 2 ∧ ρ 2 ≤ 9 := h.2.2.1
theorem okR.shi {ρ : Int → Int} (h : okR ρ) : ρ 3 = 0 ∨ ρ 3 = 1 := h.2.2.2.1
theorem okR.door {ρ : Int → Int} (h : okR ρ) : ρ 5 = 0 ∨ ρ 5 = 1 := h.2.2.2.2.1
theorem okR.many {ρ : Int → Int} (h : okR ρ) : 0 ≤ ρ 6 ∧ ρ 6 ≤ 4 := h.2.2.2.2.2.1
theorem okR.keys {ρ : Int → Int} (h : okR ρ) : ∀ i, 0 ≤ i → i < 4 → 0 ≤ ρ (7 + i) ∧ ρ (7 + i) < 100 := h.2.2.2.2.2.2.1
theorem okR.dark {ρ : Int → Int} (h : okR ρ) : ∀ i, 0 ≤ i → i < 4 → 0 ≤ ρ (11 + i) ∧ ρ (11 + i) < 50 := h.2.2.2.2.2.2.2.1
theorem okR.lit {ρ : Int → Int} (h : okR ρ) : ρ 1 = 1 → 0 < ρ 0 := h.2.2.2.2.2.2.2.2
theorem okR.keyI {ρ : Int → Int} (h : okR ρ) : ∀ i, 0 ≤ i → i < 4 → -2147483648 ≤ ρ (7 + i) ∧ ρ (7 + i) < 2147483648 := fun i h1 h2 => by have := h.keys i h1 h2; omega
theorem okR.darkI {ρ : Int → Int} (h : okR ρ) : ∀ i, 0 ≤ i → i < 4 → 0 ≤ ρ (11 + i) ∧ ρ (11 + i) ≤ 100 := fun i h1 h2 => by have := h.dark i h1 h2; omega
theorem okS.rm {s : Int → Int} (h : okS s) {r : Int} (hr : 0 ≤ r ∧ r < 6) : okR (rm s r) := h.2.2.2 r hr.1 hr.2
theorem okS.set {s : Int → Int} (h : okS s) : 1 ≤ s 0 ∧ s 0 ≤ 50 := h.1
theorem okS.box {s : Int → Int} (h : okS s) : 0 ≤ s 1 ∧ s 1 ≤ 12 := h.2.1
theorem okS.dra {s : Int → Int} (h : okS s) : (s 7 = -1 ∧ s 8 = 0) ∨ (0 ≤ s 7 ∧ s 7 < 6 ∧ 1 ≤ s 8 ∧ s 8 ≤ 6) := h.2.2.1
end
section
/-! the JDK methods that are walked: contracts -/
set_option maxRecDepth 100000 in
set_option maxHeartbeats 4000000 in
theorem c_J9_max_7cf53 {l : Launch} {D : va_G} {ty : Nat → ClassId} {ad : Int → Nat} {N : Int} {σ : Int → va_E} {a b : Int} (ha : -2147483648 ≤ a ∧ a < 2147483648) (hb : -2147483648 ≤ b ∧ b < 2147483648) : gM0 l yJ9_max_7cf53 cJ9_max_7cf53 2 (some .int) 0 0 [.int (gI a), .int (gI b)] D ty ad N (σ) (some (.int (gI (max a b)))) (σ) := by
  refine gMet_of [some (.int (gI a)), some (.int (gI b))] (by decide +kernel) rfl (Nat.le_of_ble_eq_true rfl) rfl ?_
  intro X hl hD hty C hini
  subst hl hD hty
  refine r_iload_n C dJ9_max_7cf53_0 rfl rfl ?_
  refine r_iload_n C dJ9_max_7cf53_1 rfl rfl ?_
  refine r_icmp_lt (tgt := 9) C dJ9_max_7cf53_2 (by decide) ha hb (fun h2 => ?_) (fun h2 => ?_)
  · refine r_iload_n C dJ9_max_7cf53_9 rfl rfl ?_
    exact r_iretD C dJ9_max_7cf53_10 (by omega) rfl
  · refine r_iload_n C dJ9_max_7cf53_5 rfl rfl ?_
    refine r_goto (tgt := 10) C dJ9_max_7cf53_6 (by decide) ?_
    exact r_iretD C dJ9_max_7cf53_10 (by omega) rfl

set_option maxRecDepth 100000 in
set_option maxHeartbeats 4000000 in
theorem c_J9_min_7cf53 {l : Launch} {D : va_G} {ty : Nat → ClassId} {ad : Int → Nat} {N : Int} {σ : Int → va_E} {a b : Int} (ha : -2147483648 ≤ a ∧ a < 2147483648) (hb : -2147483648 ≤ b ∧ b < 2147483648) : gM0 l yJ9_min_7cf53 cJ9_min_7cf53 2 (some .int) 0 0 [.int (gI a), .int (gI b)] D ty ad N (σ) (some (.int (gI (min a b)))) (σ) := by
  refine gMet_of [some (.int (gI a)), some (.int (gI b))] (by decide +kernel) rfl (Nat.le_of_ble_eq_true rfl) rfl ?_
  intro X hl hD hty C hini
  subst hl hD hty
  refine r_iload_n C dJ9_min_7cf53_0 rfl rfl ?_
  refine r_iload_n C dJ9_min_7cf53_1 rfl rfl ?_
  refine r_icmp_gt (tgt := 9) C dJ9_min_7cf53_2 (by decide) ha hb (fun h2 => ?_) (fun h2 => ?_)
  · refine r_iload_n C dJ9_min_7cf53_9 rfl rfl ?_
    exact r_iretD C dJ9_min_7cf53_10 (by omega) rfl
  · refine r_iload_n C dJ9_min_7cf53_5 rfl rfl ?_
    refine r_goto (tgt := 10) C dJ9_min_7cf53_6 (by decide) ?_
    exact r_iretD C dJ9_min_7cf53_10 (by omega) rfl

theorem gI_rem0 {a b : Int} (ha : -2147483648 ≤ a ∧ a < 2147483648) (hb : 0 < b ∧ b < 2147483648) : gI a - gI a / gI b * gI b = gI (a.tmod b) := by
  have e : gI a / gI b = gI (a.tdiv b) := by
    apply Int32.toInt_inj.mp
    have h1 : gI b ≠ -1 := by
      intro h
      have h2 : (gI b).toInt = (-1 : Int32).toInt := by rw [h]
      rw [gI_toInt (by omega)] at h2
      have h3 : (-1 : Int32).toInt = -1 := by decide
      omega
    have h5 : -2147483648 ≤ a.tdiv b ∧ a.tdiv b < 2147483648 := by
      have h1 := Int.natAbs_tdiv_le_natAbs a b
      rcases Int.lt_or_le a 0 with h | h
      · have h2 := Int.tdiv_nonneg (a := -a) (b := b) (by omega) (by omega)
        rw [Int.neg_tdiv] at h2
        omega
      · have h2 := Int.tdiv_nonneg (a := a) (b := b) (by omega) (by omega)
        omega
    rw [Int32.toInt_div_of_ne_right _ _ h1, gI_toInt ha, gI_toInt (by omega), gI_toInt h5]
  rw [e, gI_mul, gI_sub]
  congr 1
  have := Int.tmod_add_tdiv_mul a b
  omega
theorem r_irem0 {X : gT} {cc : ByteArray} {nL : Nat} {own : String} {R : Room} {ret : Option FieldType} {kc kn : Nat} {Q : State → Prop} {pc : Nat} {L : List (Option Value)} {st : List Value} {ad : Int → Nat} {N : Int} {σ : Int → va_E} (C : gOk X cc nL own R ret) {a b : Int} (hd : decode cc pc = .ok (.irem, 1)) (ha : -2147483648 ≤ a ∧ a < 2147483648) (hb : 0 < b ∧ b < 2147483648) (k : V X kc kn Q (pc + 1) L (.int (gI (a.tmod b)) :: st) ad N σ) : V X kc kn Q pc L (.int (gI b) :: .int (gI a) :: st) ad N σ := fun ls H locs hl hw => lv_irem C.1 C.2.1 hd (fun h => by rw [← gI_0, gI_eq (by omega) (by omega)] at h; omega) (by rw [gI_rem0 ha hb]; exact k ls H locs hl hw)
theorem gI_xor_neg {a b : Int} (ha : -2147483648 ≤ a ∧ a < 2147483648) (hb : 0 ≤ b ∧ b < 2147483648) : (gI a ^^^ gI b) < 0 ↔ a < 0 := by
  have h1 : ∀ x : Int32, x < 0 ↔ x.toBitVec.msb = true := fun x => by
    rw [Int32.lt_iff_toInt_lt, Int32.toInt_zero]
    show x.toBitVec.toInt < 0 ↔ _
    rw [BitVec.msb_eq_toInt]
    simp
  rw [h1, Int32.toBitVec_xor, BitVec.msb_xor]
  have e1 : (gI a).toBitVec.msb = decide (a < 0) := by
    rw [BitVec.msb_eq_toInt]
    show decide ((gI a).toInt < 0) = _
    rw [gI_toInt ha]
  have e2 : (gI b).toBitVec.msb = false := by
    rw [BitVec.msb_eq_toInt]
    show decide ((gI b).toInt < 0) = _
    rw [gI_toInt (by omega)]
    exact decide_eq_false (by omega)
  rw [e1, e2]
  simp
theorem r_ixor {X : gT} {cc : ByteArray} {nL : Nat} {own : String} {R : Room} {ret : Option FieldType} {kc kn : Nat} {Q : State → Prop} {pc : Nat} {L : List (Option Value)} {st : List Value} {ad : Int → Nat} {N : Int} {σ : Int → va_E} (C : gOk X cc nL own R ret) {a b : Int32} (hd : decode cc pc = .ok (.ixor, 1)) (k : V X kc kn Q (pc + 1) L (.int (a ^^^ b) :: st) ad N σ) : V X kc kn Q pc L (.int b :: .int a :: st) ad N σ := fun ls H locs hl hw => lv_ixor C.1 C.2.1 hd (k ls H locs hl hw)
theorem r_ge32 {X : gT} {cc : ByteArray} {nL : Nat} {own : String} {R : Room} {ret : Option FieldType} {kc kn : Nat} {Q : State → Prop} {pc : Nat} {L : List (Option Value)} {st : List Value} {ad : Int → Nat} {N : Int} {σ : Int → va_E} (C : gOk X cc nL own R ret) {x : Int32} {off : Int} {tgt : Nat} (hd : decode cc pc = .ok (.ifCond .ge off, 3)) (ht : (pc : Int) + off = (tgt : Int)) (kt : ¬ x < 0 → V X kc kn Q tgt L st ad N σ) (kf : x < 0 → V X kc kn Q (pc + 3) L st ad N σ) : V X kc kn Q pc L (.int x :: st) ad N σ := fun ls H locs hl hw => lv_if_ge C.1 C.2.1 hd ht (fun h => kt (by rw [Int32.lt_iff_toInt_lt]; rw [Int32.le_iff_toInt_le] at h; omega) ls H locs hl hw) (fun h => kf (by rw [Int32.lt_iff_toInt_lt]; rw [Int32.le_iff_toInt_le] at h; omega) ls H locs hl hw)
theorem fmod_pos {a b : Int} (hb : 0 < b) (ha : a < 0) : (a.tmod b = 0 → a % b = a.tmod b) ∧ (a.tmod b ≠ 0 → a % b = a.tmod b + b) := by
  have h := Int.emod_eq_tmod (a := a) (b := b)
  have hn : ((b.natAbs : Nat) : Int) = b := by omega
  have hd : b ∣ a ↔ a.tmod b = 0 := Int.dvd_iff_tmod_eq_zero
  refine ⟨fun e => ?_, fun e => ?_⟩
  · rw [if_pos (Or.inr (hd.mpr e))] at h
    omega
  · rw [if_neg (fun q => q.elim (fun q => by omega) (fun q => e (hd.mp q)))] at h
    omega

set_option maxRecDepth 100000 in
set_option maxHeartbeats 4000000 in
/-- floorMod with a divisor above 0 -/
theorem c_J9_floorMod_7cf53 {l : Launch} {D : va_G} {ty : Nat → ClassId} {ad : Int → Nat} {N : Int} {σ : Int → va_E} {a b : Int} (ha : -2147483648 ≤ a ∧ a < 2147483648) (hb : 0 < b ∧ b < 2147483648) : gM0 l yJ9_floorMod_7cf53 cJ9_floorMod_7cf53 3 (some .int) 0 0 [.int (gI a), .int (gI b)] D ty ad N (σ) (some (.int (gI (a % b)))) (σ) := by
  refine gMet_of [some (.int (gI a)), some (.int (gI b)), none] (by decide +kernel) rfl (Nat.le_of_ble_eq_true rfl) rfl ?_
  intro X hl hD hty C hini
  subst hl hD hty
  have hx := gI_xor_neg (a := a) (b := b) ha (by omega)
  have hm := Int.emod_nonneg a (show b ≠ 0 by omega)
  have hm2 := Int.emod_lt_of_pos a hb.1
  have ht : a.tmod b = a % b ∨ a.tmod b = a % b - b := by
    rcases Int.lt_or_le a 0 with h | h
    · by_cases e : a.tmod b = 0
      · exact Or.inl ((fmod_pos hb.1 h).1 e).symm
      · have := (fmod_pos hb.1 h).2 e
        exact Or.inr (by omega)
    · exact Or.inl (Int.tmod_eq_emod_of_nonneg h)
  refine r_iload_n C dJ9_floorMod_7cf53_0 rfl rfl ?_
  refine r_iload_n C dJ9_floorMod_7cf53_1 rfl rfl ?_
  refine r_irem0 C dJ9_floorMod_7cf53_2 ha hb ?_
  refine r_istore_n C dJ9_floorMod_7cf53_3 rfl (Nat.le_of_ble_eq_true rfl) rfl ?_
  dsimp only [List.set]
  refine r_iload_n C dJ9_floorMod_7cf53_4 rfl rfl ?_
  refine r_iload_n C dJ9_floorMod_7cf53_5 rfl rfl ?_
  refine r_ixor C dJ9_floorMod_7cf53_6 ?_
  refine r_ge32 (tgt := 18) C dJ9_floorMod_7cf53_7 (by decide) (fun h7 => ?_) (fun h7 => ?_)
  · have h7 := mt hx.mpr h7
    have e := Int.tmod_eq_emod_of_nonneg (a := a) (b := b) (by omega)
    refine r_iload_n C dJ9_floorMod_7cf53_18 rfl rfl ?_
    exact r_iretD C dJ9_floorMod_7cf53_19 (by omega) rfl
  · have h7 := hx.mp h7
    have e := fmod_pos (a := a) hb.1 h7
    refine r_iload_n C dJ9_floorMod_7cf53_10 rfl rfl ?_
    refine r_if_eq (tgt := 18) C dJ9_floorMod_7cf53_11 (by decide) (by omega) (fun h11 => ?_) (fun h11 => ?_)
    · have e2 := e.1 h11
      refine r_iload_n C dJ9_floorMod_7cf53_18 rfl rfl ?_
      exact r_iretD C dJ9_floorMod_7cf53_19 (by omega) rfl
    · have e2 := e.2 h11
      refine r_iload_n C dJ9_floorMod_7cf53_14 rfl rfl ?_
      refine r_iload_n C dJ9_floorMod_7cf53_15 rfl rfl ?_
      refine r_iadd C dJ9_floorMod_7cf53_16 ?_
      exact r_iretD C dJ9_floorMod_7cf53_17 (by omega) rfl
end
section
/-! Room, Math, asNumber: contracts -/

def keyR (ρ : Int → Int) (p : Int) : Int := if 0 ≤ p ∧ p < ρ 6 then ρ (7 + p) else -1
def darkR (ρ : Int → Int) (p : Int) : Int := if 0 ≤ p ∧ p < ρ 6 then ρ (11 + p) else -1
def numR (ρ : Int → Int) (w : Int) : Int := if w = 0 then ρ 0 else if w = 1 then ρ 1 else if w = 2 then ρ 2 else if w = 3 then ρ 3 else if w = 4 then ρ 6 else if w = 5 then ρ 5 else if w = 6 then ρ 4 else keyR ρ 0
/-- how much shorter in a beat -/
def lessR (w : Int) : Int := 1 + (if 3 ≤ w then 1 else 0) + (if 6 ≤ w then 1 else 0)
theorem lessR_rng (w : Int) : 1 ≤ lessR w ∧ lessR w ≤ 3 := by unfold lessR; split <;> split <;> omega
def plcR (ρ : Int → Int) (key : Int) : Nat → Int → Int
  | 0, _ => -1
  | n + 1, p => if ρ (7 + p) = key then p else plcR ρ key n (p + 1)
/-- the place of a key in a room -/
def plc (ρ : Int → Int) (key : Int) : Int := plcR ρ key (ρ 6).toNat 0
theorem plcR_rng (ρ : Int → Int) (key : Int) : ∀ (n : Nat) (p : Int), plcR ρ key n p = -1 ∨ (p ≤ plcR ρ key n p ∧ plcR ρ key n p < p + n)
  | 0, p => Or.inl rfl
  | n + 1, p => by
    unfold plcR
    split
    · right; omega
    · rcases plcR_rng ρ key n (p + 1) with h | h
      · exact Or.inl h
      · right; omega
def addR (ρ : Int → Int) (key : Int) : Int → Int := up (up (up ρ (7 + ρ 6) key) (11 + ρ 6) 0) 6 (ρ 6 + 1)
def newR (ρ : Int → Int) : Int → Int := up (up (up ρ 0 20) 2 0) 1 0
def burnR (ρ : Int → Int) : Int → Int := if ρ 1 = 0 then ρ else
  if 0 < max 0 (ρ 0 - lessR (ρ 2)) then up (up (up (up ρ 4 (ρ 4 + 1)) 0 (max 0 (ρ 0 - lessR (ρ 2)))) 1 1) 2 (min 9 (ρ 2 + 1)) else up (up (up ρ 4 (ρ 4 + 1)) 0 (max 0 (ρ 0 - lessR (ρ 2)))) 1 0
/-- beats until it is burnt -/
def untr : Nat → Int → Int → Int
  | 0, _, _ => 0
  | n + 1, l, t => if l ≤ 0 then 0 else 1 + untr n (l - lessR t) (min 9 (t + 1))
theorem untr_rng : ∀ (n : Nat) (l t : Int), 0 ≤ untr n l t ∧ untr n l t ≤ n
  | 0, l, t => by unfold untr; omega
  | n + 1, l, t => by
    unfold untr
    have := untr_rng n (l - lessR t) (min 9 (t + 1))
    split <;> omega
def savR (ρ : Int → Int) : Int := if ρ 1 = 0 then 0 else ρ 0 - untr 60 (ρ 0) (ρ 2)
/-- things grow older: n more from place p, q stay so far -/
def ageL (set : Int) : Nat → Int → Int → (Int → Int) → (Int → Int) × Int
  | 0, _, q, ρ => (ρ, q)
  | n + 1, p, q, ρ => if (if ρ 1 = 0 then ρ (11 + p) + 1 else 0) < set then ageL set n (p + 1) (q + 1) (up (up ρ (7 + q) (ρ (7 + p))) (11 + q) (if ρ 1 = 0 then ρ (11 + p) + 1 else 0)) else ageL set n (p + 1) q ρ
def ageQ (ρ : Int → Int) (set : Int) : Int := (ageL set (ρ 6).toNat 0 0 ρ).2
def ageR (ρ : Int → Int) (set : Int) : Int → Int := up (ageL set (ρ 6).toNat 0 0 ρ).1 6 (ageQ ρ set)
def maxD (ρ : Int → Int) : Nat → Int → Int → Int
  | 0, _, a => a
  | n + 1, p, a => maxD ρ n (p + 1) (max a (ρ (11 + p)))
def ffR (ρ : Int → Int) (bl set : Int) : Int := if 1 < bl then bl + set - 1 else max 1 (set - maxD ρ (ρ 6).toNat 0 0)

set_option maxRecDepth 100000 in
set_option maxHeartbeats 4000000 in
theorem c_X4_asNumber {l : Launch} {D : va_G} {ty : Nat → ClassId} {ad : Int → Nat} {N : Int} {σ : Int → va_E} {z : Int} (hz : z = 0 ∨ z = 1) : gM0 l yX4_asNumber cX4_asNumber 1 (some .int) 0 0 [.int (gI z)] D ty ad N (σ) (some (.int (gI z))) (σ) := by
  refine gMet_of [some (.int (gI z))] (by decide +kernel) rfl (Nat.le_of_ble_eq_true rfl) rfl ?_
  intro X hl hD hty C hini
  subst hl hD hty
  refine r_iload_n C dX4_asNumber_0 rfl rfl ?_
  refine r_if_eq (tgt := 8) C dX4_asNumber_1 (by decide) (by omega) (fun h1 => ?_) (fun h1 => ?_)
  · refine r_iconst C dX4_asNumber_8 ?_
    exact r_iretD C dX4_asNumber_9 (by omega) rfl
  · refine r_iconst C dX4_asNumber_4 ?_
    refine r_goto (tgt := 9) C dX4_asNumber_5 (by decide) ?_
    exact r_iretD C dX4_asNumber_9 (by omega) rfl

set_option maxRecDepth 100000 in
set_option maxHeartbeats 4000000 in
theorem c_X1_keyAt {l : Launch} {D : va_G} {ty : Nat → ClassId} {ad : Int → Nat} {N : Int} {σ : Int → va_E} {k p : Int} {ρ : Int → Int} (hk : 0 ≤ k ∧ k + 3 ≤ N) (hp : -2147483648 ≤ p ∧ p < 2147483648) (hm : 0 ≤ ρ 6 ∧ ρ 6 ≤ 4) : gM0 l yX1_keyAt cX1_keyAt 2 (some .int) 0 0 [.ref (ad k), .int (gI p)] D ty ad N (rput ad ty σ k ρ) (some (.int (gI (keyR ρ p)))) (rput ad ty σ k ρ) := by
  refine gMet_of [some (.ref (ad k)), some (.int (gI p))] (by decide +kernel) rfl (Nat.le_of_ble_eq_true rfl) rfl ?_
  intro X hl hD hty C hini
  subst hl hD hty
  refine r_iload_n C dX1_keyAt_0 rfl rfl ?_
  refine r_if_lt (tgt := 21) C dX1_keyAt_1 (by decide) (by omega) (fun h1 => ?_) (fun h1 => ?_)
  · refine r_iconst C dX1_keyAt_21 ?_
    exact r_iretD C dX1_keyAt_22 (by unfold keyR; first | rw [if_pos (by omega)] | rw [if_neg (by omega)]) rfl
  · refine r_iload_n C dX1_keyAt_4 rfl rfl ?_
    refine r_aload_n C dX1_keyAt_5 rfl rfl ?_
    refine rr_get C flX1_32 dX1_keyAt_6 hk rfl ?_
    refine r_icmp_ge (tgt := 21) C dX1_keyAt_9 (by decide) (by omega) (by omega) (fun h9 => ?_) (fun h9 => ?_)
    · refine r_iconst C dX1_keyAt_21 ?_
      exact r_iretD C dX1_keyAt_22 (by unfold keyR; first | rw [if_pos (by omega)] | rw [if_neg (by omega)]) rfl
    · refine r_aload_n C dX1_keyAt_12 rfl rfl ?_
      refine rr_get C flX1_9 dX1_keyAt_13 hk rfl ?_
      refine r_iload_n C dX1_keyAt_16 rfl rfl ?_
      first | refine rr_kld C dX1_keyAt_17 hk (by omega) ?_ | refine rr_dld C dX1_keyAt_17 hk (by omega) ?_
      refine r_goto (tgt := 22) C dX1_keyAt_18 (by decide) ?_
      exact r_iretD C dX1_keyAt_22 (by unfold keyR; first | rw [if_pos (by omega)] | rw [if_neg (by omega)]) rfl

set_option maxRecDepth 100000 in
set_option maxHeartbeats 4000000 in
theorem c_X1_darkAt {l : Launch} {D : va_G} {ty : Nat → ClassId} {ad : Int → Nat} {N : Int} {σ : Int → va_E} {k p : Int} {ρ : Int → Int} (hk : 0 ≤ k ∧ k + 3 ≤ N) (hp : -2147483648 ≤ p ∧ p < 2147483648) (hm : 0 ≤ ρ 6 ∧ ρ 6 ≤ 4) : gM0 l yX1_darkAt cX1_darkAt 2 (some .int) 0 0 [.ref (ad k), .int (gI p)] D ty ad N (rput ad ty σ k ρ) (some (.int (gI (darkR ρ p)))) (rput ad ty σ k ρ) := by
  refine gMet_of [some (.ref (ad k)), some (.int (gI p))] (by decide +kernel) rfl (Nat.le_of_ble_eq_true rfl) rfl ?_
  intro X hl hD hty C hini
  subst hl hD hty
  refine r_iload_n C dX1_darkAt_0 rfl rfl ?_
  refine r_if_lt (tgt := 21) C dX1_darkAt_1 (by decide) (by omega) (fun h1 => ?_) (fun h1 => ?_)
  · refine r_iconst C dX1_darkAt_21 ?_
    exact r_iretD C dX1_darkAt_22 (by unfold darkR; first | rw [if_pos (by omega)] | rw [if_neg (by omega)]) rfl
  · refine r_iload_n C dX1_darkAt_4 rfl rfl ?_
    refine r_aload_n C dX1_darkAt_5 rfl rfl ?_
    refine rr_get C flX1_32 dX1_darkAt_6 hk rfl ?_
    refine r_icmp_ge (tgt := 21) C dX1_darkAt_9 (by decide) (by omega) (by omega) (fun h9 => ?_) (fun h9 => ?_)
    · refine r_iconst C dX1_darkAt_21 ?_
      exact r_iretD C dX1_darkAt_22 (by unfold darkR; first | rw [if_pos (by omega)] | rw [if_neg (by omega)]) rfl
    · refine r_aload_n C dX1_darkAt_12 rfl rfl ?_
      refine rr_get C flX1_15 dX1_darkAt_13 hk rfl ?_
      refine r_iload_n C dX1_darkAt_16 rfl rfl ?_
      first | refine rr_kld C dX1_darkAt_17 hk (by omega) ?_ | refine rr_dld C dX1_darkAt_17 hk (by omega) ?_
      refine r_goto (tgt := 22) C dX1_darkAt_18 (by decide) ?_
      exact r_iretD C dX1_darkAt_22 (by unfold darkR; first | rw [if_pos (by omega)] | rw [if_neg (by omega)]) rfl

set_option maxRecDepth 100000 in
set_option maxHeartbeats 4000000 in
theorem c_X1_number {l : Launch} {D : va_G} {ty : Nat → ClassId} {ad : Int → Nat} {N : Int} {σ : Int → va_E} {k w : Int} {ρ : Int → Int} (hk : 0 ≤ k ∧ k + 3 ≤ N) (hw0 : 0 ≤ w ∧ w < 8) (hm : 0 ≤ ρ 6 ∧ ρ 6 ≤ 4) (hz1 : ρ 1 = 0 ∨ ρ 1 = 1) (hz3 : ρ 3 = 0 ∨ ρ 3 = 1) (hz5 : ρ 5 = 0 ∨ ρ 5 = 1) : gM0 l yX1_number cX1_number 2 (some .int) 1 21 [.ref (ad k), .int (gI w)] D ty ad N (rput ad ty σ k ρ) (some (.int (gI (numR ρ w)))) (rput ad ty σ k ρ) := by
  refine gMet_of [some (.ref (ad k)), some (.int (gI w))] (by decide +kernel) rfl (Nat.le_of_ble_eq_true rfl) rfl ?_
  intro X hl hD hty C hini
  subst hl hD hty
  refine r_iload_n C dX1_number_0 rfl rfl ?_
  rcases (show (w = 0 ∨ w = 1 ∨ w = 2 ∨ w = 3 ∨ w = 4 ∨ w = 5 ∨ w = 6) ∨ (w < 0 ∨ 6 < w) by omega) with (hw | hw | hw | hw | hw | hw | hw) | hw
  · refine r_tabIn (tgt := 44) C dX1_number_1 (by omega) (by omega) (by omega) (by rw [hw]; rfl) (by decide) ?_
    refine r_aload_n C dX1_number_44 rfl rfl ?_
    refine rr_get C flX1_18 dX1_number_45 hk rfl ?_
    exact r_iretD C dX1_number_48 (by unfold numR; first | (subst hw; rfl) | (rw [show w = 7 by omega]; rfl)) rfl
  · refine r_tabIn (tgt := 49) C dX1_number_1 (by omega) (by omega) (by omega) (by rw [hw]; rfl) (by decide) ?_
    refine r_aload_n C dX1_number_49 rfl rfl ?_
    refine rr_get C flX1_35 dX1_number_50 hk rfl ?_
    refine r_cSN C C.2.2.2.2.2.2.2.2.2.2.2.2.1 kasn (c_X4_asNumber (by omega)) dX1_number_53 rfl rfl rfl (Nat.le_of_ble_eq_true rfl) ⟨Nat.le_of_ble_eq_true rfl, Nat.le_of_ble_eq_true rfl⟩ ⟨Nat.le_of_ble_eq_true rfl, Nat.le_of_ble_eq_true rfl⟩ ?_
    exact r_iretD C dX1_number_56 (by unfold numR; first | (subst hw; rfl) | (rw [show w = 7 by omega]; rfl)) rfl
  · refine r_tabIn (tgt := 57) C dX1_number_1 (by omega) (by omega) (by omega) (by rw [hw]; rfl) (by decide) ?_
    refine r_aload_n C dX1_number_57 rfl rfl ?_
    refine rr_get C flX1_38 dX1_number_58 hk rfl ?_
    exact r_iretD C dX1_number_61 (by unfold numR; first | (subst hw; rfl) | (rw [show w = 7 by omega]; rfl)) rfl
  · refine r_tabIn (tgt := 62) C dX1_number_1 (by omega) (by omega) (by omega) (by rw [hw]; rfl) (by decide) ?_
    refine r_aload_n C dX1_number_62 rfl rfl ?_
    refine rr_get C flX1_41 dX1_number_63 hk rfl ?_
    refine r_cSN C C.2.2.2.2.2.2.2.2.2.2.2.2.1 kasn (c_X4_asNumber (by omega)) dX1_number_66 rfl rfl rfl (Nat.le_of_ble_eq_true rfl) ⟨Nat.le_of_ble_eq_true rfl, Nat.le_of_ble_eq_true rfl⟩ ⟨Nat.le_of_ble_eq_true rfl, Nat.le_of_ble_eq_true rfl⟩ ?_
    exact r_iretD C dX1_number_69 (by unfold numR; first | (subst hw; rfl) | (rw [show w = 7 by omega]; rfl)) rfl
  · refine r_tabIn (tgt := 70) C dX1_number_1 (by omega) (by omega) (by omega) (by rw [hw]; rfl) (by decide) ?_
    refine r_aload_n C dX1_number_70 rfl rfl ?_
    refine rr_get C flX1_32 dX1_number_71 hk rfl ?_
    exact r_iretD C dX1_number_74 (by unfold numR; first | (subst hw; rfl) | (rw [show w = 7 by omega]; rfl)) rfl
  · refine r_tabIn (tgt := 75) C dX1_number_1 (by omega) (by omega) (by omega) (by rw [hw]; rfl) (by decide) ?_
    refine r_aload_n C dX1_number_75 rfl rfl ?_
    refine rr_get C flX1_22 dX1_number_76 hk rfl ?_
    refine r_cSN C C.2.2.2.2.2.2.2.2.2.2.2.2.1 kasn (c_X4_asNumber (by omega)) dX1_number_79 rfl rfl rfl (Nat.le_of_ble_eq_true rfl) ⟨Nat.le_of_ble_eq_true rfl, Nat.le_of_ble_eq_true rfl⟩ ⟨Nat.le_of_ble_eq_true rfl, Nat.le_of_ble_eq_true rfl⟩ ?_
    exact r_iretD C dX1_number_82 (by unfold numR; first | (subst hw; rfl) | (rw [show w = 7 by omega]; rfl)) rfl
  · refine r_tabIn (tgt := 83) C dX1_number_1 (by omega) (by omega) (by omega) (by rw [hw]; rfl) (by decide) ?_
    refine r_aload_n C dX1_number_83 rfl rfl ?_
    refine rr_get C flX1_44 dX1_number_84 hk rfl ?_
    exact r_iretD C dX1_number_87 (by unfold numR; first | (subst hw; rfl) | (rw [show w = 7 by omega]; rfl)) rfl
  · refine r_tabOut (tgt := 88) C dX1_number_1 (by omega) hw (by decide) ?_
    refine r_aload_n C dX1_number_88 rfl rfl ?_
    refine r_iconst C dX1_number_89 ?_
    refine r_cV C cwX1_51 (c_X1_keyAt hk (by omega) hm) dX1_number_90 rfl (by omega) rput_0 rfl rfl rfl (Nat.le_of_ble_eq_true rfl) ⟨Nat.le_of_ble_eq_true rfl, Nat.le_of_ble_eq_true rfl⟩ ⟨Nat.le_of_ble_eq_true rfl, Nat.le_of_ble_eq_true rfl⟩ ?_
    exact r_iretD C dX1_number_93 (by unfold numR; first | (subst hw; rfl) | (rw [show w = 7 by omega]; rfl)) rfl

set_option maxRecDepth 100000 in
set_option maxHeartbeats 4000000 in
theorem c_X1_placeOf {l : Launch} {D : va_G} {ty : Nat → ClassId} {ad : Int → Nat} {N : Int} {σ : Int → va_E} {k key : Int} {ρ : Int → Int} (hk : 0 ≤ k ∧ k + 3 ≤ N) (hkey : -2147483648 ≤ key ∧ key < 2147483648) (hm : 0 ≤ ρ 6 ∧ ρ 6 ≤ 4) (hkr : ∀ i, 0 ≤ i → i < 4 → -2147483648 ≤ ρ (7 + i) ∧ ρ (7 + i) < 2147483648) : gM0 l yX1_placeOf cX1_placeOf 3 (some .int) 0 0 [.ref (ad k), .int (gI key)] D ty ad N (rput ad ty σ k ρ) (some (.int (gI (plc ρ key)))) (rput ad ty σ k ρ) := by
  refine gMet_of [some (.ref (ad k)), some (.int (gI key)), none] (by decide +kernel) rfl (Nat.le_of_ble_eq_true rfl) rfl ?_
  intro X hl hD hty C hini
  subst hl hD hty
  refine r_iconst C dX1_placeOf_0 ?_
  refine r_istore_n C dX1_placeOf_1 rfl (Nat.le_of_ble_eq_true rfl) rfl ?_
  dsimp only [List.set]
  have lp : ∀ (n : Nat) (p : Int), (0 ≤ p) → (p + n = ρ 6) → (plcR ρ key n p = plc ρ key) → V X 0 0 (gQ X (gD (some (.int (gI (plc ρ key)))) ad N (rput ad (gty X) σ k ρ)) 0 0) 2 [some (.ref (ad k)), some (.int (gI key)), some (.int (gI p))] [] ad N (rput ad (gty X) σ k ρ) := by
    intro n
    induction n with
    | zero =>
      intro p hp hpn e
      refine r_iload_n C dX1_placeOf_2 rfl rfl ?_
      refine r_aload_n C dX1_placeOf_3 rfl rfl ?_
      refine rr_get C flX1_32 dX1_placeOf_4 hk rfl ?_
      refine r_icmp_ge (tgt := 28) C dX1_placeOf_7 (by decide) (by omega) (by omega) (fun h7 => ?_) (fun h7 => ?_)
      · refine r_iconst C dX1_placeOf_28 ?_
        exact r_iretD C dX1_placeOf_29 (by rw [← e]; rfl) rfl
      · exact absurd h7 (by omega)
    | succ n ih =>
      intro p hp hpn e
      refine r_iload_n C dX1_placeOf_2 rfl rfl ?_
      refine r_aload_n C dX1_placeOf_3 rfl rfl ?_
      refine rr_get C flX1_32 dX1_placeOf_4 hk rfl ?_
      refine r_icmp_ge (tgt := 28) C dX1_placeOf_7 (by decide) (by omega) (by omega) (fun h7 => ?_) (fun h7 => ?_)
      · exact absurd h7 (by omega)
      · refine r_aload_n C dX1_placeOf_10 rfl rfl ?_
        refine rr_get C flX1_9 dX1_placeOf_11 hk rfl ?_
        refine r_iload_n C dX1_placeOf_14 rfl rfl ?_
        first | refine rr_kld C dX1_placeOf_15 hk (by omega) ?_ | refine rr_dld C dX1_placeOf_15 hk (by omega) ?_
        refine r_iload_n C dX1_placeOf_16 rfl rfl ?_
        refine r_icmp_ne (tgt := 22) C dX1_placeOf_17 (by decide) (hkr _ hp (by omega)) hkey (fun h17 => ?_) (fun h17 => ?_)
        · refine r_iinc C dX1_placeOf_22 rfl rfl ?_
          dsimp only [List.set]
          refine r_goto (tgt := 2) C dX1_placeOf_25 (by decide) ?_
          exact ih (p + 1) (by omega) (by omega) (by rw [← e]; exact (if_neg h17).symm)
        · refine r_iload_n C dX1_placeOf_20 rfl rfl ?_
          exact r_iretD C dX1_placeOf_21 (by rw [← e]; exact (if_pos (by omega)).symm) rfl
  exact lp (ρ 6).toNat 0 (by omega) (by omega) rfl

set_option maxRecDepth 100000 in
set_option maxHeartbeats 4000000 in
theorem c_X1_addThing {l : Launch} {D : va_G} {ty : Nat → ClassId} {ad : Int → Nat} {N : Int} {σ : Int → va_E} {k key : Int} {ρ : Int → Int} (hk : 0 ≤ k ∧ k + 3 ≤ N) (hm : 0 ≤ ρ 6 ∧ ρ 6 < 4) : gM0 l yX1_addThing cX1_addThing 2 none 0 0 [.ref (ad k), .int (gI key)] D ty ad N (rput ad ty σ k ρ) (none) (rput ad ty σ k (addR ρ key)) := by
  refine gMet_of [some (.ref (ad k)), some (.int (gI key))] (by decide +kernel) rfl (Nat.le_of_ble_eq_true rfl) rfl ?_
  intro X hl hD hty C hini
  subst hl hD hty
  refine r_aload_n C dX1_addThing_0 rfl rfl ?_
  refine rr_get C flX1_32 dX1_addThing_1 hk rfl ?_
  refine r_iconst C dX1_addThing_4 ?_
  refine r_icmp_ge (tgt := 38) C dX1_addThing_5 (by decide) (by omega) (by omega) (fun h5 => ?_) (fun h5 => ?_)
  · exact absurd h5 (by omega)
  · refine r_aload_n C dX1_addThing_8 rfl rfl ?_
    refine rr_get C flX1_9 dX1_addThing_9 hk rfl ?_
    refine r_aload_n C dX1_addThing_12 rfl rfl ?_
    refine rr_get C flX1_32 dX1_addThing_13 hk rfl ?_
    refine r_iload_n C dX1_addThing_16 rfl rfl ?_
    first | refine rr_kst C dX1_addThing_17 hk (by omega) ?_ | refine rr_dst C dX1_addThing_17 hk (by omega) ?_
    refine r_aload_n C dX1_addThing_18 rfl rfl ?_
    refine rr_get C flX1_15 dX1_addThing_19 hk rfl ?_
    refine r_aload_n C dX1_addThing_22 rfl rfl ?_
    refine rr_get C flX1_32 dX1_addThing_23 hk rfl ?_
    rw [up_n (show (6 : Int) ≠ 7 + ρ 6 by omega)]
    refine r_iconst C dX1_addThing_26 ?_
    first | refine rr_kst C dX1_addThing_27 hk (by omega) ?_ | refine rr_dst C dX1_addThing_27 hk (by omega) ?_
    refine r_aload_n C dX1_addThing_28 rfl rfl ?_
    refine r_dup C dX1_addThing_29 rfl ?_
    refine rr_get C flX1_32 dX1_addThing_30 hk rfl ?_
    rw [up_n (show (6 : Int) ≠ 11 + ρ 6 by omega), up_n (show (6 : Int) ≠ 7 + ρ 6 by omega)]
    refine r_iconst C dX1_addThing_33 ?_
    refine r_iadd C dX1_addThing_34 ?_
    refine rr_put (j := 6) C flX1_32 dX1_addThing_35 hk (by decide) rfl rfl rfl rfl ?_
    exact r_vretD C dX1_addThing_38 rfl

set_option maxRecDepth 100000 in
set_option maxHeartbeats 4000000 in
theorem c_X1_takeNewCandle {l : Launch} {D : va_G} {ty : Nat → ClassId} {ad : Int → Nat} {N : Int} {σ : Int → va_E} {k : Int} {ρ : Int → Int} (hk : 0 ≤ k ∧ k + 3 ≤ N) : gM0 l yX1_takeNewCandle cX1_takeNewCandle 1 none 0 0 [.ref (ad k)] D ty ad N (rput ad ty σ k ρ) (none) (rput ad ty σ k (newR ρ)) := by
  refine gMet_of [some (.ref (ad k))] (by decide +kernel) rfl (Nat.le_of_ble_eq_true rfl) rfl ?_
  intro X hl hD hty C hini
  subst hl hD hty
  refine r_aload_n C dX1_takeNewCandle_0 rfl rfl ?_
  refine r_bipush C dX1_takeNewCandle_1 (by decide) ?_
  refine rr_put (j := 0) C flX1_18 dX1_takeNewCandle_3 hk (by decide) rfl rfl rfl rfl ?_
  refine r_aload_n C dX1_takeNewCandle_6 rfl rfl ?_
  refine r_iconst C dX1_takeNewCandle_7 ?_
  refine rr_put (j := 2) C flX1_38 dX1_takeNewCandle_8 hk (by decide) rfl rfl rfl rfl ?_
  refine r_aload_n C dX1_takeNewCandle_11 rfl rfl ?_
  refine r_iconst C dX1_takeNewCandle_12 ?_
  refine rr_put (j := 1) C flX1_35 dX1_takeNewCandle_13 hk (by decide) rfl rfl (gI_z (by omega)) (gI_f (by omega)) ?_
  exact r_vretD C dX1_takeNewCandle_16 rfl

set_option maxRecDepth 100000 in
set_option maxHeartbeats 4000000 in
theorem c_X1_burntInBeat {l : Launch} {D : va_G} {ty : Nat → ClassId} {ad : Int → Nat} {N : Int} {σ : Int → va_E} {w : Int} (hw : -2147483648 ≤ w ∧ w < 2147483648) : gM0 l yX1_burntInBeat cX1_burntInBeat 1 (some .int) 1 20 [.int (gI w)] D ty ad N (σ) (some (.int (gI (lessR w)))) (σ) := by
  refine gMet_of [some (.int (gI w))] (by decide +kernel) rfl (Nat.le_of_ble_eq_true rfl) rfl ?_
  intro X hl hD hty C hini
  subst hl hD hty
  refine r_iconst C dX1_burntInBeat_0 ?_
  refine r_iload_n C dX1_burntInBeat_1 rfl rfl ?_
  refine r_iconst C dX1_burntInBeat_2 ?_
  refine r_icmp_lt (tgt := 10) C dX1_burntInBeat_3 (by decide) (by omega) (by omega) (fun h3 => ?_) (fun h3 => ?_)
  · refine r_iconst C dX1_burntInBeat_10 ?_
    refine r_cSN C C.2.2.2.2.2.2.2.2.2.2.2.2.1 kasn (c_X4_asNumber (by omega)) dX1_burntInBeat_11 rfl rfl rfl (Nat.le_of_ble_eq_true rfl) ⟨Nat.le_of_ble_eq_true rfl, Nat.le_of_ble_eq_true rfl⟩ ⟨Nat.le_of_ble_eq_true rfl, Nat.le_of_ble_eq_true rfl⟩ ?_
    refine r_iadd C dX1_burntInBeat_14 ?_
    refine r_iload_n C dX1_burntInBeat_15 rfl rfl ?_
    refine r_bipush C dX1_burntInBeat_16 (by decide) ?_
    refine r_icmp_lt (tgt := 25) C dX1_burntInBeat_18 (by decide) (by omega) (by omega) (fun h18 => ?_) (fun h18 => ?_)
    · refine r_iconst C dX1_burntInBeat_25 ?_
      refine r_cSN C C.2.2.2.2.2.2.2.2.2.2.2.2.1 kasn (c_X4_asNumber (by omega)) dX1_burntInBeat_26 rfl rfl rfl (Nat.le_of_ble_eq_true rfl) ⟨Nat.le_of_ble_eq_true rfl, Nat.le_of_ble_eq_true rfl⟩ ⟨Nat.le_of_ble_eq_true rfl, Nat.le_of_ble_eq_true rfl⟩ ?_
      refine r_iadd C dX1_burntInBeat_29 ?_
      exact r_iretD C dX1_burntInBeat_30 (by unfold lessR; (repeat' split) <;> omega) rfl
    · refine r_iconst C dX1_burntInBeat_21 ?_
      refine r_goto (tgt := 26) C dX1_burntInBeat_22 (by decide) ?_
      refine r_cSN C C.2.2.2.2.2.2.2.2.2.2.2.2.1 kasn (c_X4_asNumber (by omega)) dX1_burntInBeat_26 rfl rfl rfl (Nat.le_of_ble_eq_true rfl) ⟨Nat.le_of_ble_eq_true rfl, Nat.le_of_ble_eq_true rfl⟩ ⟨Nat.le_of_ble_eq_true rfl, Nat.le_of_ble_eq_true rfl⟩ ?_
      refine r_iadd C dX1_burntInBeat_29 ?_
      exact r_iretD C dX1_burntInBeat_30 (by unfold lessR; (repeat' split) <;> omega) rfl
  · refine r_iconst C dX1_burntInBeat_6 ?_
    refine r_goto (tgt := 11) C dX1_burntInBeat_7 (by decide) ?_
    refine r_cSN C C.2.2.2.2.2.2.2.2.2.2.2.2.1 kasn (c_X4_asNumber (by omega)) dX1_burntInBeat_11 rfl rfl rfl (Nat.le_of_ble_eq_true rfl) ⟨Nat.le_of_ble_eq_true rfl, Nat.le_of_ble_eq_true rfl⟩ ⟨Nat.le_of_ble_eq_true rfl, Nat.le_of_ble_eq_true rfl⟩ ?_
    refine r_iadd C dX1_burntInBeat_14 ?_
    refine r_iload_n C dX1_burntInBeat_15 rfl rfl ?_
    refine r_bipush C dX1_burntInBeat_16 (by decide) ?_
    refine r_icmp_lt (tgt := 25) C dX1_burntInBeat_18 (by decide) (by omega) (by omega) (fun h18 => ?_) (fun h18 => ?_)
    · refine r_iconst C dX1_burntInBeat_25 ?_
      refine r_cSN C C.2.2.2.2.2.2.2.2.2.2.2.2.1 kasn (c_X4_asNumber (by omega)) dX1_burntInBeat_26 rfl rfl rfl (Nat.le_of_ble_eq_true rfl) ⟨Nat.le_of_ble_eq_true rfl, Nat.le_of_ble_eq_true rfl⟩ ⟨Nat.le_of_ble_eq_true rfl, Nat.le_of_ble_eq_true rfl⟩ ?_
      refine r_iadd C dX1_burntInBeat_29 ?_
      exact r_iretD C dX1_burntInBeat_30 (by unfold lessR; (repeat' split) <;> omega) rfl
    · refine r_iconst C dX1_burntInBeat_21 ?_
      refine r_goto (tgt := 26) C dX1_burntInBeat_22 (by decide) ?_
      refine r_cSN C C.2.2.2.2.2.2.2.2.2.2.2.2.1 kasn (c_X4_asNumber (by omega)) dX1_burntInBeat_26 rfl rfl rfl (Nat.le_of_ble_eq_true rfl) ⟨Nat.le_of_ble_eq_true rfl, Nat.le_of_ble_eq_true rfl⟩ ⟨Nat.le_of_ble_eq_true rfl, Nat.le_of_ble_eq_true rfl⟩ ?_
      refine r_iadd C dX1_burntInBeat_29 ?_
      exact r_iretD C dX1_burntInBeat_30 (by unfold lessR; (repeat' split) <;> omega) rfl

set_option maxRecDepth 100000 in
set_option maxHeartbeats 4000000 in
theorem c_X1_burnForBeat {l : Launch} {D : va_G} {ty : Nat → ClassId} {ad : Int → Nat} {N : Int} {σ : Int → va_E} {k : Int} {ρ : Int → Int} (hk : 0 ≤ k ∧ k + 3 ≤ N) (hl : 0 ≤ ρ 0 ∧ ρ 0 ≤ 60) (hb : ρ 1 = 0 ∨ ρ 1 = 1) (hwk : 0 ≤ ρ 2 ∧ ρ 2 ≤ 9) : gM0 l yX1_burnForBeat cX1_burnForBeat 1 none 2 40 [.ref (ad k)] D ty ad N (rput ad ty σ k ρ) (none) (rput ad ty σ k (burnR ρ)) := by
  refine gMet_of [some (.ref (ad k))] (by decide +kernel) rfl (Nat.le_of_ble_eq_true rfl) rfl ?_
  intro X hl hD hty C hini
  subst hl hD hty
  have hr := lessR_rng (ρ 2)
  refine r_aload_n C dX1_burnForBeat_0 rfl rfl ?_
  refine rr_get C flX1_35 dX1_burnForBeat_1 hk rfl ?_
  refine r_if_ne (tgt := 8) C dX1_burnForBeat_4 (by decide) (by omega) (fun h4 => ?_) (fun h4 => ?_)
  · refine r_aload_n C dX1_burnForBeat_8 rfl rfl ?_
    refine r_dup C dX1_burnForBeat_9 rfl ?_
    refine rr_get C flX1_44 dX1_burnForBeat_10 hk rfl ?_
    refine r_iconst C dX1_burnForBeat_13 ?_
    refine r_iadd C dX1_burnForBeat_14 ?_
    refine rr_put (j := 4) C flX1_44 dX1_burnForBeat_15 hk (by decide) rfl rfl rfl rfl ?_
    refine r_aload_n C dX1_burnForBeat_18 rfl rfl ?_
    refine r_iconst C dX1_burnForBeat_19 ?_
    refine r_aload_n C dX1_burnForBeat_20 rfl rfl ?_
    refine rr_get C flX1_18 dX1_burnForBeat_21 hk rfl ?_
    simp only [up_ap, Int.reduceEq, reduceIte]
    refine r_aload_n C dX1_burnForBeat_24 rfl rfl ?_
    refine rr_get C flX1_38 dX1_burnForBeat_25 hk rfl ?_
    simp only [up_ap, Int.reduceEq, reduceIte]
    refine r_cS C cwX1_55 (c_X1_burntInBeat (by omega)) dX1_burnForBeat_28 rfl rfl rfl (Nat.le_of_ble_eq_true rfl) ⟨Nat.le_of_ble_eq_true rfl, Nat.le_of_ble_eq_true rfl⟩ ⟨Nat.le_of_ble_eq_true rfl, Nat.le_of_ble_eq_true rfl⟩ ?_
    refine r_isub C dX1_burnForBeat_31 ?_
    refine r_cS C cwX1_58 (c_J9_max_7cf53 (by omega) (by omega)) dX1_burnForBeat_32 rfl rfl rfl (Nat.le_of_ble_eq_true rfl) ⟨Nat.le_of_ble_eq_true rfl, Nat.le_of_ble_eq_true rfl⟩ ⟨Nat.le_of_ble_eq_true rfl, Nat.le_of_ble_eq_true rfl⟩ ?_
    refine rr_put (j := 0) C flX1_18 dX1_burnForBeat_35 hk (by decide) rfl rfl rfl rfl ?_
    refine r_aload_n C dX1_burnForBeat_38 rfl rfl ?_
    refine r_aload_n C dX1_burnForBeat_39 rfl rfl ?_
    refine rr_get C flX1_18 dX1_burnForBeat_40 hk rfl ?_
    simp only [up_ap, Int.reduceEq, reduceIte]
    refine r_if_le (tgt := 50) C dX1_burnForBeat_43 (by decide) (by omega) (fun h43 => ?_) (fun h43 => ?_)
    · refine r_iconst C dX1_burnForBeat_50 ?_
      refine rr_put (j := 1) C flX1_35 dX1_burnForBeat_51 hk (by decide) rfl rfl (gI_z (by omega)) (gI_f (by omega)) ?_
      refine r_aload_n C dX1_burnForBeat_54 rfl rfl ?_
      refine rr_get C flX1_35 dX1_burnForBeat_55 hk rfl ?_
      simp only [up_ap, Int.reduceEq, reduceIte]
      refine r_if_eq (tgt := 76) C dX1_burnForBeat_58 (by decide) (by omega) (fun h58 => ?_) (fun h58 => ?_)
      · first
        | exact absurd h58 (by decide)
        | exact r_vretD C dX1_burnForBeat_76 (by unfold burnR; first | rw [if_neg (by omega), if_pos (by omega)] | rw [if_neg (by omega), if_neg (by omega)])
      · first
        | exact absurd h58 (by decide)
        | refine r_aload_n C dX1_burnForBeat_61 rfl rfl ?_
          refine r_bipush C dX1_burnForBeat_62 (by decide) ?_
          refine r_aload_n C dX1_burnForBeat_64 rfl rfl ?_
          refine rr_get C flX1_38 dX1_burnForBeat_65 hk rfl ?_
          simp only [up_ap, Int.reduceEq, reduceIte]
          refine r_iconst C dX1_burnForBeat_68 ?_
          refine r_iadd C dX1_burnForBeat_69 ?_
          refine r_cS C cwX1_64 (c_J9_min_7cf53 (by omega) (by omega)) dX1_burnForBeat_70 rfl rfl rfl (Nat.le_of_ble_eq_true rfl) ⟨Nat.le_of_ble_eq_true rfl, Nat.le_of_ble_eq_true rfl⟩ ⟨Nat.le_of_ble_eq_true rfl, Nat.le_of_ble_eq_true rfl⟩ ?_
          refine rr_put (j := 2) C flX1_38 dX1_burnForBeat_73 hk (by decide) rfl rfl rfl rfl ?_
          exact r_vretD C dX1_burnForBeat_76 (by unfold burnR; first | rw [if_neg (by omega), if_pos (by omega)] | rw [if_neg (by omega), if_neg (by omega)])
    · refine r_iconst C dX1_burnForBeat_46 ?_
      refine r_goto (tgt := 51) C dX1_burnForBeat_47 (by decide) ?_
      refine rr_put (j := 1) C flX1_35 dX1_burnForBeat_51 hk (by decide) rfl rfl (gI_z (by omega)) (gI_f (by omega)) ?_
      refine r_aload_n C dX1_burnForBeat_54 rfl rfl ?_
      refine rr_get C flX1_35 dX1_burnForBeat_55 hk rfl ?_
      simp only [up_ap, Int.reduceEq, reduceIte]
      refine r_if_eq (tgt := 76) C dX1_burnForBeat_58 (by decide) (by omega) (fun h58 => ?_) (fun h58 => ?_)
      · first
        | exact absurd h58 (by decide)
        | exact r_vretD C dX1_burnForBeat_76 (by unfold burnR; first | rw [if_neg (by omega), if_pos (by omega)] | rw [if_neg (by omega), if_neg (by omega)])
      · first
        | exact absurd h58 (by decide)
        | refine r_aload_n C dX1_burnForBeat_61 rfl rfl ?_
          refine r_bipush C dX1_burnForBeat_62 (by decide) ?_
          refine r_aload_n C dX1_burnForBeat_64 rfl rfl ?_
          refine rr_get C flX1_38 dX1_burnForBeat_65 hk rfl ?_
          simp only [up_ap, Int.reduceEq, reduceIte]
          refine r_iconst C dX1_burnForBeat_68 ?_
          refine r_iadd C dX1_burnForBeat_69 ?_
          refine r_cS C cwX1_64 (c_J9_min_7cf53 (by omega) (by omega)) dX1_burnForBeat_70 rfl rfl rfl (Nat.le_of_ble_eq_true rfl) ⟨Nat.le_of_ble_eq_true rfl, Nat.le_of_ble_eq_true rfl⟩ ⟨Nat.le_of_ble_eq_true rfl, Nat.le_of_ble_eq_true rfl⟩ ?_
          refine rr_put (j := 2) C flX1_38 dX1_burnForBeat_73 hk (by decide) rfl rfl rfl rfl ?_
          exact r_vretD C dX1_burnForBeat_76 (by unfold burnR; first | rw [if_neg (by omega), if_pos (by omega)] | rw [if_neg (by omega), if_neg (by omega)])
  · exact r_vretD C dX1_burnForBeat_7 (by unfold burnR; rw [if_pos (by omega)])

set_option maxRecDepth 100000 in
set_option maxHeartbeats 4000000 in
theorem c_X1_beatsUntrimmed {l : Launch} {D : va_G} {ty : Nat → ClassId} {ad : Int → Nat} {N : Int} {σ : Int → va_E} {k : Int} {ρ : Int → Int} (hk : 0 ≤ k ∧ k + 3 ≤ N) (hl : 0 ≤ ρ 0 ∧ ρ 0 ≤ 60) (hwk : 0 ≤ ρ 2 ∧ ρ 2 ≤ 9) : gM0 l yX1_beatsUntrimmed cX1_beatsUntrimmed 4 (some .int) 2 40 [.ref (ad k)] D ty ad N (rput ad ty σ k ρ) (some (.int (gI (untr 60 (ρ 0) (ρ 2))))) (rput ad ty σ k ρ) := by
  refine gMet_of [some (.ref (ad k)), none, none, none] (by decide +kernel) rfl (Nat.le_of_ble_eq_true rfl) rfl ?_
  intro X hl hD hty C hini
  subst hl hD hty
  refine r_aload_n C dX1_beatsUntrimmed_0 rfl rfl ?_
  refine rr_get C flX1_18 dX1_beatsUntrimmed_1 hk rfl ?_
  refine r_istore_n C dX1_beatsUntrimmed_4 rfl (Nat.le_of_ble_eq_true rfl) rfl ?_
  dsimp only [List.set]
  refine r_aload_n C dX1_beatsUntrimmed_5 rfl rfl ?_
  refine rr_get C flX1_38 dX1_beatsUntrimmed_6 hk rfl ?_
  refine r_istore_n C dX1_beatsUntrimmed_9 rfl (Nat.le_of_ble_eq_true rfl) rfl ?_
  dsimp only [List.set]
  refine r_iconst C dX1_beatsUntrimmed_10 ?_
  refine r_istore_n C dX1_beatsUntrimmed_11 rfl (Nat.le_of_ble_eq_true rfl) rfl ?_
  dsimp only [List.set]
  have lp : ∀ (n : Nat) (l t b : Int), (-3 ≤ l ∧ l ≤ 60) → (0 ≤ t ∧ t ≤ 9) → (0 ≤ b) → (b + n = 60) → (b + untr n l t = untr 60 (ρ 0) (ρ 2)) → V X 0 0 (gQ X (gD (some (.int (gI (untr 60 (ρ 0) (ρ 2))))) ad N (rput ad (gty X) σ k ρ)) 0 0) 12 [some (.ref (ad k)), some (.int (gI l)), some (.int (gI t)), some (.int (gI b))] [] ad N (rput ad (gty X) σ k ρ) := by
    intro n
    induction n with
    | zero =>
      intro l t b hl2 ht2 hb2 hbn e
      refine r_iload_n C dX1_beatsUntrimmed_12 rfl rfl ?_
      refine r_bipush C dX1_beatsUntrimmed_13 (by decide) ?_
      refine r_icmp_ge (tgt := 46) C dX1_beatsUntrimmed_15 (by decide) (by omega) (by omega) (fun h15 => ?_) (fun h15 => ?_)
      · refine r_bipush C dX1_beatsUntrimmed_46 (by decide) ?_
        exact r_iretD C dX1_beatsUntrimmed_48 (by rw [← e]; simp only [untr]; omega) rfl
      · exact absurd h15 (by omega)
    | succ n ih =>
      intro l t b hl2 ht2 hb2 hbn e
      have hr := lessR_rng t
      refine r_iload_n C dX1_beatsUntrimmed_12 rfl rfl ?_
      refine r_bipush C dX1_beatsUntrimmed_13 (by decide) ?_
      refine r_icmp_ge (tgt := 46) C dX1_beatsUntrimmed_15 (by decide) (by omega) (by omega) (fun h15 => ?_) (fun h15 => ?_)
      · exact absurd h15 (by omega)
      · refine r_iload_n C dX1_beatsUntrimmed_18 rfl rfl ?_
        refine r_if_gt (tgt := 24) C dX1_beatsUntrimmed_19 (by decide) (by omega) (fun h19 => ?_) (fun h19 => ?_)
        · refine r_iload_n C dX1_beatsUntrimmed_24 rfl rfl ?_
          refine r_iload_n C dX1_beatsUntrimmed_25 rfl rfl ?_
          refine r_cS C cwX1_55 (c_X1_burntInBeat (by omega)) dX1_beatsUntrimmed_26 rfl rfl rfl (Nat.le_of_ble_eq_true rfl) ⟨Nat.le_of_ble_eq_true rfl, Nat.le_of_ble_eq_true rfl⟩ ⟨Nat.le_of_ble_eq_true rfl, Nat.le_of_ble_eq_true rfl⟩ ?_
          refine r_isub C dX1_beatsUntrimmed_29 ?_
          refine r_istore_n C dX1_beatsUntrimmed_30 rfl (Nat.le_of_ble_eq_true rfl) rfl ?_
          dsimp only [List.set]
          refine r_bipush C dX1_beatsUntrimmed_31 (by decide) ?_
          refine r_iload_n C dX1_beatsUntrimmed_33 rfl rfl ?_
          refine r_iconst C dX1_beatsUntrimmed_34 ?_
          refine r_iadd C dX1_beatsUntrimmed_35 ?_
          refine r_cS C cwX1_64 (c_J9_min_7cf53 (by omega) (by omega)) dX1_beatsUntrimmed_36 rfl rfl rfl (Nat.le_of_ble_eq_true rfl) ⟨Nat.le_of_ble_eq_true rfl, Nat.le_of_ble_eq_true rfl⟩ ⟨Nat.le_of_ble_eq_true rfl, Nat.le_of_ble_eq_true rfl⟩ ?_
          refine r_istore_n C dX1_beatsUntrimmed_39 rfl (Nat.le_of_ble_eq_true rfl) rfl ?_
          dsimp only [List.set]
          refine r_iinc C dX1_beatsUntrimmed_40 rfl rfl ?_
          dsimp only [List.set]
          refine r_goto (tgt := 12) C dX1_beatsUntrimmed_43 (by decide) ?_
          exact ih _ _ (b + 1) (by omega) (by omega) (by omega) (by omega) (by rw [← e, untr, if_neg (by omega)]; omega)
        · refine r_iload_n C dX1_beatsUntrimmed_22 rfl rfl ?_
          exact r_iretD C dX1_beatsUntrimmed_23 (by rw [← e, untr, if_pos (by omega)]; omega) rfl
  exact lp 60 (ρ 0) (ρ 2) 0 (by omega) (by omega) (by omega) (by omega) (by omega)

set_option maxRecDepth 100000 in
set_option maxHeartbeats 4000000 in
theorem c_X1_beatsSaved {l : Launch} {D : va_G} {ty : Nat → ClassId} {ad : Int → Nat} {N : Int} {σ : Int → va_E} {k : Int} {ρ : Int → Int} (hk : 0 ≤ k ∧ k + 3 ≤ N) (hl : 0 ≤ ρ 0 ∧ ρ 0 ≤ 60) (hb : ρ 1 = 0 ∨ ρ 1 = 1) (hwk : 0 ≤ ρ 2 ∧ ρ 2 ≤ 9) : gM0 l yX1_beatsSaved cX1_beatsSaved 1 (some .int) 3 63 [.ref (ad k)] D ty ad N (rput ad ty σ k ρ) (some (.int (gI (savR ρ)))) (rput ad ty σ k ρ) := by
  refine gMet_of [some (.ref (ad k))] (by decide +kernel) rfl (Nat.le_of_ble_eq_true rfl) rfl ?_
  intro X hl hD hty C hini
  subst hl hD hty
  refine r_aload_n C dX1_beatsSaved_0 rfl rfl ?_
  refine rr_get C flX1_35 dX1_beatsSaved_1 hk rfl ?_
  refine r_if_eq (tgt := 19) C dX1_beatsSaved_4 (by decide) (by omega) (fun h4 => ?_) (fun h4 => ?_)
  · refine r_iconst C dX1_beatsSaved_19 ?_
    exact r_iretD C dX1_beatsSaved_20 (by unfold savR; first | rw [if_pos (by omega)] | rw [if_neg (by omega)]) rfl
  · refine r_aload_n C dX1_beatsSaved_7 rfl rfl ?_
    refine rr_get C flX1_18 dX1_beatsSaved_8 hk rfl ?_
    refine r_aload_n C dX1_beatsSaved_11 rfl rfl ?_
    refine r_cV C cwX1_67 (c_X1_beatsUntrimmed hk hl hwk) dX1_beatsSaved_12 rfl (by omega) rput_0 rfl rfl rfl (Nat.le_of_ble_eq_true rfl) ⟨Nat.le_of_ble_eq_true rfl, Nat.le_of_ble_eq_true rfl⟩ ⟨Nat.le_of_ble_eq_true rfl, Nat.le_of_ble_eq_true rfl⟩ ?_
    refine r_isub C dX1_beatsSaved_15 ?_
    refine r_goto (tgt := 20) C dX1_beatsSaved_16 (by decide) ?_
    exact r_iretD C dX1_beatsSaved_20 (by unfold savR; first | rw [if_pos (by omega)] | rw [if_neg (by omega)]) rfl

set_option maxRecDepth 100000 in
set_option maxHeartbeats 4000000 in
theorem c_X1_ageThings {l : Launch} {D : va_G} {ty : Nat → ClassId} {ad : Int → Nat} {N : Int} {σ : Int → va_E} {k set : Int} {ρ : Int → Int} (hk : 0 ≤ k ∧ k + 3 ≤ N) (hm : 0 ≤ ρ 6 ∧ ρ 6 ≤ 4) (hb : ρ 1 = 0 ∨ ρ 1 = 1) (hset : 1 ≤ set ∧ set ≤ 50) (hd0 : ∀ i, 0 ≤ i → i < 4 → 0 ≤ ρ (11 + i) ∧ ρ (11 + i) ≤ 100) : gM0 l yX1_ageThings cX1_ageThings 5 (some .int) 0 0 [.ref (ad k), .int (gI set)] D ty ad N (rput ad ty σ k ρ) (some (.int (gI (ρ 6 - ageQ ρ set)))) (rput ad ty σ k (ageR ρ set)) := by
  refine gMet_of [some (.ref (ad k)), some (.int (gI set)), none, none, none] (by decide +kernel) rfl (Nat.le_of_ble_eq_true rfl) rfl ?_
  intro X hl hD hty C hini
  subst hl hD hty
  refine r_iconst C dX1_ageThings_0 ?_
  refine r_istore_n C dX1_ageThings_1 rfl (Nat.le_of_ble_eq_true rfl) rfl ?_
  dsimp only [List.set]
  refine r_iconst C dX1_ageThings_2 ?_
  refine r_istore_n C dX1_ageThings_3 rfl (Nat.le_of_ble_eq_true rfl) rfl ?_
  dsimp only [List.set]
  have lp : ∀ (n : Nat) (p q : Int) (r : Int → Int), (0 ≤ q ∧ q ≤ p) → (p + n = ρ 6) → (r 1 = 0 ∨ r 1 = 1) → (r 6 = ρ 6) → (r 1 = ρ 1) → (∀ i, 0 ≤ i → i < 4 → 0 ≤ r (11 + i) ∧ r (11 + i) ≤ 100) → (ageL set n p q r = ageL set (ρ 6).toNat 0 0 ρ) → V X 0 0 (gQ X (gD (some (.int (gI (ρ 6 - ageQ ρ set)))) ad N (rput ad (gty X) σ k (ageR ρ set))) 0 0) 4 [some (.ref (ad k)), some (.int (gI set)), some (.int (gI q)), some (.int (gI p)), none] [] ad N (rput ad (gty X) σ k r) := by
    intro n
    induction n with
    | zero =>
      intro p q r hp hpn hb2 h6 hb1 hd2 e
      refine r_iload_n C dX1_ageThings_4 rfl rfl ?_
      refine r_aload_n C dX1_ageThings_5 rfl rfl ?_
      refine rr_get C flX1_32 dX1_ageThings_6 hk rfl ?_
      refine r_icmp_ge (tgt := 68) C dX1_ageThings_9 (by decide) (by omega) (by omega) (fun h9 => ?_) (fun h9 => ?_)
      · refine r_aload_n C dX1_ageThings_68 rfl rfl ?_
        refine rr_get C flX1_32 dX1_ageThings_69 hk rfl ?_
        refine r_iload_n C dX1_ageThings_72 rfl rfl ?_
        refine r_isub C dX1_ageThings_73 ?_
        refine r_istore_n C dX1_ageThings_74 rfl (Nat.le_of_ble_eq_true rfl) rfl ?_
        dsimp only [List.set]
        refine r_aload_n C dX1_ageThings_75 rfl rfl ?_
        refine r_iload_n C dX1_ageThings_76 rfl rfl ?_
        refine rr_put (j := 6) C flX1_32 dX1_ageThings_77 hk (by decide) rfl rfl rfl rfl ?_
        refine r_iload_n C dX1_ageThings_80 rfl rfl ?_
        exact r_iretD C dX1_ageThings_81 (by unfold ageQ; rw [← e, h6]; rfl) (by unfold ageR ageQ; rw [← e]; rfl)
      · exact absurd h9 (by omega)
    | succ n ih =>
      intro p q r hp hpn hb2 h6 hb1 hd2 e
      have hdp := hd2 p (by omega)
      refine r_iload_n C dX1_ageThings_4 rfl rfl ?_
      refine r_aload_n C dX1_ageThings_5 rfl rfl ?_
      refine rr_get C flX1_32 dX1_ageThings_6 hk rfl ?_
      refine r_icmp_ge (tgt := 68) C dX1_ageThings_9 (by decide) (by omega) (by omega) (fun h9 => ?_) (fun h9 => ?_)
      · exact absurd h9 (by omega)
      · refine r_aload_n C dX1_ageThings_12 rfl rfl ?_
        refine rr_get C flX1_35 dX1_ageThings_13 hk rfl ?_
        refine r_if_eq (tgt := 23) C dX1_ageThings_16 (by decide) (by omega) (fun h16 => ?_) (fun h16 => ?_)
        · have hdp := hdp (by omega)
          refine r_aload_n C dX1_ageThings_23 rfl rfl ?_
          refine rr_get C flX1_15 dX1_ageThings_24 hk rfl ?_
          refine r_iload_n C dX1_ageThings_27 rfl rfl ?_
          first | refine rr_kld C dX1_ageThings_28 hk (by omega) ?_ | refine rr_dld C dX1_ageThings_28 hk (by omega) ?_
          refine r_iconst C dX1_ageThings_29 ?_
          refine r_iadd C dX1_ageThings_30 ?_
          refine r_istore C dX1_ageThings_31 (Nat.le_of_ble_eq_true rfl) rfl ?_
          dsimp only [List.set]
          refine r_iload C dX1_ageThings_33 rfl ?_
          refine r_iload_n C dX1_ageThings_35 rfl rfl ?_
          refine r_icmp_ge (tgt := 62) C dX1_ageThings_36 (by decide) (by omega) (by omega) (fun h36 => ?_) (fun h36 => ?_)
          · refine r_iinc C dX1_ageThings_62 rfl rfl ?_
            dsimp only [List.set]
            refine r_goto (tgt := 4) C dX1_ageThings_65 (by decide) ?_
            first
            | (refine V_sub (L' := [some (.ref (ad k)), some (.int (gI set)), some (.int (gI (q + 1))), some (.int (gI (p + 1))), none]) rfl (fun i v hv => by match i, hv with | 0, hv => exact hv | 1, hv => exact hv | 2, hv => exact hv | 3, hv => exact hv | 4, hv => simp at hv | i + 5, hv => simp at hv) ?_; exact ih _ (q + 1) _ (by omega) (by omega) (by rw [up_n (by omega), up_n (by omega)]; exact hb2) (by rw [up_n (by omega), up_n (by omega)]; exact h6) (by rw [up_n (by omega), up_n (by omega)]; exact hb1) (fun i h1 h2 => if hi : i = q then (by rw [hi, up_s]; omega) else (by rw [up_n (by omega), up_n (by omega)]; exact hd2 i h1 h2)) ((show _ = ageL set (n + 1) p q r by simp only [ageL, h16, h36, Int.reduceEq, reduceIte]).trans e))
            | (refine V_sub (L' := [some (.ref (ad k)), some (.int (gI set)), some (.int (gI q)), some (.int (gI (p + 1))), none]) rfl (fun i v hv => by match i, hv with | 0, hv => exact hv | 1, hv => exact hv | 2, hv => exact hv | 3, hv => exact hv | 4, hv => simp at hv | i + 5, hv => simp at hv) ?_; exact ih _ q _ (by omega) (by omega) hb2 h6 hb1 hd2 ((show _ = ageL set (n + 1) p q r by simp only [ageL, h16, Int.not_lt.mpr h36, reduceIte]).trans e))
          · refine r_aload_n C dX1_ageThings_39 rfl rfl ?_
            refine rr_get C flX1_9 dX1_ageThings_40 hk rfl ?_
            refine r_iload_n C dX1_ageThings_43 rfl rfl ?_
            refine r_aload_n C dX1_ageThings_44 rfl rfl ?_
            refine rr_get C flX1_9 dX1_ageThings_45 hk rfl ?_
            refine r_iload_n C dX1_ageThings_48 rfl rfl ?_
            first | refine rr_kld C dX1_ageThings_49 hk (by omega) ?_ | refine rr_dld C dX1_ageThings_49 hk (by omega) ?_
            first | refine rr_kst C dX1_ageThings_50 hk (by omega) ?_ | refine rr_dst C dX1_ageThings_50 hk (by omega) ?_
            refine r_aload_n C dX1_ageThings_51 rfl rfl ?_
            refine rr_get C flX1_15 dX1_ageThings_52 hk rfl ?_
            refine r_iload_n C dX1_ageThings_55 rfl rfl ?_
            refine r_iload C dX1_ageThings_56 rfl ?_
            first | refine rr_kst C dX1_ageThings_58 hk (by omega) ?_ | refine rr_dst C dX1_ageThings_58 hk (by omega) ?_
            refine r_iinc C dX1_ageThings_59 rfl rfl ?_
            dsimp only [List.set]
            refine r_iinc C dX1_ageThings_62 rfl rfl ?_
            dsimp only [List.set]
            refine r_goto (tgt := 4) C dX1_ageThings_65 (by decide) ?_
            first
            | (refine V_sub (L' := [some (.ref (ad k)), some (.int (gI set)), some (.int (gI (q + 1))), some (.int (gI (p + 1))), none]) rfl (fun i v hv => by match i, hv with | 0, hv => exact hv | 1, hv => exact hv | 2, hv => exact hv | 3, hv => exact hv | 4, hv => simp at hv | i + 5, hv => simp at hv) ?_; exact ih _ (q + 1) _ (by omega) (by omega) (by rw [up_n (by omega), up_n (by omega)]; exact hb2) (by rw [up_n (by omega), up_n (by omega)]; exact h6) (by rw [up_n (by omega), up_n (by omega)]; exact hb1) (fun i h1 h2 => if hi : i = q then (by rw [hi, up_s]; omega) else (by rw [up_n (by omega), up_n (by omega)]; exact hd2 i h1 h2)) ((show _ = ageL set (n + 1) p q r by simp only [ageL, h16, h36, Int.reduceEq, reduceIte]).trans e))
            | (refine V_sub (L' := [some (.ref (ad k)), some (.int (gI set)), some (.int (gI q)), some (.int (gI (p + 1))), none]) rfl (fun i v hv => by match i, hv with | 0, hv => exact hv | 1, hv => exact hv | 2, hv => exact hv | 3, hv => exact hv | 4, hv => simp at hv | i + 5, hv => simp at hv) ?_; exact ih _ q _ (by omega) (by omega) hb2 h6 hb1 hd2 ((show _ = ageL set (n + 1) p q r by simp only [ageL, h16, Int.not_lt.mpr h36, reduceIte]).trans e))
        · have hdp := hdp (by omega)
          refine r_iconst C dX1_ageThings_19 ?_
          refine r_goto (tgt := 31) C dX1_ageThings_20 (by decide) ?_
          refine r_istore C dX1_ageThings_31 (Nat.le_of_ble_eq_true rfl) rfl ?_
          dsimp only [List.set]
          refine r_iload C dX1_ageThings_33 rfl ?_
          refine r_iload_n C dX1_ageThings_35 rfl rfl ?_
          refine r_icmp_ge (tgt := 62) C dX1_ageThings_36 (by decide) (by omega) (by omega) (fun h36 => ?_) (fun h36 => ?_)
          · refine r_iinc C dX1_ageThings_62 rfl rfl ?_
            dsimp only [List.set]
            refine r_goto (tgt := 4) C dX1_ageThings_65 (by decide) ?_
            first
            | (refine V_sub (L' := [some (.ref (ad k)), some (.int (gI set)), some (.int (gI (q + 1))), some (.int (gI (p + 1))), none]) rfl (fun i v hv => by match i, hv with | 0, hv => exact hv | 1, hv => exact hv | 2, hv => exact hv | 3, hv => exact hv | 4, hv => simp at hv | i + 5, hv => simp at hv) ?_; exact ih _ (q + 1) _ (by omega) (by omega) (by rw [up_n (by omega), up_n (by omega)]; exact hb2) (by rw [up_n (by omega), up_n (by omega)]; exact h6) (by rw [up_n (by omega), up_n (by omega)]; exact hb1) (fun i h1 h2 => if hi : i = q then (by rw [hi, up_s]; omega) else (by rw [up_n (by omega), up_n (by omega)]; exact hd2 i h1 h2)) ((show _ = ageL set (n + 1) p q r by simp only [ageL, h16, h36, Int.reduceEq, reduceIte]).trans e))
            | (refine V_sub (L' := [some (.ref (ad k)), some (.int (gI set)), some (.int (gI q)), some (.int (gI (p + 1))), none]) rfl (fun i v hv => by match i, hv with | 0, hv => exact hv | 1, hv => exact hv | 2, hv => exact hv | 3, hv => exact hv | 4, hv => simp at hv | i + 5, hv => simp at hv) ?_; exact ih _ q _ (by omega) (by omega) hb2 h6 hb1 hd2 ((show _ = ageL set (n + 1) p q r by simp only [ageL, h16, Int.not_lt.mpr h36, reduceIte]).trans e))
          · refine r_aload_n C dX1_ageThings_39 rfl rfl ?_
            refine rr_get C flX1_9 dX1_ageThings_40 hk rfl ?_
            refine r_iload_n C dX1_ageThings_43 rfl rfl ?_
            refine r_aload_n C dX1_ageThings_44 rfl rfl ?_
            refine rr_get C flX1_9 dX1_ageThings_45 hk rfl ?_
            refine r_iload_n C dX1_ageThings_48 rfl rfl ?_
            first | refine rr_kld C dX1_ageThings_49 hk (by omega) ?_ | refine rr_dld C dX1_ageThings_49 hk (by omega) ?_
            first | refine rr_kst C dX1_ageThings_50 hk (by omega) ?_ | refine rr_dst C dX1_ageThings_50 hk (by omega) ?_
            refine r_aload_n C dX1_ageThings_51 rfl rfl ?_
            refine rr_get C flX1_15 dX1_ageThings_52 hk rfl ?_
            refine r_iload_n C dX1_ageThings_55 rfl rfl ?_
            refine r_iload C dX1_ageThings_56 rfl ?_
            first | refine rr_kst C dX1_ageThings_58 hk (by omega) ?_ | refine rr_dst C dX1_ageThings_58 hk (by omega) ?_
            refine r_iinc C dX1_ageThings_59 rfl rfl ?_
            dsimp only [List.set]
            refine r_iinc C dX1_ageThings_62 rfl rfl ?_
            dsimp only [List.set]
            refine r_goto (tgt := 4) C dX1_ageThings_65 (by decide) ?_
            first
            | (refine V_sub (L' := [some (.ref (ad k)), some (.int (gI set)), some (.int (gI (q + 1))), some (.int (gI (p + 1))), none]) rfl (fun i v hv => by match i, hv with | 0, hv => exact hv | 1, hv => exact hv | 2, hv => exact hv | 3, hv => exact hv | 4, hv => simp at hv | i + 5, hv => simp at hv) ?_; exact ih _ (q + 1) _ (by omega) (by omega) (by rw [up_n (by omega), up_n (by omega)]; exact hb2) (by rw [up_n (by omega), up_n (by omega)]; exact h6) (by rw [up_n (by omega), up_n (by omega)]; exact hb1) (fun i h1 h2 => if hi : i = q then (by rw [hi, up_s]; omega) else (by rw [up_n (by omega), up_n (by omega)]; exact hd2 i h1 h2)) ((show _ = ageL set (n + 1) p q r by simp only [ageL, h16, h36, Int.reduceEq, reduceIte]).trans e))
            | (refine V_sub (L' := [some (.ref (ad k)), some (.int (gI set)), some (.int (gI q)), some (.int (gI (p + 1))), none]) rfl (fun i v hv => by match i, hv with | 0, hv => exact hv | 1, hv => exact hv | 2, hv => exact hv | 3, hv => exact hv | 4, hv => simp at hv | i + 5, hv => simp at hv) ?_; exact ih _ q _ (by omega) (by omega) hb2 h6 hb1 hd2 ((show _ = ageL set (n + 1) p q r by simp only [ageL, h16, Int.not_lt.mpr h36, reduceIte]).trans e))
  exact lp (ρ 6).toNat 0 0 ρ (by omega) (by omega) hb rfl rfl hd0 rfl

set_option maxRecDepth 100000 in
set_option maxHeartbeats 4000000 in
theorem c_X1_beatsToFirstForgotten {l : Launch} {D : va_G} {ty : Nat → ClassId} {ad : Int → Nat} {N : Int} {σ : Int → va_E} {k bl set : Int} {ρ : Int → Int} (hk : 0 ≤ k ∧ k + 3 ≤ N) (hm : 0 ≤ ρ 6 ∧ ρ 6 ≤ 4) (hbl : 0 ≤ bl ∧ bl ≤ 100) (hset : 1 ≤ set ∧ set ≤ 50) (hd0 : ∀ i, 0 ≤ i → i < 4 → 0 ≤ ρ (11 + i) ∧ ρ (11 + i) ≤ 100) : gM0 l yX1_beatsToFirstForgotten cX1_beatsToFirstForgotten 5 (some .int) 1 21 [.ref (ad k), .int (gI bl), .int (gI set)] D ty ad N (rput ad ty σ k ρ) (some (.int (gI (ffR ρ bl set)))) (rput ad ty σ k ρ) := by
  refine gMet_of [some (.ref (ad k)), some (.int (gI bl)), some (.int (gI set)), none, none] (by decide +kernel) rfl (Nat.le_of_ble_eq_true rfl) rfl ?_
  intro X hl hD hty C hini
  subst hl hD hty
  refine r_iload_n C dX1_beatsToFirstForgotten_0 rfl rfl ?_
  refine r_iconst C dX1_beatsToFirstForgotten_1 ?_
  refine r_icmp_le (tgt := 11) C dX1_beatsToFirstForgotten_2 (by decide) (by omega) (by omega) (fun h2 => ?_) (fun h2 => ?_)
  · refine r_iconst C dX1_beatsToFirstForgotten_11 ?_
    refine r_istore_n C dX1_beatsToFirstForgotten_12 rfl (Nat.le_of_ble_eq_true rfl) rfl ?_
    dsimp only [List.set]
    refine r_iconst C dX1_beatsToFirstForgotten_13 ?_
    refine r_istore C dX1_beatsToFirstForgotten_14 (Nat.le_of_ble_eq_true rfl) rfl ?_
    dsimp only [List.set]
    have lp : ∀ (n : Nat) (p a : Int), (0 ≤ p) → (p + n = ρ 6) → (0 ≤ a ∧ a ≤ 100) → (maxD ρ n p a = maxD ρ (ρ 6).toNat 0 0) → V X 0 0 (gQ X (gD (some (.int (gI (ffR ρ bl set)))) ad N (rput ad (gty X) σ k ρ)) 0 0) 16 [some (.ref (ad k)), some (.int (gI bl)), some (.int (gI set)), some (.int (gI a)), some (.int (gI p))] [] ad N (rput ad (gty X) σ k ρ) := by
      intro n
      induction n with
      | zero =>
        intro p a hp hpn ha e
        refine r_iload C dX1_beatsToFirstForgotten_16 rfl ?_
        refine r_aload_n C dX1_beatsToFirstForgotten_18 rfl rfl ?_
        refine rr_get C flX1_32 dX1_beatsToFirstForgotten_19 hk rfl ?_
        refine r_icmp_ge (tgt := 43) C dX1_beatsToFirstForgotten_22 (by decide) (by omega) (by omega) (fun h22 => ?_) (fun h22 => ?_)
        · refine r_iconst C dX1_beatsToFirstForgotten_43 ?_
          refine r_iload_n C dX1_beatsToFirstForgotten_44 rfl rfl ?_
          refine r_iload_n C dX1_beatsToFirstForgotten_45 rfl rfl ?_
          refine r_isub C dX1_beatsToFirstForgotten_46 ?_
          refine r_cS C cwX1_58 (c_J9_max_7cf53 (by omega) (by omega)) dX1_beatsToFirstForgotten_47 rfl rfl rfl (Nat.le_of_ble_eq_true rfl) ⟨Nat.le_of_ble_eq_true rfl, Nat.le_of_ble_eq_true rfl⟩ ⟨Nat.le_of_ble_eq_true rfl, Nat.le_of_ble_eq_true rfl⟩ ?_
          exact r_iretD C dX1_beatsToFirstForgotten_50 (by unfold ffR; rw [if_neg (by omega), ← e]; rfl) rfl
        · exact absurd h22 (by omega)
      | succ n ih =>
        intro p a hp hpn ha e
        have hdp := hd0 p (by omega) (by omega)
        refine r_iload C dX1_beatsToFirstForgotten_16 rfl ?_
        refine r_aload_n C dX1_beatsToFirstForgotten_18 rfl rfl ?_
        refine rr_get C flX1_32 dX1_beatsToFirstForgotten_19 hk rfl ?_
        refine r_icmp_ge (tgt := 43) C dX1_beatsToFirstForgotten_22 (by decide) (by omega) (by omega) (fun h22 => ?_) (fun h22 => ?_)
        · exact absurd h22 (by omega)
        · refine r_iload_n C dX1_beatsToFirstForgotten_25 rfl rfl ?_
          refine r_aload_n C dX1_beatsToFirstForgotten_26 rfl rfl ?_
          refine rr_get C flX1_15 dX1_beatsToFirstForgotten_27 hk rfl ?_
          refine r_iload C dX1_beatsToFirstForgotten_30 rfl ?_
          first | refine rr_kld C dX1_beatsToFirstForgotten_32 hk (by omega) ?_ | refine rr_dld C dX1_beatsToFirstForgotten_32 hk (by omega) ?_
          refine r_cS C cwX1_58 (c_J9_max_7cf53 (by omega) (by omega)) dX1_beatsToFirstForgotten_33 rfl rfl rfl (Nat.le_of_ble_eq_true rfl) ⟨Nat.le_of_ble_eq_true rfl, Nat.le_of_ble_eq_true rfl⟩ ⟨Nat.le_of_ble_eq_true rfl, Nat.le_of_ble_eq_true rfl⟩ ?_
          refine r_istore_n C dX1_beatsToFirstForgotten_36 rfl (Nat.le_of_ble_eq_true rfl) rfl ?_
          dsimp only [List.set]
          refine r_iinc C dX1_beatsToFirstForgotten_37 rfl rfl ?_
          dsimp only [List.set]
          refine r_goto (tgt := 16) C dX1_beatsToFirstForgotten_40 (by decide) ?_
          exact ih _ _ (by omega) (by omega) (by omega) e
    exact lp (ρ 6).toNat 0 0 (by omega) (by omega) (by omega) rfl
  · refine r_iload_n C dX1_beatsToFirstForgotten_5 rfl rfl ?_
    refine r_iload_n C dX1_beatsToFirstForgotten_6 rfl rfl ?_
    refine r_iadd C dX1_beatsToFirstForgotten_7 ?_
    refine r_iconst C dX1_beatsToFirstForgotten_8 ?_
    refine r_isub C dX1_beatsToFirstForgotten_9 ?_
    exact r_iretD C dX1_beatsToFirstForgotten_10 (by unfold ffR; rw [if_pos (by omega)]) rfl
end
section
/-! Store: what its methods answer, in words of s -/

/-- a sum over n places from p on -/
def sumF (f : Int → Int) : Nat → Int → Int
  | 0, _ => 0
  | n + 1, p => f p + sumF f n (p + 1)
theorem sumF_rng {f : Int → Int} {m : Int} : ∀ (n : Nat) (p : Int), (∀ i, p ≤ i → i < p + n → 0 ≤ f i ∧ f i ≤ m) → 0 ≤ sumF f n p ∧ sumF f n p ≤ m * n
  | 0, p, _ => by simp [sumF]
  | n + 1, p, h => by
    have h1 := h p (Int.le_refl _) (by omega)
    have h2 := sumF_rng n (p + 1) (fun i a b => h i (by omega) (by omega))
    simp only [sumF]
    have e : m * ((n + 1 : Nat) : Int) = m * n + m := by rw [Int.natCast_add, Int.mul_add]; simp
    rw [e]
    omega
theorem sumF_cong {f g : Int → Int} : ∀ (n : Nat) (p : Int), (∀ i, p ≤ i → i < p + n → f i = g i) → sumF f n p = sumF g n p
  | 0, _, _ => rfl
  | n + 1, p, h => by
    simp only [sumF]
    rw [h p (Int.le_refl _) (by omega), sumF_cong n (p + 1) (fun i a b => h i (by omega) (by omega))]
/-- how many candles burn -/
def cb (s : Int → Int) : Int := sumF (fun r => rm s r 1) 6 0
def cbF (s : Int → Int) (first count : Int) : Int := sumF (fun p => rm s ((first + p) % 6) 1) count.toNat 0
def thg (s : Int → Int) : Int := sumF (fun r => rm s r 6) 6 0
theorem cb_rng {s : Int → Int} (hs : okS s) : 0 ≤ cb s ∧ cb s ≤ 6 := by
  have := sumF_rng (f := fun r => rm s r 1) (m := 1) 6 0 (fun i h1 h2 => by have := (hs.rm (r := i) (by omega)).bur; show 0 ≤ rm s i 1 ∧ rm s i 1 ≤ 1; omega)
  unfold cb; omega
theorem thg_rng {s : Int → Int} (hs : okS s) : 0 ≤ thg s ∧ thg s ≤ 24 := by
  have := sumF_rng (f := fun r => rm s r 6) (m := 4) 6 0 (fun i h1 h2 => by have := (hs.rm (r := i) (by omega)).many; show 0 ≤ rm s i 6 ∧ rm s i 6 ≤ 4; omega)
  unfold thg; omega
def rofN (s : Int → Int) (key : Int) : Nat → Int → Int
  | 0, _ => -1
  | n + 1, r => if plc (rm s r) key = -1 then rofN s key n (r + 1) else r
/-- the room of a key -/
def rof (s : Int → Int) (key : Int) : Int := rofN s key 6 0
theorem rofN_rng (s : Int → Int) (key : Int) : ∀ (n : Nat) (r : Int), rofN s key n r = -1 ∨ (r ≤ rofN s key n r ∧ rofN s key n r < r + n ∧ plc (rm s (rofN s key n r)) key ≠ -1)
  | 0, r => Or.inl rfl
  | n + 1, r => by
    unfold rofN
    split
    · rcases rofN_rng s key n (r + 1) with h | h
      · exact Or.inl h
      · right; exact ⟨by omega, by omega, h.2.2⟩
    · right; rename_i h; exact ⟨by omega, by omega, h⟩
theorem rof_rng (s : Int → Int) (key : Int) : rof s key = -1 ∨ (0 ≤ rof s key ∧ rof s key < 6 ∧ plc (rm s (rof s key)) key ≠ -1) := by
  have := rofN_rng s key 6 0
  unfold rof
  omega
theorem plc_rng {s : Int → Int} (hs : okS s) {r key : Int} (hr : 0 ≤ r ∧ r < 6) : plc (rm s r) key = -1 ∨ (0 ≤ plc (rm s r) key ∧ plc (rm s r) key < rm s r 6) := by
  have h := plcR_rng (rm s r) key (rm s r 6).toNat 0
  have := (hs.rm hr).many
  unfold plc
  omega
def thn (s : Int → Int) (key w : Int) : Int := if rof s key = -1 then -1 else if w = 0 then rof s key else if w = 1 then darkR (rm s (rof s key)) (plc (rm s (rof s key)) key) else plc (rm s (rof s key)) key
abbrev joined (s : Int → Int) (a o : Int) : Prop := (o = (a + 1) % 6 ∧ rm s a 5 = 1) ∨ (a = (o + 1) % 6 ∧ rm s o 5 = 1)
abbrev mayL (s : Int → Int) (r f : Int) : Prop := rm s r 1 = 0 ∧ 0 < rm s r 0 ∧ rm s f 1 = 1 ∧ joined s r f
abbrev mayS (s : Int → Int) (r : Int) : Prop := cb s = 0 ∧ 0 < rm s r 0
abbrev mayK (s : Int → Int) (r key : Int) : Prop := rof s key = -1 ∧ rm s r 6 < 4
def light1 (s : Int → Int) (r : Int) : Int → Int := up s (9 + 15 * r + 1) 1
def renew (s : Int → Int) (r : Int) : Int → Int := up (srm s r (newR (rm s r))) 1 (s 1 - 1)
def keepS (s : Int → Int) (r key : Int) : Int → Int := srm s r (addR (rm s r) key)
def blN (s : Int → Int) : Nat → Int → Int
  | 0, p => p
  | n + 1, p => if rm s ((s 7 + p) % 6) 3 = 1 then p else if rm s ((s 7 + p) % 6) 5 = 0 then p + 1 else blN s n (p + 1)
/-- how many rooms a draught blows out -/
def blown (s : Int → Int) : Int := blN s (s 8).toNat 0
theorem blN_rng (s : Int → Int) : ∀ (n : Nat) (p : Int), p ≤ blN s n p ∧ blN s n p ≤ p + n
  | 0, p => by unfold blN; omega
  | n + 1, p => by
    have := blN_rng s n (p + 1)
    unfold blN
    split
    · omega
    · split <;> omega
theorem blown_rng {s : Int → Int} (hs : okS s) : 0 ≤ blown s ∧ blown s ≤ s 8 ∧ blown s ≤ 6 := by
  have h := blN_rng s (s 8).toNat 0
  have := hs.dra
  unfold blown
  omega

set_option maxRecDepth 100000 in
set_option maxHeartbeats 4000000 in
theorem c_X3_roomAt {l : Launch} {D : va_G} {ty : Nat → ClassId} {ad : Int → Nat} {N : Int} {σ : Int → va_E} {b : Int} {s : Int → Int} {z : Int} (hb : 0 ≤ b ∧ b + 20 ≤ N) (hz : -2147483648 ≤ z ∧ z < 2147483648) : gM0 l yX3_roomAt cX3_roomAt 2 (some (.object "CandleRooms$Room")) 1 22 [.ref (ad b), .int (gI z)] D ty ad N (sput ad ty σ b s) (some (.ref (ad (b + 2 + 3 * (z % 6))))) (sput ad ty σ b s) := by
  refine gMet_of [some (.ref (ad b)), some (.int (gI z))] (by decide +kernel) rfl (Nat.le_of_ble_eq_true rfl) rfl ?_
  intro X hl hD hty C hini
  subst hl hD hty
  refine r_aload_n C dX3_roomAt_0 rfl rfl ?_
  refine ss_get C flX3_11 dX3_roomAt_1 hb rfl ?_
  refine r_iload_n C dX3_roomAt_4 rfl rfl ?_
  refine r_bipush C dX3_roomAt_5 (by decide) ?_
  refine r_cS C cwX3_50 (c_J9_floorMod_7cf53 (by omega) (by omega)) dX3_roomAt_7 rfl rfl rfl (Nat.le_of_ble_eq_true rfl) ⟨Nat.le_of_ble_eq_true rfl, Nat.le_of_ble_eq_true rfl⟩ ⟨Nat.le_of_ble_eq_true rfl, Nat.le_of_ble_eq_true rfl⟩ ?_
  refine ss_room C dX3_roomAt_10 hb (by omega) ?_
  exact r_aretD C dX3_roomAt_11 rfl rfl

theorem c_X3_roomAt0 {l : Launch} {D : va_G} {ty : Nat → ClassId} {ad : Int → Nat} {N : Int} {σ : Int → va_E} {b : Int} {s : Int → Int} {z : Int} (hb : 0 ≤ b ∧ b + 20 ≤ N) (hz : 0 ≤ z ∧ z < 6) : gM0 l yX3_roomAt cX3_roomAt 2 (some (.object "CandleRooms$Room")) 1 22 [.ref (ad b), .int (gI z)] D ty ad N (sput ad ty σ b s) (some (.ref (ad (b + 2 + 3 * z)))) (sput ad ty σ b s) := by
  have h := c_X3_roomAt (l := l) (D := D) (ty := ty) (ad := ad) (N := N) (σ := σ) (s := s) (z := z) hb (by omega)
  rw [Int.emod_eq_of_lt hz.1 hz.2] at h
  exact h
set_option maxRecDepth 100000 in
set_option maxHeartbeats 4000000 in
theorem c_X3_candlesBurning {l : Launch} {D : va_G} {ty : Nat → ClassId} {ad : Int → Nat} {N : Int} {σ : Int → va_E} {b : Int} {s : Int → Int} (hb : 0 ≤ b ∧ b + 20 ≤ N) (hs : okS s) : gM0 l yX3_candlesBurning cX3_candlesBurning 3 (some .int) 1 20 [.ref (ad b)] D ty ad N (sput ad ty σ b s) (some (.int (gI (cb s)))) (sput ad ty σ b s) := by
  refine gMet_of [some (.ref (ad b)), none, none] (by decide +kernel) rfl (Nat.le_of_ble_eq_true rfl) rfl ?_
  intro X hl hD hty C hini
  subst hl hD hty
  refine r_iconst C dX3_candlesBurning_0 ?_
  refine r_istore_n C dX3_candlesBurning_1 rfl (Nat.le_of_ble_eq_true rfl) rfl ?_
  dsimp only [List.set]
  refine r_iconst C dX3_candlesBurning_2 ?_
  refine r_istore_n C dX3_candlesBurning_3 rfl (Nat.le_of_ble_eq_true rfl) rfl ?_
  dsimp only [List.set]
  have lp : ∀ (n : Nat) (p a : Int), (0 ≤ p) → (p + n = 6) → (a + sumF (fun r => rm s r 1) n p = cb s) → V X 0 0 (gQ X (gD (some (.int (gI (cb s)))) ad N (sput ad (gty X) σ b s)) 0 0) 4 [some (.ref (ad b)), some (.int (gI a)), some (.int (gI p))] [] ad N (sput ad (gty X) σ b s) := by
    intro n
    induction n with
    | zero =>
      intro p a hp hpn e
      refine r_iload_n C dX3_candlesBurning_4 rfl rfl ?_
      refine r_bipush C dX3_candlesBurning_5 (by decide) ?_
      refine r_icmp_ge (tgt := 31) C dX3_candlesBurning_7 (by decide) (by omega) (by omega) (fun h7 => ?_) (fun h7 => ?_)
      · refine r_iload_n C dX3_candlesBurning_31 rfl rfl ?_
        exact r_iretD C dX3_candlesBurning_32 (by rw [← e]; simp only [sumF]; omega) rfl
      · exact absurd h7 (by omega)
    | succ n ih =>
      intro p a hp hpn e
      have hq := (hs.rm (r := p) (by omega)).bur
      refine r_iload_n C dX3_candlesBurning_4 rfl rfl ?_
      refine r_bipush C dX3_candlesBurning_5 (by decide) ?_
      refine r_icmp_ge (tgt := 31) C dX3_candlesBurning_7 (by decide) (by omega) (by omega) (fun h7 => ?_) (fun h7 => ?_)
      · exact absurd h7 (by omega)
      · refine r_iload_n C dX3_candlesBurning_10 rfl rfl ?_
        refine r_aload_n C dX3_candlesBurning_11 rfl rfl ?_
        refine ss_get C flX3_11 dX3_candlesBurning_12 hb rfl ?_
        refine r_iload_n C dX3_candlesBurning_15 rfl rfl ?_
        refine ss_room C dX3_candlesBurning_16 hb (by omega) ?_
        refine sr_get C flX3_56 dX3_candlesBurning_17 hb (by omega) rfl ?_
        refine r_cSN C C.2.2.2.2.2.2.2.2.2.2.2.2.2 kasn (c_X4_asNumber (by omega)) dX3_candlesBurning_20 rfl rfl rfl (Nat.le_of_ble_eq_true rfl) ⟨Nat.le_of_ble_eq_true rfl, Nat.le_of_ble_eq_true rfl⟩ ⟨Nat.le_of_ble_eq_true rfl, Nat.le_of_ble_eq_true rfl⟩ ?_
        refine r_iadd C dX3_candlesBurning_23 ?_
        refine r_istore_n C dX3_candlesBurning_24 rfl (Nat.le_of_ble_eq_true rfl) rfl ?_
        dsimp only [List.set]
        refine r_iinc C dX3_candlesBurning_25 rfl rfl ?_
        dsimp only [List.set]
        refine r_goto (tgt := 4) C dX3_candlesBurning_28 (by decide) ?_
        exact ih _ _ (by omega) (by omega) (by rw [← e]; simp only [sumF]; omega)
  exact lp 6 0 0 (by omega) (by omega) (by unfold cb; omega)

set_option maxRecDepth 100000 in
set_option maxHeartbeats 4000000 in
theorem c_X3_candlesBurningFrom {l : Launch} {D : va_G} {ty : Nat → ClassId} {ad : Int → Nat} {N : Int} {σ : Int → va_E} {b : Int} {s : Int → Int} {first count : Int} (hb : 0 ≤ b ∧ b + 20 ≤ N) (hs : okS s) (hf : -1 ≤ first ∧ first < 6) (hc : 0 ≤ count ∧ count ≤ 6) : gM0 l yX3_candlesBurningFrom cX3_candlesBurningFrom 5 (some .int) 2 43 [.ref (ad b), .int (gI first), .int (gI count)] D ty ad N (sput ad ty σ b s) (some (.int (gI (cbF s first count)))) (sput ad ty σ b s) := by
  refine gMet_of [some (.ref (ad b)), some (.int (gI first)), some (.int (gI count)), none, none] (by decide +kernel) rfl (Nat.le_of_ble_eq_true rfl) rfl ?_
  intro X hl hD hty C hini
  subst hl hD hty
  refine r_iconst C dX3_candlesBurningFrom_0 ?_
  refine r_istore_n C dX3_candlesBurningFrom_1 rfl (Nat.le_of_ble_eq_true rfl) rfl ?_
  dsimp only [List.set]
  refine r_iconst C dX3_candlesBurningFrom_2 ?_
  refine r_istore C dX3_candlesBurningFrom_3 (Nat.le_of_ble_eq_true rfl) rfl ?_
  dsimp only [List.set]
  have lp : ∀ (n : Nat) (p a : Int), (0 ≤ p) → (p + n = count) → (a + sumF (fun p => rm s ((first + p) % 6) 1) n p = cbF s first count) → V X 0 0 (gQ X (gD (some (.int (gI (cbF s first count)))) ad N (sput ad (gty X) σ b s)) 0 0) 5 [some (.ref (ad b)), some (.int (gI first)), some (.int (gI count)), some (.int (gI a)), some (.int (gI p))] [] ad N (sput ad (gty X) σ b s) := by
    intro n
    induction n with
    | zero =>
      intro p a hp hpn e
      refine r_iload C dX3_candlesBurningFrom_5 rfl ?_
      refine r_iload_n C dX3_candlesBurningFrom_7 rfl rfl ?_
      refine r_icmp_ge (tgt := 34) C dX3_candlesBurningFrom_8 (by decide) (by omega) (by omega) (fun h8 => ?_) (fun h8 => ?_)
      · refine r_iload_n C dX3_candlesBurningFrom_34 rfl rfl ?_
        exact r_iretD C dX3_candlesBurningFrom_35 (by rw [← e]; simp only [sumF]; omega) rfl
      · exact absurd h8 (by omega)
    | succ n ih =>
      intro p a hp hpn e
      have hq := (hs.rm (r := (first + p) % 6) (by omega)).bur
      refine r_iload C dX3_candlesBurningFrom_5 rfl ?_
      refine r_iload_n C dX3_candlesBurningFrom_7 rfl rfl ?_
      refine r_icmp_ge (tgt := 34) C dX3_candlesBurningFrom_8 (by decide) (by omega) (by omega) (fun h8 => ?_) (fun h8 => ?_)
      · exact absurd h8 (by omega)
      · refine r_iload_n C dX3_candlesBurningFrom_11 rfl rfl ?_
        refine r_aload_n C dX3_candlesBurningFrom_12 rfl rfl ?_
        refine r_iload_n C dX3_candlesBurningFrom_13 rfl rfl ?_
        refine r_iload C dX3_candlesBurningFrom_14 rfl ?_
        refine r_iadd C dX3_candlesBurningFrom_16 ?_
        refine r_cV C cwX3_64 (c_X3_roomAt hb (by omega)) dX3_candlesBurningFrom_17 rfl (by omega) sput_0 rfl rfl rfl (Nat.le_of_ble_eq_true rfl) ⟨Nat.le_of_ble_eq_true rfl, Nat.le_of_ble_eq_true rfl⟩ ⟨Nat.le_of_ble_eq_true rfl, Nat.le_of_ble_eq_true rfl⟩ ?_
        refine sr_get C flX3_56 dX3_candlesBurningFrom_20 hb (by omega) rfl ?_
        refine r_cSN C C.2.2.2.2.2.2.2.2.2.2.2.2.2 kasn (c_X4_asNumber (by omega)) dX3_candlesBurningFrom_23 rfl rfl rfl (Nat.le_of_ble_eq_true rfl) ⟨Nat.le_of_ble_eq_true rfl, Nat.le_of_ble_eq_true rfl⟩ ⟨Nat.le_of_ble_eq_true rfl, Nat.le_of_ble_eq_true rfl⟩ ?_
        refine r_iadd C dX3_candlesBurningFrom_26 ?_
        refine r_istore_n C dX3_candlesBurningFrom_27 rfl (Nat.le_of_ble_eq_true rfl) rfl ?_
        dsimp only [List.set]
        refine r_iinc C dX3_candlesBurningFrom_28 rfl rfl ?_
        dsimp only [List.set]
        refine r_goto (tgt := 5) C dX3_candlesBurningFrom_31 (by decide) ?_
        exact ih _ _ (by omega) (by omega) (by rw [← e]; simp only [sumF]; omega)
  exact lp count.toNat 0 0 (by omega) (by omega) (by unfold cbF; omega)

set_option maxRecDepth 100000 in
set_option maxHeartbeats 4000000 in
theorem c_X3_thingsInAll {l : Launch} {D : va_G} {ty : Nat → ClassId} {ad : Int → Nat} {N : Int} {σ : Int → va_E} {b : Int} {s : Int → Int} (hb : 0 ≤ b ∧ b + 20 ≤ N) (hs : okS s) : gM0 l yX3_thingsInAll cX3_thingsInAll 3 (some .int) 0 0 [.ref (ad b)] D ty ad N (sput ad ty σ b s) (some (.int (gI (thg s)))) (sput ad ty σ b s) := by
  refine gMet_of [some (.ref (ad b)), none, none] (by decide +kernel) rfl (Nat.le_of_ble_eq_true rfl) rfl ?_
  intro X hl hD hty C hini
  subst hl hD hty
  refine r_iconst C dX3_thingsInAll_0 ?_
  refine r_istore_n C dX3_thingsInAll_1 rfl (Nat.le_of_ble_eq_true rfl) rfl ?_
  dsimp only [List.set]
  refine r_iconst C dX3_thingsInAll_2 ?_
  refine r_istore_n C dX3_thingsInAll_3 rfl (Nat.le_of_ble_eq_true rfl) rfl ?_
  dsimp only [List.set]
  have lp : ∀ (n : Nat) (p a : Int), (0 ≤ p) → (p + n = 6) → (a + sumF (fun r => rm s r 6) n p = thg s) → V X 0 0 (gQ X (gD (some (.int (gI (thg s)))) ad N (sput ad (gty X) σ b s)) 0 0) 4 [some (.ref (ad b)), some (.int (gI a)), some (.int (gI p))] [] ad N (sput ad (gty X) σ b s) := by
    intro n
    induction n with
    | zero =>
      intro p a hp hpn e
      refine r_iload_n C dX3_thingsInAll_4 rfl rfl ?_
      refine r_bipush C dX3_thingsInAll_5 (by decide) ?_
      refine r_icmp_ge (tgt := 28) C dX3_thingsInAll_7 (by decide) (by omega) (by omega) (fun h7 => ?_) (fun h7 => ?_)
      · refine r_iload_n C dX3_thingsInAll_28 rfl rfl ?_
        exact r_iretD C dX3_thingsInAll_29 (by rw [← e]; simp only [sumF]; omega) rfl
      · exact absurd h7 (by omega)
    | succ n ih =>
      intro p a hp hpn e
      refine r_iload_n C dX3_thingsInAll_4 rfl rfl ?_
      refine r_bipush C dX3_thingsInAll_5 (by decide) ?_
      refine r_icmp_ge (tgt := 28) C dX3_thingsInAll_7 (by decide) (by omega) (by omega) (fun h7 => ?_) (fun h7 => ?_)
      · exact absurd h7 (by omega)
      · refine r_iload_n C dX3_thingsInAll_10 rfl rfl ?_
        refine r_aload_n C dX3_thingsInAll_11 rfl rfl ?_
        refine ss_get C flX3_11 dX3_thingsInAll_12 hb rfl ?_
        refine r_iload_n C dX3_thingsInAll_15 rfl rfl ?_
        refine ss_room C dX3_thingsInAll_16 hb (by omega) ?_
        refine sr_get C flX3_68 dX3_thingsInAll_17 hb (by omega) rfl ?_
        refine r_iadd C dX3_thingsInAll_20 ?_
        refine r_istore_n C dX3_thingsInAll_21 rfl (Nat.le_of_ble_eq_true rfl) rfl ?_
        dsimp only [List.set]
        refine r_iinc C dX3_thingsInAll_22 rfl rfl ?_
        dsimp only [List.set]
        refine r_goto (tgt := 4) C dX3_thingsInAll_25 (by decide) ?_
        exact ih _ _ (by omega) (by omega) (by rw [← e]; simp only [sumF]; omega)
  exact lp 6 0 0 (by omega) (by omega) (by unfold thg; omega)

set_option maxRecDepth 100000 in
set_option maxHeartbeats 4000000 in
theorem c_X3_roomOf {l : Launch} {D : va_G} {ty : Nat → ClassId} {ad : Int → Nat} {N : Int} {σ : Int → va_E} {b : Int} {s : Int → Int} {key : Int} (hb : 0 ≤ b ∧ b + 20 ≤ N) (hs : okS s) (hkey : -2147483648 ≤ key ∧ key < 2147483648) : gM0 l yX3_roomOf cX3_roomOf 3 (some .int) 1 22 [.ref (ad b), .int (gI key)] D ty ad N (sput ad ty σ b s) (some (.int (gI (rof s key)))) (sput ad ty σ b s) := by
  refine gMet_of [some (.ref (ad b)), some (.int (gI key)), none] (by decide +kernel) rfl (Nat.le_of_ble_eq_true rfl) rfl ?_
  intro X hl hD hty C hini
  subst hl hD hty
  refine r_iconst C dX3_roomOf_0 ?_
  refine r_istore_n C dX3_roomOf_1 rfl (Nat.le_of_ble_eq_true rfl) rfl ?_
  dsimp only [List.set]
  have lp : ∀ (n : Nat) (p : Int), (0 ≤ p) → (p + n = 6) → (rofN s key n p = rof s key) → V X 0 0 (gQ X (gD (some (.int (gI (rof s key)))) ad N (sput ad (gty X) σ b s)) 0 0) 2 [some (.ref (ad b)), some (.int (gI key)), some (.int (gI p))] [] ad N (sput ad (gty X) σ b s) := by
    intro n
    induction n with
    | zero =>
      intro p hp hpn e
      refine r_iload_n C dX3_roomOf_2 rfl rfl ?_
      refine r_bipush C dX3_roomOf_3 (by decide) ?_
      refine r_icmp_ge (tgt := 30) C dX3_roomOf_5 (by decide) (by omega) (by omega) (fun h5 => ?_) (fun h5 => ?_)
      · refine r_iconst C dX3_roomOf_30 ?_
        exact r_iretD C dX3_roomOf_31 (by rw [← e]; rfl) rfl
      · exact absurd h5 (by omega)
    | succ n ih =>
      intro p hp hpn e
      have hq := hs.rm (r := p) (by omega)
      have hqm := hq.many
      have hpl := plc_rng (key := key) hs (r := p) (by omega)
      refine r_iload_n C dX3_roomOf_2 rfl rfl ?_
      refine r_bipush C dX3_roomOf_3 (by decide) ?_
      refine r_icmp_ge (tgt := 30) C dX3_roomOf_5 (by decide) (by omega) (by omega) (fun h5 => ?_) (fun h5 => ?_)
      · exact absurd h5 (by omega)
      · refine r_aload_n C dX3_roomOf_8 rfl rfl ?_
        refine ss_get C flX3_11 dX3_roomOf_9 hb rfl ?_
        refine r_iload_n C dX3_roomOf_12 rfl rfl ?_
        refine ss_room C dX3_roomOf_13 hb (by omega) ?_
        refine r_iload_n C dX3_roomOf_14 rfl rfl ?_
        refine r_cV C cwX3_71 (lift0 (by omega) (c_X1_placeOf (by omega) hkey hqm hq.keyI)) dX3_roomOf_15 rfl (by omega) (sput_r (by omega)) rfl rfl rfl (Nat.le_of_ble_eq_true rfl) ⟨Nat.le_of_ble_eq_true rfl, Nat.le_of_ble_eq_true rfl⟩ ⟨Nat.le_of_ble_eq_true rfl, Nat.le_of_ble_eq_true rfl⟩ ?_
        refine r_iconst C dX3_roomOf_18 ?_
        refine r_icmp_eq (tgt := 24) C dX3_roomOf_19 (by decide) (by omega) (by omega) (fun h19 => ?_) (fun h19 => ?_)
        · refine r_iinc C dX3_roomOf_24 rfl rfl ?_
          dsimp only [List.set]
          refine r_goto (tgt := 2) C dX3_roomOf_27 (by decide) ?_
          exact ih _ (by omega) (by omega) (by rw [← e]; exact (if_pos (by omega)).symm)
        · refine r_iload_n C dX3_roomOf_22 rfl rfl ?_
          exact r_iretD C dX3_roomOf_23 (by rw [← e]; exact (if_neg (by omega)).symm) rfl
  exact lp 6 0 (by omega) (by omega) rfl

set_option maxRecDepth 100000 in
set_option maxHeartbeats 4000000 in
theorem c_X3_thingNumber {l : Launch} {D : va_G} {ty : Nat → ClassId} {ad : Int → Nat} {N : Int} {σ : Int → va_E} {b : Int} {s : Int → Int} {key w : Int} (hb : 0 ≤ b ∧ b + 20 ≤ N) (hs : okS s) (hkey : -2147483648 ≤ key ∧ key < 2147483648) (hw0 : 0 ≤ w ∧ w < 3) : gM0 l yX3_thingNumber cX3_thingNumber 6 (some .int) 2 44 [.ref (ad b), .int (gI key), .int (gI w)] D ty ad N (sput ad ty σ b s) (some (.int (gI (thn s key w)))) (sput ad ty σ b s) := by
  refine gMet_of [some (.ref (ad b)), some (.int (gI key)), some (.int (gI w)), none, none, none] (by decide +kernel) rfl (Nat.le_of_ble_eq_true rfl) rfl ?_
  intro X hl hD hty C hini
  subst hl hD hty
  have hrr := rof_rng s key
  refine r_aload_n C dX3_thingNumber_0 rfl rfl ?_
  refine r_iload_n C dX3_thingNumber_1 rfl rfl ?_
  refine r_cV C cwX3_75 (c_X3_roomOf hb hs (by omega)) dX3_thingNumber_2 rfl (by omega) sput_0 rfl rfl rfl (Nat.le_of_ble_eq_true rfl) ⟨Nat.le_of_ble_eq_true rfl, Nat.le_of_ble_eq_true rfl⟩ ⟨Nat.le_of_ble_eq_true rfl, Nat.le_of_ble_eq_true rfl⟩ ?_
  refine r_istore_n C dX3_thingNumber_5 rfl (Nat.le_of_ble_eq_true rfl) rfl ?_
  dsimp only [List.set]
  refine r_iload_n C dX3_thingNumber_6 rfl rfl ?_
  refine r_iconst C dX3_thingNumber_7 ?_
  refine r_icmp_ne (tgt := 13) C dX3_thingNumber_8 (by decide) (by omega) (by omega) (fun h8 => ?_) (fun h8 => ?_)
  · have hq := hs.rm (r := rof s key) (by omega)
    have hqm := hq.many
    have hpl := plc_rng (key := key) hs (r := rof s key) (by omega)
    refine r_aload_n C dX3_thingNumber_13 rfl rfl ?_
    refine r_iload_n C dX3_thingNumber_14 rfl rfl ?_
    refine r_cV C cwX3_64 (c_X3_roomAt0 hb (by omega)) dX3_thingNumber_15 rfl (by omega) sput_0 rfl rfl rfl (Nat.le_of_ble_eq_true rfl) ⟨Nat.le_of_ble_eq_true rfl, Nat.le_of_ble_eq_true rfl⟩ ⟨Nat.le_of_ble_eq_true rfl, Nat.le_of_ble_eq_true rfl⟩ ?_
    refine r_astore C dX3_thingNumber_18 (Nat.le_of_ble_eq_true rfl) rfl ?_
    dsimp only [List.set]
    refine r_aload C dX3_thingNumber_20 rfl ?_
    refine r_iload_n C dX3_thingNumber_22 rfl rfl ?_
    refine r_cV C cwX3_71 (lift0 (by omega) (c_X1_placeOf (by omega) hkey hqm hq.keyI)) dX3_thingNumber_23 rfl (by omega) (sput_r (by omega)) rfl rfl rfl (Nat.le_of_ble_eq_true rfl) ⟨Nat.le_of_ble_eq_true rfl, Nat.le_of_ble_eq_true rfl⟩ ⟨Nat.le_of_ble_eq_true rfl, Nat.le_of_ble_eq_true rfl⟩ ?_
    refine r_istore C dX3_thingNumber_26 (Nat.le_of_ble_eq_true rfl) rfl ?_
    dsimp only [List.set]
    refine r_iload_n C dX3_thingNumber_28 rfl rfl ?_
    rcases (show w = 0 ∨ w = 1 ∨ (w ≠ 0 ∧ w ≠ 1) by omega) with hw | hw | hw
    · refine r_look (tgt := 56) (off := 27) C dX3_thingNumber_29 (by omega) (by decide) (by rw [hw]; first | done | rfl) (by decide) ?_
      refine r_iload_n C dX3_thingNumber_56 rfl rfl ?_
      exact r_iretD C dX3_thingNumber_57 (by unfold thn; rw [if_neg (by omega)]; first | rw [if_pos (by omega)] | rw [if_neg (by omega), if_pos (by omega)] | rw [if_neg (by omega), if_neg (by omega)]) rfl
    · refine r_look (tgt := 58) (off := 29) C dX3_thingNumber_29 (by omega) (by decide) (by rw [hw]; first | done | rfl) (by decide) ?_
      refine r_aload C dX3_thingNumber_58 rfl ?_
      refine r_iload C dX3_thingNumber_60 rfl ?_
      refine r_cV C cwX3_78 (lift0 (by omega) (c_X1_darkAt (by omega) (by omega) hqm)) dX3_thingNumber_62 rfl (by omega) (sput_r (by omega)) rfl rfl rfl (Nat.le_of_ble_eq_true rfl) ⟨Nat.le_of_ble_eq_true rfl, Nat.le_of_ble_eq_true rfl⟩ ⟨Nat.le_of_ble_eq_true rfl, Nat.le_of_ble_eq_true rfl⟩ ?_
      exact r_iretD C dX3_thingNumber_65 (by unfold thn; rw [if_neg (by omega)]; first | rw [if_pos (by omega)] | rw [if_neg (by omega), if_pos (by omega)] | rw [if_neg (by omega), if_neg (by omega)]) rfl
    · refine r_look (tgt := 66) (off := 37) C dX3_thingNumber_29 (by omega) (by decide) (by simp [Op.lookupswitch.offset]; (repeat' split) <;> omega) (by decide) ?_
      refine r_iload C dX3_thingNumber_66 rfl ?_
      exact r_iretD C dX3_thingNumber_68 (by unfold thn; rw [if_neg (by omega)]; first | rw [if_pos (by omega)] | rw [if_neg (by omega), if_pos (by omega)] | rw [if_neg (by omega), if_neg (by omega)]) rfl
  · refine r_iconst C dX3_thingNumber_11 ?_
    exact r_iretD C dX3_thingNumber_12 (by unfold thn; rw [if_pos (by omega)]) rfl

set_option maxRecDepth 100000 in
set_option maxHeartbeats 4000000 in
theorem c_X3_canStrike {l : Launch} {D : va_G} {ty : Nat → ClassId} {ad : Int → Nat} {N : Int} {σ : Int → va_E} {b : Int} {s : Int → Int} {r : Int} (hb : 0 ≤ b ∧ b + 20 ≤ N) (hs : okS s) (hr : 0 ≤ r ∧ r < 6) : gM0 l yX3_canStrike cX3_canStrike 2 (some .boolean) 2 43 [.ref (ad b), .int (gI r)] D ty ad N (sput ad ty σ b s) (some (.int (gI (gB (mayS s r))))) (sput ad ty σ b s) := by
  refine gMet_of [some (.ref (ad b)), some (.int (gI r))] (by decide +kernel) rfl (Nat.le_of_ble_eq_true rfl) rfl ?_
  intro X hl hD hty C hini
  subst hl hD hty
  have hcb := cb_rng hs
  have hq := hs.rm hr
  have hql := hq.len
  have hqb := hq.bur
  have hqd := hq.door
  have hqm := hq.many
  have hqw := hq.wick
  have hqs := hq.shi
  refine r_aload_n C dX3_canStrike_0 rfl rfl ?_
  refine r_cV C cwX3_81 (c_X3_candlesBurning hb hs) dX3_canStrike_1 rfl (by omega) sput_0 rfl rfl rfl (Nat.le_of_ble_eq_true rfl) ⟨Nat.le_of_ble_eq_true rfl, Nat.le_of_ble_eq_true rfl⟩ ⟨Nat.le_of_ble_eq_true rfl, Nat.le_of_ble_eq_true rfl⟩ ?_
  refine r_if_ne (tgt := 22) C dX3_canStrike_4 (by decide) (by omega) (fun h4 => ?_) (fun h4 => ?_)
  · refine r_iconst C dX3_canStrike_22 ?_
    exact r_zretD C dX3_canStrike_23 (by omega) (by first | exact (gB_t (by unfold mayS; omega)).symm | exact (gB_f (by unfold mayS; omega)).symm) rfl
  · refine r_aload_n C dX3_canStrike_7 rfl rfl ?_
    refine r_iload_n C dX3_canStrike_8 rfl rfl ?_
    refine r_cV C cwX3_64 (c_X3_roomAt0 hb (by omega)) dX3_canStrike_9 rfl (by omega) sput_0 rfl rfl rfl (Nat.le_of_ble_eq_true rfl) ⟨Nat.le_of_ble_eq_true rfl, Nat.le_of_ble_eq_true rfl⟩ ⟨Nat.le_of_ble_eq_true rfl, Nat.le_of_ble_eq_true rfl⟩ ?_
    refine sr_get C flX3_85 dX3_canStrike_12 hb (by omega) rfl ?_
    refine r_if_le (tgt := 22) C dX3_canStrike_15 (by decide) (by omega) (fun h15 => ?_) (fun h15 => ?_)
    · refine r_iconst C dX3_canStrike_22 ?_
      exact r_zretD C dX3_canStrike_23 (by omega) (by first | exact (gB_t (by unfold mayS; omega)).symm | exact (gB_f (by unfold mayS; omega)).symm) rfl
    · refine r_iconst C dX3_canStrike_18 ?_
      refine r_goto (tgt := 23) C dX3_canStrike_19 (by decide) ?_
      exact r_zretD C dX3_canStrike_23 (by omega) (by first | exact (gB_t (by unfold mayS; omega)).symm | exact (gB_f (by unfold mayS; omega)).symm) rfl

set_option maxRecDepth 100000 in
set_option maxHeartbeats 4000000 in
theorem c_X3_areJoined {l : Launch} {D : va_G} {ty : Nat → ClassId} {ad : Int → Nat} {N : Int} {σ : Int → va_E} {b : Int} {s : Int → Int} {r o : Int} (hb : 0 ≤ b ∧ b + 20 ≤ N) (hs : okS s) (hr : 0 ≤ r ∧ r < 6) (ho : 0 ≤ o ∧ o < 6) : gM0 l yX3_areJoined cX3_areJoined 3 (some .boolean) 2 43 [.ref (ad b), .int (gI r), .int (gI o)] D ty ad N (sput ad ty σ b s) (some (.int (gI (gB (joined s r o))))) (sput ad ty σ b s) := by
  refine gMet_of [some (.ref (ad b)), some (.int (gI r)), some (.int (gI o))] (by decide +kernel) rfl (Nat.le_of_ble_eq_true rfl) rfl ?_
  intro X hl hD hty C hini
  subst hl hD hty
  have hqd := (hs.rm hr).door
  have hod := (hs.rm ho).door
  refine r_iload_n C dX3_areJoined_0 rfl rfl ?_
  refine r_iload_n C dX3_areJoined_1 rfl rfl ?_
  refine r_iconst C dX3_areJoined_2 ?_
  refine r_iadd C dX3_areJoined_3 ?_
  refine r_bipush C dX3_areJoined_4 (by decide) ?_
  refine r_cS C cwX3_50 (c_J9_floorMod_7cf53 (by omega) (by omega)) dX3_areJoined_6 rfl rfl rfl (Nat.le_of_ble_eq_true rfl) ⟨Nat.le_of_ble_eq_true rfl, Nat.le_of_ble_eq_true rfl⟩ ⟨Nat.le_of_ble_eq_true rfl, Nat.le_of_ble_eq_true rfl⟩ ?_
  refine r_icmp_ne (tgt := 21) C dX3_areJoined_9 (by decide) (by omega) (by omega) (fun h9 => ?_) (fun h9 => ?_)
  · refine r_iload_n C dX3_areJoined_21 rfl rfl ?_
    refine r_iload_n C dX3_areJoined_22 rfl rfl ?_
    refine r_iconst C dX3_areJoined_23 ?_
    refine r_iadd C dX3_areJoined_24 ?_
    refine r_bipush C dX3_areJoined_25 (by decide) ?_
    refine r_cS C cwX3_50 (c_J9_floorMod_7cf53 (by omega) (by omega)) dX3_areJoined_27 rfl rfl rfl (Nat.le_of_ble_eq_true rfl) ⟨Nat.le_of_ble_eq_true rfl, Nat.le_of_ble_eq_true rfl⟩ ⟨Nat.le_of_ble_eq_true rfl, Nat.le_of_ble_eq_true rfl⟩ ?_
    refine r_icmp_ne (tgt := 42) C dX3_areJoined_30 (by decide) (by omega) (by omega) (fun h30 => ?_) (fun h30 => ?_)
    · refine r_iconst C dX3_areJoined_42 ?_
      exact r_zretD C dX3_areJoined_43 (by omega) (by first | exact (gB_t (by unfold joined; omega)).symm | exact (gB_f (by unfold joined; omega)).symm) rfl
    · refine r_aload_n C dX3_areJoined_33 rfl rfl ?_
      refine r_iload_n C dX3_areJoined_34 rfl rfl ?_
      refine r_cV C cwX3_64 (c_X3_roomAt0 hb (by omega)) dX3_areJoined_35 rfl (by omega) sput_0 rfl rfl rfl (Nat.le_of_ble_eq_true rfl) ⟨Nat.le_of_ble_eq_true rfl, Nat.le_of_ble_eq_true rfl⟩ ⟨Nat.le_of_ble_eq_true rfl, Nat.le_of_ble_eq_true rfl⟩ ?_
      refine sr_get C flX3_92 dX3_areJoined_38 hb (by omega) rfl ?_
      exact r_zretD C dX3_areJoined_41 (by omega) (hod.elim (fun h => h.trans (gB_f (by unfold joined; omega)).symm) (fun h => h.trans (gB_t (by unfold joined; omega)).symm)) rfl
  · refine r_aload_n C dX3_areJoined_12 rfl rfl ?_
    refine r_iload_n C dX3_areJoined_13 rfl rfl ?_
    refine r_cV C cwX3_64 (c_X3_roomAt0 hb (by omega)) dX3_areJoined_14 rfl (by omega) sput_0 rfl rfl rfl (Nat.le_of_ble_eq_true rfl) ⟨Nat.le_of_ble_eq_true rfl, Nat.le_of_ble_eq_true rfl⟩ ⟨Nat.le_of_ble_eq_true rfl, Nat.le_of_ble_eq_true rfl⟩ ?_
    refine sr_get C flX3_92 dX3_areJoined_17 hb (by omega) rfl ?_
    exact r_zretD C dX3_areJoined_20 (by omega) (hqd.elim (fun h => h.trans (gB_f (by unfold joined; omega)).symm) (fun h => h.trans (gB_t (by unfold joined; omega)).symm)) rfl

set_option maxRecDepth 100000 in
set_option maxHeartbeats 4000000 in
theorem c_X3_canLight {l : Launch} {D : va_G} {ty : Nat → ClassId} {ad : Int → Nat} {N : Int} {σ : Int → va_E} {b : Int} {s : Int → Int} {r o : Int} (hb : 0 ≤ b ∧ b + 20 ≤ N) (hs : okS s) (hr : 0 ≤ r ∧ r < 6) (ho : 0 ≤ o ∧ o < 6) : gM0 l yX3_canLight cX3_canLight 4 (some .boolean) 3 65 [.ref (ad b), .int (gI r), .int (gI o)] D ty ad N (sput ad ty σ b s) (some (.int (gI (gB (mayL s r o))))) (sput ad ty σ b s) := by
  refine gMet_of [some (.ref (ad b)), some (.int (gI r)), some (.int (gI o)), none] (by decide +kernel) rfl (Nat.le_of_ble_eq_true rfl) rfl ?_
  intro X hl hD hty C hini
  subst hl hD hty
  have hq := hs.rm hr
  have hql := hq.len
  have hqb := hq.bur
  have hob := (hs.rm ho).bur
  refine r_aload_n C dX3_canLight_0 rfl rfl ?_
  refine r_iload_n C dX3_canLight_1 rfl rfl ?_
  refine r_cV C cwX3_64 (c_X3_roomAt0 hb (by omega)) dX3_canLight_2 rfl (by omega) sput_0 rfl rfl rfl (Nat.le_of_ble_eq_true rfl) ⟨Nat.le_of_ble_eq_true rfl, Nat.le_of_ble_eq_true rfl⟩ ⟨Nat.le_of_ble_eq_true rfl, Nat.le_of_ble_eq_true rfl⟩ ?_
  refine r_astore_n C dX3_canLight_5 rfl (Nat.le_of_ble_eq_true rfl) rfl ?_
  dsimp only [List.set]
  refine r_aload_n C dX3_canLight_6 rfl rfl ?_
  refine sr_get C flX3_56 dX3_canLight_7 hb (by omega) rfl ?_
  refine r_if_ne (tgt := 44) C dX3_canLight_10 (by decide) (by omega) (fun h10 => ?_) (fun h10 => ?_)
  · refine r_iconst C dX3_canLight_44 ?_
    exact r_zretD C dX3_canLight_45 (by omega) (by first | exact (gB_t ⟨by omega, by omega, by omega, h37⟩).symm | exact (gB_f (fun h => h37 h.2.2.2)).symm | exact (gB_f (fun h => by have := h.1; have := h.2.1; have := h.2.2.1; omega)).symm) rfl
  · refine r_aload_n C dX3_canLight_13 rfl rfl ?_
    refine sr_get C flX3_85 dX3_canLight_14 hb (by omega) rfl ?_
    refine r_if_le (tgt := 44) C dX3_canLight_17 (by decide) (by omega) (fun h17 => ?_) (fun h17 => ?_)
    · refine r_iconst C dX3_canLight_44 ?_
      exact r_zretD C dX3_canLight_45 (by omega) (by first | exact (gB_t ⟨by omega, by omega, by omega, h37⟩).symm | exact (gB_f (fun h => h37 h.2.2.2)).symm | exact (gB_f (fun h => by have := h.1; have := h.2.1; have := h.2.2.1; omega)).symm) rfl
    · refine r_aload_n C dX3_canLight_20 rfl rfl ?_
      refine r_iload_n C dX3_canLight_21 rfl rfl ?_
      refine r_cV C cwX3_64 (c_X3_roomAt0 hb (by omega)) dX3_canLight_22 rfl (by omega) sput_0 rfl rfl rfl (Nat.le_of_ble_eq_true rfl) ⟨Nat.le_of_ble_eq_true rfl, Nat.le_of_ble_eq_true rfl⟩ ⟨Nat.le_of_ble_eq_true rfl, Nat.le_of_ble_eq_true rfl⟩ ?_
      refine sr_get C flX3_56 dX3_canLight_25 hb (by omega) rfl ?_
      refine r_if_eq (tgt := 44) C dX3_canLight_28 (by decide) (by omega) (fun h28 => ?_) (fun h28 => ?_)
      · refine r_iconst C dX3_canLight_44 ?_
        exact r_zretD C dX3_canLight_45 (by omega) (by first | exact (gB_t ⟨by omega, by omega, by omega, h37⟩).symm | exact (gB_f (fun h => h37 h.2.2.2)).symm | exact (gB_f (fun h => by have := h.1; have := h.2.1; have := h.2.2.1; omega)).symm) rfl
      · refine r_aload_n C dX3_canLight_31 rfl rfl ?_
        refine r_iload_n C dX3_canLight_32 rfl rfl ?_
        refine r_iload_n C dX3_canLight_33 rfl rfl ?_
        refine r_cV C cwX3_88 (c_X3_areJoined hb hs (by omega) (by omega)) dX3_canLight_34 rfl (by omega) sput_0 rfl rfl rfl (Nat.le_of_ble_eq_true rfl) ⟨Nat.le_of_ble_eq_true rfl, Nat.le_of_ble_eq_true rfl⟩ ⟨Nat.le_of_ble_eq_true rfl, Nat.le_of_ble_eq_true rfl⟩ ?_
        refine r_ifb_eq (tgt := 44) C dX3_canLight_37 (by decide) (fun h37 => ?_) (fun h37 => ?_)
        · refine r_iconst C dX3_canLight_44 ?_
          exact r_zretD C dX3_canLight_45 (by omega) (by first | exact (gB_t ⟨by omega, by omega, by omega, h37⟩).symm | exact (gB_f (fun h => h37 h.2.2.2)).symm | exact (gB_f (fun h => by have := h.1; have := h.2.1; have := h.2.2.1; omega)).symm) rfl
        · refine r_iconst C dX3_canLight_40 ?_
          refine r_goto (tgt := 45) C dX3_canLight_41 (by decide) ?_
          exact r_zretD C dX3_canLight_45 (by omega) (by first | exact (gB_t ⟨by omega, by omega, by omega, h37⟩).symm | exact (gB_f (fun h => h37 h.2.2.2)).symm | exact (gB_f (fun h => by have := h.1; have := h.2.1; have := h.2.2.1; omega)).symm) rfl

set_option maxRecDepth 100000 in
set_option maxHeartbeats 4000000 in
theorem c_X3_kindle {l : Launch} {D : va_G} {ty : Nat → ClassId} {ad : Int → Nat} {N : Int} {σ : Int → va_E} {b : Int} {s : Int → Int} {r : Int} (hb : 0 ≤ b ∧ b + 20 ≤ N) (hr : 0 ≤ r ∧ r < 6) : gM0 l yX3_kindle cX3_kindle 3 (some .int) 2 43 [.ref (ad b), .int (gI r)] D ty ad N (sput ad ty σ b s) (some (.int (gI (rm s r 0)))) (sput ad ty σ b (light1 s r)) := by
  refine gMet_of [some (.ref (ad b)), some (.int (gI r)), none] (by decide +kernel) rfl (Nat.le_of_ble_eq_true rfl) rfl ?_
  intro X hl hD hty C hini
  subst hl hD hty
  refine r_aload_n C dX3_kindle_0 rfl rfl ?_
  refine r_iload_n C dX3_kindle_1 rfl rfl ?_
  refine r_cV C cwX3_64 (c_X3_roomAt0 hb (by omega)) dX3_kindle_2 rfl (by omega) sput_0 rfl rfl rfl (Nat.le_of_ble_eq_true rfl) ⟨Nat.le_of_ble_eq_true rfl, Nat.le_of_ble_eq_true rfl⟩ ⟨Nat.le_of_ble_eq_true rfl, Nat.le_of_ble_eq_true rfl⟩ ?_
  refine r_astore_n C dX3_kindle_5 rfl (Nat.le_of_ble_eq_true rfl) rfl ?_
  dsimp only [List.set]
  refine r_aload_n C dX3_kindle_6 rfl rfl ?_
  refine r_iconst C dX3_kindle_7 ?_
  refine sr_put (j := 1) C flX3_56 dX3_kindle_8 hb (by omega) (by decide) rfl (by decide) rfl (gI_z (by omega)) (gI_f (by omega)) ?_
  refine r_aload_n C dX3_kindle_11 rfl rfl ?_
  refine sr_get C flX3_85 dX3_kindle_12 hb (by omega) rfl ?_
  rw [rm_up (by decide), up_n (by decide)]
  exact r_iretD C dX3_kindle_15 rfl rfl

set_option maxRecDepth 100000 in
set_option maxHeartbeats 4000000 in
theorem c_X3_hasNewCandle {l : Launch} {D : va_G} {ty : Nat → ClassId} {ad : Int → Nat} {N : Int} {σ : Int → va_E} {b : Int} {s : Int → Int} (hb : 0 ≤ b ∧ b + 20 ≤ N) (hs : okS s) : gM0 l yX3_hasNewCandle cX3_hasNewCandle 1 (some .boolean) 0 0 [.ref (ad b)] D ty ad N (sput ad ty σ b s) (some (.int (gI (gB (0 < s 1))))) (sput ad ty σ b s) := by
  refine gMet_of [some (.ref (ad b))] (by decide +kernel) rfl (Nat.le_of_ble_eq_true rfl) rfl ?_
  intro X hl hD hty C hini
  subst hl hD hty
  have hx := hs.box
  refine r_aload_n C dX3_hasNewCandle_0 rfl rfl ?_
  refine ss_get C flX3_18 dX3_hasNewCandle_1 hb rfl ?_
  refine r_if_le (tgt := 11) C dX3_hasNewCandle_4 (by decide) (by omega) (fun h4 => ?_) (fun h4 => ?_)
  · refine r_iconst C dX3_hasNewCandle_11 ?_
    exact r_zretD C dX3_hasNewCandle_12 (by omega) (by first | exact (gB_t (by omega)).symm | exact (gB_f (by omega)).symm) rfl
  · refine r_iconst C dX3_hasNewCandle_7 ?_
    refine r_goto (tgt := 12) C dX3_hasNewCandle_8 (by decide) ?_
    exact r_zretD C dX3_hasNewCandle_12 (by omega) (by first | exact (gB_t (by omega)).symm | exact (gB_f (by omega)).symm) rfl

set_option maxRecDepth 100000 in
set_option maxHeartbeats 4000000 in
theorem c_X3_putNewCandle {l : Launch} {D : va_G} {ty : Nat → ClassId} {ad : Int → Nat} {N : Int} {σ : Int → va_E} {b : Int} {s : Int → Int} {r : Int} (hb : 0 ≤ b ∧ b + 20 ≤ N) (hr : 0 ≤ r ∧ r < 6) : gM0 l yX3_putNewCandle cX3_putNewCandle 2 (some .int) 2 43 [.ref (ad b), .int (gI r)] D ty ad N (sput ad ty σ b s) (some (.int (gI (s 1 - 1)))) (sput ad ty σ b (renew s r)) := by
  refine gMet_of [some (.ref (ad b)), some (.int (gI r))] (by decide +kernel) rfl (Nat.le_of_ble_eq_true rfl) rfl ?_
  intro X hl hD hty C hini
  subst hl hD hty
  refine r_aload_n C dX3_putNewCandle_0 rfl rfl ?_
  refine r_iload_n C dX3_putNewCandle_1 rfl rfl ?_
  refine r_cV C cwX3_64 (c_X3_roomAt0 hb (by omega)) dX3_putNewCandle_2 rfl (by omega) sput_0 rfl rfl rfl (Nat.le_of_ble_eq_true rfl) ⟨Nat.le_of_ble_eq_true rfl, Nat.le_of_ble_eq_true rfl⟩ ⟨Nat.le_of_ble_eq_true rfl, Nat.le_of_ble_eq_true rfl⟩ ?_
  refine r_cVv C cwX3_105 (lift (by omega) (c_X1_takeNewCandle (by omega))) dX3_putNewCandle_5 rfl (by omega) (sput_r (by omega)) rfl rfl rfl (Nat.le_of_ble_eq_true rfl) ⟨Nat.le_of_ble_eq_true rfl, Nat.le_of_ble_eq_true rfl⟩ ⟨Nat.le_of_ble_eq_true rfl, Nat.le_of_ble_eq_true rfl⟩ ?_
  refine r_aload_n C dX3_putNewCandle_8 rfl rfl ?_
  refine r_dup C dX3_putNewCandle_9 rfl ?_
  refine ss_get C flX3_18 dX3_putNewCandle_10 hb rfl ?_
  rw [srm_lo (by omega)]
  refine r_iconst C dX3_putNewCandle_13 ?_
  refine r_isub C dX3_putNewCandle_14 ?_
  refine ss_put (j := 1) C flX3_18 dX3_putNewCandle_15 hb (by decide) rfl rfl rfl rfl ?_
  refine r_aload_n C dX3_putNewCandle_18 rfl rfl ?_
  refine ss_get C flX3_18 dX3_putNewCandle_19 hb rfl ?_
  rw [up_s]
  exact r_iretD C dX3_putNewCandle_22 rfl rfl

set_option maxRecDepth 100000 in
set_option maxHeartbeats 4000000 in
theorem c_X3_canKeep {l : Launch} {D : va_G} {ty : Nat → ClassId} {ad : Int → Nat} {N : Int} {σ : Int → va_E} {b : Int} {s : Int → Int} {r key : Int} (hb : 0 ≤ b ∧ b + 20 ≤ N) (hs : okS s) (hr : 0 ≤ r ∧ r < 6) (hkey : -2147483648 ≤ key ∧ key < 2147483648) : gM0 l yX3_canKeep cX3_canKeep 3 (some .boolean) 2 44 [.ref (ad b), .int (gI r), .int (gI key)] D ty ad N (sput ad ty σ b s) (some (.int (gI (gB (mayK s r key))))) (sput ad ty σ b s) := by
  refine gMet_of [some (.ref (ad b)), some (.int (gI r)), some (.int (gI key))] (by decide +kernel) rfl (Nat.le_of_ble_eq_true rfl) rfl ?_
  intro X hl hD hty C hini
  subst hl hD hty
  have hqm := (hs.rm hr).many
  have hrr := rof_rng s key
  refine r_aload_n C dX3_canKeep_0 rfl rfl ?_
  refine r_iload_n C dX3_canKeep_1 rfl rfl ?_
  refine r_cV C cwX3_75 (c_X3_roomOf hb hs (by omega)) dX3_canKeep_2 rfl (by omega) sput_0 rfl rfl rfl (Nat.le_of_ble_eq_true rfl) ⟨Nat.le_of_ble_eq_true rfl, Nat.le_of_ble_eq_true rfl⟩ ⟨Nat.le_of_ble_eq_true rfl, Nat.le_of_ble_eq_true rfl⟩ ?_
  refine r_iconst C dX3_canKeep_5 ?_
  refine r_icmp_ne (tgt := 25) C dX3_canKeep_6 (by decide) (by omega) (by omega) (fun h6 => ?_) (fun h6 => ?_)
  · refine r_iconst C dX3_canKeep_25 ?_
    exact r_zretD C dX3_canKeep_26 (by omega) (by first | exact (gB_t (by unfold mayK; omega)).symm | exact (gB_f (by unfold mayK; omega)).symm) rfl
  · refine r_aload_n C dX3_canKeep_9 rfl rfl ?_
    refine r_iload_n C dX3_canKeep_10 rfl rfl ?_
    refine r_cV C cwX3_64 (c_X3_roomAt0 hb (by omega)) dX3_canKeep_11 rfl (by omega) sput_0 rfl rfl rfl (Nat.le_of_ble_eq_true rfl) ⟨Nat.le_of_ble_eq_true rfl, Nat.le_of_ble_eq_true rfl⟩ ⟨Nat.le_of_ble_eq_true rfl, Nat.le_of_ble_eq_true rfl⟩ ?_
    refine sr_get C flX3_68 dX3_canKeep_14 hb (by omega) rfl ?_
    refine r_iconst C dX3_canKeep_17 ?_
    refine r_icmp_ge (tgt := 25) C dX3_canKeep_18 (by decide) (by omega) (by omega) (fun h18 => ?_) (fun h18 => ?_)
    · refine r_iconst C dX3_canKeep_25 ?_
      exact r_zretD C dX3_canKeep_26 (by omega) (by first | exact (gB_t (by unfold mayK; omega)).symm | exact (gB_f (by unfold mayK; omega)).symm) rfl
    · refine r_iconst C dX3_canKeep_21 ?_
      refine r_goto (tgt := 26) C dX3_canKeep_22 (by decide) ?_
      exact r_zretD C dX3_canKeep_26 (by omega) (by first | exact (gB_t (by unfold mayK; omega)).symm | exact (gB_f (by unfold mayK; omega)).symm) rfl

set_option maxRecDepth 100000 in
set_option maxHeartbeats 4000000 in
theorem c_X3_putThing {l : Launch} {D : va_G} {ty : Nat → ClassId} {ad : Int → Nat} {N : Int} {σ : Int → va_E} {b : Int} {s : Int → Int} {r key : Int} (hb : 0 ≤ b ∧ b + 20 ≤ N) (hr : 0 ≤ r ∧ r < 6) (hm : 0 ≤ rm s r 6 ∧ rm s r 6 < 4) : gM0 l yX3_putThing cX3_putThing 4 (some .int) 2 43 [.ref (ad b), .int (gI r), .int (gI key)] D ty ad N (sput ad ty σ b s) (some (.int (gI (rm s r 6 + 1)))) (sput ad ty σ b (keepS s r key)) := by
  refine gMet_of [some (.ref (ad b)), some (.int (gI r)), some (.int (gI key)), none] (by decide +kernel) rfl (Nat.le_of_ble_eq_true rfl) rfl ?_
  intro X hl hD hty C hini
  subst hl hD hty
  refine r_aload_n C dX3_putThing_0 rfl rfl ?_
  refine r_iload_n C dX3_putThing_1 rfl rfl ?_
  refine r_cV C cwX3_64 (c_X3_roomAt0 hb (by omega)) dX3_putThing_2 rfl (by omega) sput_0 rfl rfl rfl (Nat.le_of_ble_eq_true rfl) ⟨Nat.le_of_ble_eq_true rfl, Nat.le_of_ble_eq_true rfl⟩ ⟨Nat.le_of_ble_eq_true rfl, Nat.le_of_ble_eq_true rfl⟩ ?_
  refine r_astore_n C dX3_putThing_5 rfl (Nat.le_of_ble_eq_true rfl) rfl ?_
  dsimp only [List.set]
  refine r_aload_n C dX3_putThing_6 rfl rfl ?_
  refine r_iload_n C dX3_putThing_7 rfl rfl ?_
  refine r_cVv C cwX3_115 (lift (by omega) (c_X1_addThing (by omega) hm)) dX3_putThing_8 rfl (by omega) (sput_r (by omega)) rfl rfl rfl (Nat.le_of_ble_eq_true rfl) ⟨Nat.le_of_ble_eq_true rfl, Nat.le_of_ble_eq_true rfl⟩ ⟨Nat.le_of_ble_eq_true rfl, Nat.le_of_ble_eq_true rfl⟩ ?_
  refine r_aload_n C dX3_putThing_11 rfl rfl ?_
  refine sr_get C flX3_68 dX3_putThing_12 hb (by omega) rfl ?_
  rw [rm_srm (show can (addR (rm s r) key) from can_up (can_up (can_up (can_rm s r) (by omega) _) (by omega) _) (by omega) _)]
  exact r_iretD C dX3_putThing_15 (by unfold addR; rw [up_s]) rfl

set_option maxRecDepth 100000 in
set_option maxHeartbeats 4000000 in
theorem c_X3_roomsBlown {l : Launch} {D : va_G} {ty : Nat → ClassId} {ad : Int → Nat} {N : Int} {σ : Int → va_E} {b : Int} {s : Int → Int} (hb : 0 ≤ b ∧ b + 20 ≤ N) (hs : okS s) : gM0 l yX3_roomsBlown cX3_roomsBlown 3 (some .int) 2 43 [.ref (ad b)] D ty ad N (sput ad ty σ b s) (some (.int (gI (blown s)))) (sput ad ty σ b s) := by
  refine gMet_of [some (.ref (ad b)), none, none] (by decide +kernel) rfl (Nat.le_of_ble_eq_true rfl) rfl ?_
  intro X hl hD hty C hini
  subst hl hD hty
  have hd := hs.dra
  refine r_iconst C dX3_roomsBlown_0 ?_
  refine r_istore_n C dX3_roomsBlown_1 rfl (Nat.le_of_ble_eq_true rfl) rfl ?_
  dsimp only [List.set]
  have lp : ∀ (n : Nat) (p : Int), (0 ≤ p) → (p + n = s 8) → (blN s n p = blown s) → V X 0 0 (gQ X (gD (some (.int (gI (blown s)))) ad N (sput ad (gty X) σ b s)) 0 0) 2 [some (.ref (ad b)), some (.int (gI p)), none] [] ad N (sput ad (gty X) σ b s) := by
    intro n
    induction n with
    | zero =>
      intro p hp hpn e
      refine r_iload_n C dX3_roomsBlown_2 rfl rfl ?_
      refine r_aload_n C dX3_roomsBlown_3 rfl rfl ?_
      refine ss_get C flX3_47 dX3_roomsBlown_4 hb rfl ?_
      refine r_icmp_ge (tgt := 47) C dX3_roomsBlown_7 (by decide) (by omega) (by omega) (fun h7 => ?_) (fun h7 => ?_)
      · refine r_aload_n C dX3_roomsBlown_47 rfl rfl ?_
        refine ss_get C flX3_47 dX3_roomsBlown_48 hb rfl ?_
        exact r_iretD C dX3_roomsBlown_51 (by rw [← e]; simp only [blN]; omega) rfl
      · exact absurd h7 (by omega)
    | succ n ih =>
      intro p hp hpn e
      have hq := hs.rm (r := (s 7 + p) % 6) (by omega)
      have hqs := hq.shi
      have hqd := hq.door
      refine r_iload_n C dX3_roomsBlown_2 rfl rfl ?_
      refine r_aload_n C dX3_roomsBlown_3 rfl rfl ?_
      refine ss_get C flX3_47 dX3_roomsBlown_4 hb rfl ?_
      refine r_icmp_ge (tgt := 47) C dX3_roomsBlown_7 (by decide) (by omega) (by omega) (fun h7 => ?_) (fun h7 => ?_)
      · exact absurd h7 (by omega)
      · refine r_aload_n C dX3_roomsBlown_10 rfl rfl ?_
        refine r_aload_n C dX3_roomsBlown_11 rfl rfl ?_
        refine ss_get C flX3_22 dX3_roomsBlown_12 hb rfl ?_
        refine r_iload_n C dX3_roomsBlown_15 rfl rfl ?_
        refine r_iadd C dX3_roomsBlown_16 ?_
        refine r_cV C cwX3_64 (c_X3_roomAt hb (by omega)) dX3_roomsBlown_17 rfl (by omega) sput_0 rfl rfl rfl (Nat.le_of_ble_eq_true rfl) ⟨Nat.le_of_ble_eq_true rfl, Nat.le_of_ble_eq_true rfl⟩ ⟨Nat.le_of_ble_eq_true rfl, Nat.le_of_ble_eq_true rfl⟩ ?_
        refine r_astore_n C dX3_roomsBlown_20 rfl (Nat.le_of_ble_eq_true rfl) rfl ?_
        dsimp only [List.set]
        refine r_aload_n C dX3_roomsBlown_21 rfl rfl ?_
        refine sr_get C flX3_131 dX3_roomsBlown_22 hb (by omega) rfl ?_
        refine r_if_eq (tgt := 30) C dX3_roomsBlown_25 (by decide) (by omega) (fun h25 => ?_) (fun h25 => ?_)
        · refine r_aload_n C dX3_roomsBlown_30 rfl rfl ?_
          refine sr_get C flX3_92 dX3_roomsBlown_31 hb (by omega) rfl ?_
          refine r_if_ne (tgt := 41) C dX3_roomsBlown_34 (by decide) (by omega) (fun h34 => ?_) (fun h34 => ?_)
          · refine r_iinc C dX3_roomsBlown_41 rfl rfl ?_
            dsimp only [List.set]
            refine r_goto (tgt := 2) C dX3_roomsBlown_44 (by decide) ?_
            refine V_sub (L' := [some (.ref (ad b)), some (.int (gI (p + 1))), none]) rfl (fun i v hv => by match i, hv with | 0, hv => exact hv | 1, hv => exact hv | 2, hv => simp at hv | i + 3, hv => simp at hv) ?_
            exact ih _ (by omega) (by omega) (by rw [← e]; simp only [blN]; rw [if_neg (by omega), if_neg (by omega)])
          · refine r_iload_n C dX3_roomsBlown_37 rfl rfl ?_
            refine r_iconst C dX3_roomsBlown_38 ?_
            refine r_iadd C dX3_roomsBlown_39 ?_
            exact r_iretD C dX3_roomsBlown_40 (by rw [← e]; simp only [blN]; rw [if_neg (by omega), if_pos (by omega)]) rfl
        · refine r_iload_n C dX3_roomsBlown_28 rfl rfl ?_
          exact r_iretD C dX3_roomsBlown_29 (by rw [← e]; simp only [blN]; rw [if_pos (by omega)]) rfl
  exact lp (s 8).toNat 0 (by omega) (by omega) rfl

set_option maxRecDepth 100000 in
set_option maxHeartbeats 4000000 in
theorem c_X3_isInDraught {l : Launch} {D : va_G} {ty : Nat → ClassId} {ad : Int → Nat} {N : Int} {σ : Int → va_E} {b : Int} {s : Int → Int} {r : Int} (hb : 0 ≤ b ∧ b + 20 ≤ N) (hs : okS s) (hr : 0 ≤ r ∧ r < 6) : gM0 l yX3_isInDraught cX3_isInDraught 2 (some .boolean) 3 65 [.ref (ad b), .int (gI r)] D ty ad N (sput ad ty σ b s) (some (.int (gI (gB ((r - s 7) % 6 < blown s))))) (sput ad ty σ b s) := by
  refine gMet_of [some (.ref (ad b)), some (.int (gI r))] (by decide +kernel) rfl (Nat.le_of_ble_eq_true rfl) rfl ?_
  intro X hl hD hty C hini
  subst hl hD hty
  have hbl := blown_rng hs
  have hd := hs.dra
  refine r_iload_n C dX3_isInDraught_0 rfl rfl ?_
  refine r_aload_n C dX3_isInDraught_1 rfl rfl ?_
  refine ss_get C flX3_22 dX3_isInDraught_2 hb rfl ?_
  refine r_isub C dX3_isInDraught_5 ?_
  refine r_bipush C dX3_isInDraught_6 (by decide) ?_
  refine r_cS C cwX3_50 (c_J9_floorMod_7cf53 (by omega) (by omega)) dX3_isInDraught_8 rfl rfl rfl (Nat.le_of_ble_eq_true rfl) ⟨Nat.le_of_ble_eq_true rfl, Nat.le_of_ble_eq_true rfl⟩ ⟨Nat.le_of_ble_eq_true rfl, Nat.le_of_ble_eq_true rfl⟩ ?_
  refine r_aload_n C dX3_isInDraught_11 rfl rfl ?_
  refine r_cV C cwX3_125 (c_X3_roomsBlown hb hs) dX3_isInDraught_12 rfl (by omega) sput_0 rfl rfl rfl (Nat.le_of_ble_eq_true rfl) ⟨Nat.le_of_ble_eq_true rfl, Nat.le_of_ble_eq_true rfl⟩ ⟨Nat.le_of_ble_eq_true rfl, Nat.le_of_ble_eq_true rfl⟩ ?_
  refine r_icmp_ge (tgt := 22) C dX3_isInDraught_15 (by decide) (by omega) (by omega) (fun h15 => ?_) (fun h15 => ?_)
  · refine r_iconst C dX3_isInDraught_22 ?_
    exact r_zretD C dX3_isInDraught_23 (by omega) (by first | exact (gB_t (by omega)).symm | exact (gB_f (by omega)).symm) rfl
  · refine r_iconst C dX3_isInDraught_18 ?_
    refine r_goto (tgt := 23) C dX3_isInDraught_19 (by decide) ?_
    exact r_zretD C dX3_isInDraught_23 (by omega) (by first | exact (gB_t (by omega)).symm | exact (gB_f (by omega)).symm) rfl
end
section
/-! what a beat does to the numbers -/
/-- the first p rooms changed by g -/
def mapR (g : Int → (Int → Int) → (Int → Int)) (s : Int → Int) (p : Int) : Int → Int := fun j => if 9 ≤ j ∧ j < 9 + 15 * p then g ((j - 9) / 15) (rm s ((j - 9) / 15)) ((j - 9) % 15) else s j
theorem mapR_0 (g : Int → (Int → Int) → (Int → Int)) (s : Int → Int) : mapR g s 0 = s := by
  funext j; unfold mapR; rw [if_neg (by omega)]
theorem mapR_lo {g : Int → (Int → Int) → (Int → Int)} {s : Int → Int} {p j : Int} (h : j < 9) : mapR g s p j = s j := if_neg (by omega)
theorem rm_mapR_ge {g : Int → (Int → Int) → (Int → Int)} {s : Int → Int} {p r : Int} (h : p ≤ r) : rm (mapR g s p) r = rm s r := by
  funext j; unfold rm; split
  · unfold mapR; rw [if_neg (by omega)]
  · rfl
theorem rm_mapR_lt {g : Int → (Int → Int) → (Int → Int)} {s : Int → Int} {p r : Int} (hr : 0 ≤ r ∧ r < p) (hc : can (g r (rm s r))) : rm (mapR g s p) r = g r (rm s r) := by
  funext j
  by_cases hj : 0 ≤ j ∧ j < 15
  · rw [rm_at _ _ hj]; unfold mapR; rw [if_pos (by omega), show (9 + 15 * r + j - 9) / 15 = r by omega, show (9 + 15 * r + j - 9) % 15 = j by omega]
  · rw [hc j (by omega)]; exact if_neg hj
theorem srm_mapR {g : Int → (Int → Int) → (Int → Int)} {s : Int → Int} {p : Int} (hp : 0 ≤ p) : srm (mapR g s p) p (g p (rm s p)) = mapR g s (p + 1) := by
  funext j
  unfold srm
  split
  · unfold mapR; rw [if_pos (by omega), show (j - 9) / 15 = p by omega, show (j - 9) % 15 = j - (9 + 15 * p) by omega]
  · unfold mapR
    by_cases h : 9 ≤ j ∧ j < 9 + 15 * p
    · rw [if_pos h, if_pos (by omega)]
    · rw [if_neg h, if_neg (by omega)]
/-- candles of the rooms d, d + 1 .. (p of them) put out -/
def offTo (s : Int → Int) (d p : Int) : Int → Int := fun j => if (9 ≤ j ∧ j < 99) ∧ (j - 9) % 15 = 1 ∧ ((j - 9) / 15 - d) % 6 < p then 0 else s j
theorem offTo_0 (s : Int → Int) (d : Int) : offTo s d 0 = s := by
  funext j; unfold offTo; rw [if_neg (by omega)]
theorem offTo_lo {s : Int → Int} {d p j : Int} (h : j < 9) : offTo s d p j = s j := if_neg (by omega)
theorem offTo_s {s : Int → Int} {d p : Int} (hp : 0 ≤ p ∧ p < 6) : up (offTo s d p) (9 + 15 * ((d + p) % 6) + 1) 0 = offTo s d (p + 1) := by
  funext j
  by_cases h : j = 9 + 15 * ((d + p) % 6) + 1
  · rw [h, up_s]; unfold offTo; rw [if_pos (by omega)]
  · rw [up_n h]
    unfold offTo
    by_cases h2 : (9 ≤ j ∧ j < 99) ∧ (j - 9) % 15 = 1 ∧ ((j - 9) / 15 - d) % 6 < p
    · rw [if_pos h2, if_pos (by omega)]
    · rw [if_neg h2, if_neg (by omega)]
theorem rm_offTo {s : Int → Int} {d p r : Int} (hr : 0 ≤ r ∧ r < 6) : rm (offTo s d p) r = if (r - d) % 6 < p then up (rm s r) 1 0 else rm s r := by
  funext j
  by_cases hj : 0 ≤ j ∧ j < 15
  · rw [rm_at _ _ hj]
    unfold offTo
    by_cases h : (r - d) % 6 < p
    · rw [if_pos h]
      by_cases e : j = 1
      · subst e; rw [up_s, if_pos (by omega)]
      · rw [up_n e, if_neg (by omega), rm_at _ _ hj]
    · rw [if_neg h, if_neg (by omega), rm_at _ _ hj]
  · rw [show rm (offTo s d p) r j = 0 from if_neg hj]
    split
    · rw [up_n (by omega)]; exact (if_neg hj).symm
    · exact (if_neg hj).symm
def burnAll (s : Int → Int) : Int → Int := mapR (fun _ ρ => burnR ρ) s 6
def blow (s : Int → Int) : Int → Int := up (up (offTo (up s 6 (s 6 + cbF s (s 7) (blown s))) (s 7) (blown s)) 7 (-1)) 8 0
def ageAll (s : Int → Int) : Int → Int := mapR (fun _ ρ => ageR ρ (s 0)) s 6
def goneS (s : Int → Int) : Int := sumF (fun r => rm s r 6 - ageQ (rm s r) (s 0)) 6 0
def mid (s : Int → Int) : Int → Int := blow (burnAll s)
def goneB (s : Int → Int) : Int := goneS (mid s)
def beat (s : Int → Int) : Int → Int := up (up (ageAll (mid s)) 3 (s 3 + goneB s)) 2 (s 2 + 1)
theorem can_burn {ρ : Int → Int} (h : can ρ) : can (burnR ρ) := by
  unfold burnR
  split
  · exact h
  · split
    · exact can_up (can_up (can_up (can_up h (by omega) _) (by omega) _) (by omega) _) (by omega) _
    · exact can_up (can_up (can_up h (by omega) _) (by omega) _) (by omega) _
theorem okR_burn {ρ : Int → Int} (h : okR ρ) : okR (burnR ρ) := by
  unfold burnR
  split
  · exact h
  · obtain ⟨h0, h1, h2, h3, h5, h6, h7, h8, h9⟩ := h
    have hr := lessR_rng (ρ 2)
    split
    · refine ⟨?_, ?_, ?_, ?_, ?_, ?_, fun i a b => ?_, fun i a b => ?_, ?_⟩
      · first | (simp only [up_ap, Int.reduceEq, reduceIte]; omega) | (simp [up_ap]; done) | (simp [up_ap]; omega)
      · first | (simp only [up_ap, Int.reduceEq, reduceIte]; omega) | (simp [up_ap]; done) | (simp [up_ap]; omega)
      · first | (simp only [up_ap, Int.reduceEq, reduceIte]; omega) | (simp [up_ap]; done) | (simp [up_ap]; omega)
      · first | (simp only [up_ap, Int.reduceEq, reduceIte]; omega) | (simp [up_ap]; done) | (simp [up_ap]; omega)
      · first | (simp only [up_ap, Int.reduceEq, reduceIte]; omega) | (simp [up_ap]; done) | (simp [up_ap]; omega)
      · first | (simp only [up_ap, Int.reduceEq, reduceIte]; omega) | (simp [up_ap]; done) | (simp [up_ap]; omega)
      · rw [up_n (by omega), up_n (by omega), up_n (by omega), up_n (by omega)]; exact h7 i a b
      · rw [up_n (by omega), up_n (by omega), up_n (by omega), up_n (by omega)]; exact h8 i a b
      · first | (simp only [up_ap, Int.reduceEq, reduceIte]; omega) | (simp [up_ap]; done) | (simp [up_ap]; omega)
    · refine ⟨?_, ?_, ?_, ?_, ?_, ?_, fun i a b => ?_, fun i a b => ?_, ?_⟩
      · first | (simp only [up_ap, Int.reduceEq, reduceIte]; omega) | (simp [up_ap]; done) | (simp [up_ap]; omega)
      · first | (simp only [up_ap, Int.reduceEq, reduceIte]; omega) | (simp [up_ap]; done) | (simp [up_ap]; omega)
      · first | (simp only [up_ap, Int.reduceEq, reduceIte]; omega) | (simp [up_ap]; done) | (simp [up_ap]; omega)
      · first | (simp only [up_ap, Int.reduceEq, reduceIte]; omega) | (simp [up_ap]; done) | (simp [up_ap]; omega)
      · first | (simp only [up_ap, Int.reduceEq, reduceIte]; omega) | (simp [up_ap]; done) | (simp [up_ap]; omega)
      · first | (simp only [up_ap, Int.reduceEq, reduceIte]; omega) | (simp [up_ap]; done) | (simp [up_ap]; omega)
      · rw [up_n (by omega), up_n (by omega), up_n (by omega)]; exact h7 i a b
      · rw [up_n (by omega), up_n (by omega), up_n (by omega)]; exact h8 i a b
      · first | (simp only [up_ap, Int.reduceEq, reduceIte]; omega) | (simp [up_ap]; done) | (simp [up_ap]; omega)
theorem okR_off {ρ : Int → Int} (h : okR ρ) : okR (up ρ 1 0) := by
  obtain ⟨h0, h1, h2, h3, h5, h6, h7, h8, h9⟩ := h
  refine ⟨?_, ?_, ?_, ?_, ?_, ?_, fun i a b => ?_, fun i a b => ?_, ?_⟩
  · first | (simp only [up_ap, Int.reduceEq, reduceIte]; omega) | (simp [up_ap]; done) | (simp [up_ap]; omega)
  · first | (simp only [up_ap, Int.reduceEq, reduceIte]; omega) | (simp [up_ap]; done) | (simp [up_ap]; omega)
  · first | (simp only [up_ap, Int.reduceEq, reduceIte]; omega) | (simp [up_ap]; done) | (simp [up_ap]; omega)
  · first | (simp only [up_ap, Int.reduceEq, reduceIte]; omega) | (simp [up_ap]; done) | (simp [up_ap]; omega)
  · first | (simp only [up_ap, Int.reduceEq, reduceIte]; omega) | (simp [up_ap]; done) | (simp [up_ap]; omega)
  · first | (simp only [up_ap, Int.reduceEq, reduceIte]; omega) | (simp [up_ap]; done) | (simp [up_ap]; omega)
  · rw [up_n (by omega)]; exact h7 i a b
  · rw [up_n (by omega)]; exact h8 i a b
  · first | (simp only [up_ap, Int.reduceEq, reduceIte]; omega) | (simp [up_ap]; done) | (simp [up_ap]; omega)
/-- a room whose things' rows alone are changed -/
theorem okR_row {ρ ρ' : Int → Int} (h : okR ρ) (hlo : ∀ j, 0 ≤ j → j < 7 → ρ' j = ρ j) (h7 : ∀ i, 0 ≤ i → i < 4 → 0 ≤ ρ' (7 + i) ∧ ρ' (7 + i) < 100) (h8 : ∀ i, 0 ≤ i → i < 4 → 0 ≤ ρ' (11 + i) ∧ ρ' (11 + i) < 50) : okR ρ' := by
  obtain ⟨g0, g1, g2, g3, g5, g6, g7, g8, g9⟩ := h
  refine ⟨?_, ?_, ?_, ?_, ?_, ?_, h7, h8, ?_⟩
  · rw [hlo 0 (by omega) (by omega)]; exact g0
  · rw [hlo 1 (by omega) (by omega)]; exact g1
  · rw [hlo 2 (by omega) (by omega)]; exact g2
  · rw [hlo 3 (by omega) (by omega)]; exact g3
  · rw [hlo 5 (by omega) (by omega)]; exact g5
  · rw [hlo 6 (by omega) (by omega)]; exact g6
  · rw [hlo 0 (by omega) (by omega), hlo 1 (by omega) (by omega)]; exact g9
theorem okR_many {ρ : Int → Int} (h : okR ρ) {m : Int} (hm : 0 ≤ m ∧ m ≤ 4) : okR (up ρ 6 m) := by
  obtain ⟨h0, h1, h2, h3, h5, h6, h7, h8, h9⟩ := h
  refine ⟨?_, ?_, ?_, ?_, ?_, ?_, fun i a b => ?_, fun i a b => ?_, ?_⟩
  · first | (simp only [up_ap, Int.reduceEq, reduceIte]; omega) | (simp [up_ap]; done) | (simp [up_ap]; omega)
  · first | (simp only [up_ap, Int.reduceEq, reduceIte]; omega) | (simp [up_ap]; done) | (simp [up_ap]; omega)
  · first | (simp only [up_ap, Int.reduceEq, reduceIte]; omega) | (simp [up_ap]; done) | (simp [up_ap]; omega)
  · first | (simp only [up_ap, Int.reduceEq, reduceIte]; omega) | (simp [up_ap]; done) | (simp [up_ap]; omega)
  · first | (simp only [up_ap, Int.reduceEq, reduceIte]; omega) | (simp [up_ap]; done) | (simp [up_ap]; omega)
  · rw [up_s]; exact hm
  · rw [up_n (by omega)]; exact h7 i a b
  · rw [up_n (by omega)]; exact h8 i a b
  · first | (simp only [up_ap, Int.reduceEq, reduceIte]; omega) | (simp [up_ap]; done) | (simp [up_ap]; omega)
theorem ageL_ok {set : Int} (hset : 1 ≤ set ∧ set ≤ 50) : ∀ (n : Nat) (p q : Int) (r : Int → Int), 0 ≤ q → q ≤ p → p + n ≤ 4 → okR r → can r →
    okR (ageL set n p q r).1 ∧ can (ageL set n p q r).1 ∧ (q ≤ (ageL set n p q r).2 ∧ (ageL set n p q r).2 ≤ q + n) ∧ ∀ j, j < 7 → (ageL set n p q r).1 j = r j
  | 0, p, q, r, _, _, _, h1, h2 => ⟨h1, h2, by simp [ageL], fun _ _ => rfl⟩
  | n + 1, p, q, r, hq, hp, hn, h1, h2 => by
    unfold ageL
    generalize hv : (if r 1 = 0 then r (11 + p) + 1 else 0) = v
    have hv0 : 0 ≤ v := by
      have := h1.dark p (by omega) (by omega)
      rw [← hv]; split <;> omega
    split
    · rename_i hlt
      have hk : okR (up (up r (7 + q) (r (7 + p))) (11 + q) v) := okR_row h1 (fun j a b => by rw [up_n (by omega), up_n (by omega)])
        (fun i a b => by
          rw [up_n (by omega)]
          by_cases e : i = q
          · rw [e, up_s]; exact h1.keys p (by omega) (by omega)
          · rw [up_n (by omega)]; exact h1.keys i a b)
        (fun i a b => by
          by_cases e : i = q
          · rw [e, up_s]; omega
          · rw [up_n (by omega), up_n (by omega)]; exact h1.dark i a b)
      obtain ⟨g1, g2, g3, g4⟩ := ageL_ok hset n (p + 1) (q + 1) _ (by omega) (by omega) (by omega) hk (can_up (can_up h2 (by omega) _) (by omega) _)
      refine ⟨g1, g2, by omega, fun j hj => ?_⟩
      rw [g4 j hj, up_n (by omega), up_n (by omega)]
    · obtain ⟨g1, g2, g3, g4⟩ := ageL_ok hset n (p + 1) q r (by omega) (by omega) (by omega) h1 h2
      exact ⟨g1, g2, by omega, g4⟩
theorem ageQ_rng {ρ : Int → Int} {set : Int} (hset : 1 ≤ set ∧ set ≤ 50) (h : okR ρ) (hc : can ρ) : 0 ≤ ageQ ρ set ∧ ageQ ρ set ≤ ρ 6 := by
  have := (ageL_ok hset (ρ 6).toNat 0 0 ρ (by omega) (by omega) (by have := h.many; omega) h hc).2.2.1
  have := h.many
  unfold ageQ
  omega
theorem okR_age {ρ : Int → Int} {set : Int} (hset : 1 ≤ set ∧ set ≤ 50) (h : okR ρ) (hc : can ρ) : okR (ageR ρ set) ∧ can (ageR ρ set) := by
  obtain ⟨g1, g2, -, -⟩ := ageL_ok hset (ρ 6).toNat 0 0 ρ (by omega) (by omega) (by have := h.many; omega) h hc
  have h2 := ageQ_rng hset h hc
  have := h.many
  exact ⟨okR_many g1 (by omega), can_up g2 (by omega) _⟩
theorem okS_map {g : Int → (Int → Int) → (Int → Int)} {s : Int → Int} (hs : okS s) (hg : ∀ r, 0 ≤ r → r < 6 → okR (g r (rm s r)) ∧ can (g r (rm s r))) : okS (mapR g s 6) := by
  refine ⟨?_, ?_, ?_, fun r h1 h2 => ?_⟩
  · rw [mapR_lo (by omega)]; exact hs.set
  · rw [mapR_lo (by omega)]; exact hs.box
  · rw [mapR_lo (by omega), mapR_lo (by omega)]; exact hs.dra
  · rw [rm_mapR_lt ⟨h1, h2⟩ (hg r h1 h2).2]; exact (hg r h1 h2).1
theorem okS_burnAll {s : Int → Int} (hs : okS s) : okS (burnAll s) := okS_map hs fun r h1 h2 => ⟨okR_burn (hs.rm ⟨h1, h2⟩), can_burn (can_rm s r)⟩
theorem okS_lo {s : Int → Int} (hs : okS s) {j z : Int} (hj : 2 ≤ j ∧ j < 7) : okS (up s j z) := by
  refine ⟨?_, ?_, ?_, fun r h1 h2 => ?_⟩
  · rw [up_n (by omega)]; exact hs.set
  · rw [up_n (by omega)]; exact hs.box
  · rw [up_n (by omega), up_n (by omega)]; exact hs.dra
  · rw [rm_up_lo (by omega)]; exact hs.rm ⟨h1, h2⟩
theorem okS_off {s : Int → Int} (hs : okS s) (d p : Int) : okS (offTo s d p) := by
  refine ⟨?_, ?_, ?_, fun r h1 h2 => ?_⟩
  · rw [offTo_lo (by omega)]; exact hs.set
  · rw [offTo_lo (by omega)]; exact hs.box
  · rw [offTo_lo (by omega), offTo_lo (by omega)]; exact hs.dra
  · rw [rm_offTo ⟨h1, h2⟩]
    split
    · exact okR_off (hs.rm ⟨h1, h2⟩)
    · exact hs.rm ⟨h1, h2⟩
theorem okS_blow {s : Int → Int} (hs : okS s) : okS (blow s) := by
  have h := okS_off (okS_lo hs (j := 6) (z := s 6 + cbF s (s 7) (blown s)) (by omega)) (s 7) (blown s)
  unfold blow
  refine ⟨?_, ?_, ?_, fun r h1 h2 => ?_⟩
  · rw [up_n (by omega), up_n (by omega)]; exact h.set
  · rw [up_n (by omega), up_n (by omega)]; exact h.box
  · exact Or.inl ⟨by rw [up_n (by omega), up_s], by rw [up_s]⟩
  · rw [rm_up_lo (by omega), rm_up_lo (by omega)]; exact h.rm ⟨h1, h2⟩
theorem okS_mid {s : Int → Int} (hs : okS s) : okS (mid s) := okS_blow (okS_burnAll hs)
theorem okS_ageAll {s : Int → Int} (hs : okS s) : okS (ageAll s) := okS_map hs fun r h1 h2 => okR_age hs.set (hs.rm ⟨h1, h2⟩) (can_rm s r)
theorem mid_lo {s : Int → Int} {j : Int} (h : j < 6) : mid s j = s j := by
  unfold mid blow burnAll
  rw [up_n (by omega), up_n (by omega), offTo_lo (by omega), up_n (by omega), mapR_lo (by omega)]
theorem okS_beat {s : Int → Int} (hs : okS s) : okS (beat s) := okS_lo (okS_lo (okS_ageAll (okS_mid hs)) (by omega)) (by omega)
theorem goneB_rng {s : Int → Int} (hs : okS s) : 0 ≤ goneB s ∧ goneB s ≤ 24 := by
  have hm := okS_mid hs
  have := sumF_rng (f := fun r => rm (mid s) r 6 - ageQ (rm (mid s) r) (mid s 0)) (m := 4) 6 0 (fun i h1 h2 => by
    have h := ageQ_rng hm.set (hm.rm (r := i) (by omega)) (can_rm (mid s) i)
    have := (hm.rm (r := i) (by omega)).many
    show 0 ≤ rm (mid s) i 6 - ageQ (rm (mid s) i) (mid s 0) ∧ rm (mid s) i 6 - ageQ (rm (mid s) i) (mid s 0) ≤ 4
    omega)
  unfold goneB goneS; omega
/-- n beats; how many things are forgotten in them, from g on -/
def bts : Nat → (Int → Int) → Int → (Int → Int) × Int
  | 0, s, g => (s, g)
  | n + 1, s, g => bts n (beat s) (g + goneB s)
theorem okS_bts : ∀ (n : Nat) (s : Int → Int) (g : Int), okS s → okS (bts n s g).1
  | 0, s, g, h => h
  | n + 1, s, g, h => okS_bts n (beat s) _ (okS_beat h)
end
section
/-! Store, second part -/

theorem r_dconst_1 {X : gT} {cc : ByteArray} {nL : Nat} {own : String} {R : Room} {ret : Option FieldType} {kc kn : Nat} {Q : State → Prop} {pc : Nat} {L : List (Option Value)} {st : List Value} {ad : Int → Nat} {N : Int} {σ : Int → va_E} (C : gOk X cc nL own R ret) (hd : decode cc pc = .ok (.dconst 1, 1)) (k : V X kc kn Q (pc + 1) L (.double FP.dconst1 :: st) ad N σ) : V X kc kn Q pc L st ad N σ := fun ls H locs hl hw => lv_dconst1 C.1 C.2.1 hd (k ls H locs hl hw)
theorem r_dconst_0 {X : gT} {cc : ByteArray} {nL : Nat} {own : String} {R : Room} {ret : Option FieldType} {kc kn : Nat} {Q : State → Prop} {pc : Nat} {L : List (Option Value)} {st : List Value} {ad : Int → Nat} {N : Int} {σ : Int → va_E} (C : gOk X cc nL own R ret) (hd : decode cc pc = .ok (.dconst 0, 1)) (k : V X kc kn Q (pc + 1) L (.double FP.dconst0 :: st) ad N σ) : V X kc kn Q pc L st ad N σ := fun ls H locs hl hw => lv_dconst0 C.1 C.2.1 hd (k ls H locs hl hw)
/-- what stands at a place is no longer needed -/
theorem V_drop {X : gT} {k n : Nat} {Q : State → Prop} {pc : Nat} {L : List (Option Value)} {st : List Value} {ad : Int → Nat} {N : Int} {σ : Int → va_E} (i : Nat) (kk : V X k n Q pc (L.set i none) st ad N σ) : V X k n Q pc L st ad N σ := by
  refine V_sub (by simp) (fun j v h => ?_) kk
  rw [List.getElem?_set] at h
  split at h
  · split at h <;> cases h
  · exact h
def draS (s : Int → Int) (r t : Int) : Int → Int := up (up s 7 r) 8 t
theorem okS_dra {s : Int → Int} (hs : okS s) {r t : Int} (hr : 0 ≤ r ∧ r < 6) (ht : 1 ≤ t ∧ t ≤ 6) : okS (draS s r t) := by
  unfold draS
  refine ⟨?_, ?_, Or.inr ?_, fun q h1 h2 => ?_⟩
  · rw [up_n (by omega), up_n (by omega)]; exact hs.set
  · rw [up_n (by omega), up_n (by omega)]; exact hs.box
  · rw [up_n (by omega), up_s, up_s]; omega
  · rw [rm_up_lo (by omega), rm_up_lo (by omega)]; exact hs.rm ⟨h1, h2⟩
theorem okS_room {s : Int → Int} (hs : okS s) {r : Int} (hr : 0 ≤ r ∧ r < 6) {ρ : Int → Int} (h : okR ρ) (hc : can ρ) : okS (srm s r ρ) := by
  refine ⟨?_, ?_, ?_, fun q h1 h2 => ?_⟩
  · rw [srm_lo (by omega)]; exact hs.set
  · rw [srm_lo (by omega)]; exact hs.box
  · rw [srm_lo (by omega), srm_lo (by omega)]; exact hs.dra
  · by_cases e : q = r
    · rw [e, rm_srm hc]; exact h
    · rw [rm_srm_ne e]; exact hs.rm ⟨h1, h2⟩
theorem okR_wick {ρ : Int → Int} (h : okR ρ) : okR (up ρ 2 0) := by
  obtain ⟨h0, h1, h2, h3, h5, h6, h7, h8, h9⟩ := h
  refine ⟨?_, ?_, ?_, ?_, ?_, ?_, fun i a b => ?_, fun i a b => ?_, ?_⟩
  · simp only [up_ap, Int.reduceEq, reduceIte]; omega
  · simp only [up_ap, Int.reduceEq, reduceIte]; omega
  · simp only [up_ap, Int.reduceEq, reduceIte]; omega
  · simp only [up_ap, Int.reduceEq, reduceIte]; omega
  · simp only [up_ap, Int.reduceEq, reduceIte]; omega
  · simp only [up_ap, Int.reduceEq, reduceIte]; omega
  · rw [up_n (by omega)]; exact h7 i a b
  · rw [up_n (by omega)]; exact h8 i a b
  · simp only [up_ap, Int.reduceEq, reduceIte]; omega
theorem okS_wick {s : Int → Int} (hs : okS s) {r : Int} (hr : 0 ≤ r ∧ r < 6) : okS (up s (9 + 15 * r + 2) 0) := by
  rw [← srm_up s r (by omega)]
  exact okS_room hs hr (okR_wick (hs.rm hr)) (can_up (can_rm s r) (by omega) _)
def rdS (s : Int → Int) (key : Int) : Int → Int := if rof s key = -1 then s else if rm s (rof s key) 1 = 1 then (bts 1 (up (up s 4 (s 4 + 1)) (9 + 15 * rof s key + 2) 0) 0).1 else (bts 3 (up (up s 4 (s 4 + 1)) 5 (s 5 + 1)) 0).1
/-- how long a room stays lit -/
def blit (s : Int → Int) (r : Int) : Int := if rm s r 1 = 0 then 0 else if (r - s 7) % 6 < blown s then 1 else untr 60 (rm s r 0) (rm s r 2)
theorem blit_rng (s : Int → Int) (r : Int) : 0 ≤ blit s r ∧ blit s r ≤ 60 := by
  have := untr_rng 60 (rm s r 0) (rm s r 2)
  unfold blit
  split
  · omega
  · split <;> omega
theorem maxD_rng {ρ : Int → Int} (h : ∀ i, 0 ≤ i → i < 4 → 0 ≤ ρ (11 + i) ∧ ρ (11 + i) ≤ 100) : ∀ (n : Nat) (p a : Int), 0 ≤ p → p + n ≤ 4 → 0 ≤ a ∧ a ≤ 100 → 0 ≤ maxD ρ n p a ∧ maxD ρ n p a ≤ 100
  | 0, p, a, _, _, ha => ha
  | n + 1, p, a, hp, hn, ha => by
    have := h p hp (by omega)
    exact maxD_rng h n (p + 1) _ (by omega) (by omega) (by omega)
theorem ffR_rng {ρ : Int → Int} {bl set : Int} (h : okR ρ) (hb : 0 ≤ bl ∧ bl ≤ 60) (hset : 1 ≤ set ∧ set ≤ 50) : 1 ≤ ffR ρ bl set ∧ ffR ρ bl set ≤ 110 := by
  have := maxD_rng h.darkI (ρ 6).toNat 0 0 (by omega) (by have := h.many; omega) (by omega)
  unfold ffR
  split <;> omega
def ntN (s : Int → Int) : Nat → Int → Int → Int
  | 0, _, x => x
  | n + 1, p, x => ntN s n (p + 1) (if 0 < rm s p 6 then (if x = -1 then ffR (rm s p) (blit s p) (s 0) else min x (ffR (rm s p) (blit s p) (s 0))) else x)
/-- when the next thing is forgotten -/
def nextF (s : Int → Int) : Int := ntN s 6 0 (-1)
def onW (s : Int → Int) (q d : Int) : Nat → Int → Int
  | 0, _ => -1
  | n + 1, l => if rm s ((q + l * d) % 6) 1 = 1 then l else if rm s ((q + l * d) % 6) 0 = 0 ∨ ¬ joined s ((q + l * d) % 6) (((q + l * d) % 6 + d) % 6) then -1 else onW s q d n (l + 1)
theorem onW_rng (s : Int → Int) (q d : Int) : ∀ (n : Nat) (l : Int), onW s q d n l = -1 ∨ (l ≤ onW s q d n l ∧ onW s q d n l < l + n)
  | 0, l => Or.inl rfl
  | n + 1, l => by
    have := onW_rng s q d n (l + 1)
    unfold onW
    split
    · omega
    · split <;> omega
def toL (s : Int → Int) (q : Int) : Int := if cb s = 0 then (if 0 < rm s q 0 then 1 else -1) else if onW s q (-1) 6 0 = -1 then onW s q 1 6 0 else if onW s q 1 6 0 = -1 then onW s q (-1) 6 0 else min (onW s q (-1) 6 0) (onW s q 1 6 0)
abbrev needr (s : Int → Int) (r o : Int) : Prop := rm s r 0 < rm s o 0 ∨ (rm s r 0 = rm s o 0 ∧ rm s o 6 < rm s r 6)
def ndN (s : Int → Int) : Nat → Int → Int → Int
  | 0, _, x => x
  | n + 1, p, x => ndN s n (p + 1) (if 0 < rm s p 6 ∧ (x = -1 ∨ needr s p x) then p else x)
def needS (s : Int → Int) : Int := ndN s 6 0 (-1)
def inl (s : Int → Int) : Int := sumF (fun r => if rm s r 1 = 1 then rm s r 6 else 0) 6 0
def shD (a b : Int) : UInt64 := FP.ddiv (FP.i2d (gI a)) (FP.i2d (gI b))
def share (s : Int → Int) : UInt64 := if thg s = 0 then FP.dconst1 else shD (inl s) (thg s)
theorem shD_tab : ∀ a : Fin 25, ∀ b : Fin 24, shD (a.val : Int) ((b.val : Int) + 1) &&& 0x7fffffffffffffff ≤ 0x7ff0000000000000 := by decide +kernel
theorem shD_n {a b : Int} (ha : 0 ≤ a ∧ a ≤ 24) (hb : 1 ≤ b ∧ b ≤ 24) : vf_n64 (shD a b) := by
  have h := shD_tab ⟨a.toNat, by omega⟩ ⟨(b - 1).toNat, by omega⟩
  rw [show (((⟨a.toNat, by omega⟩ : Fin 25).val : Nat) : Int) = a from Int.toNat_of_nonneg ha.1, show (((⟨(b - 1).toNat, by omega⟩ : Fin 24).val : Nat) : Int) + 1 = b by show (((b - 1).toNat : Nat) : Int) + 1 = b; omega] at h
  exact h
theorem inl_rng {s : Int → Int} (hs : okS s) : 0 ≤ inl s ∧ inl s ≤ 24 := by
  have := sumF_rng (f := fun r => if rm s r 1 = 1 then rm s r 6 else 0) (m := 4) 6 0 (fun i h1 h2 => by have := (hs.rm (r := i) (by omega)).many; show 0 ≤ (if rm s i 1 = 1 then rm s i 6 else 0) ∧ (if rm s i 1 = 1 then rm s i 6 else 0) ≤ 4; split <;> omega)
  unfold inl; omega

set_option maxRecDepth 100000 in
set_option maxHeartbeats 4000000 in
theorem c_X3_beginDraught {l : Launch} {D : va_G} {ty : Nat → ClassId} {ad : Int → Nat} {N : Int} {σ : Int → va_E} {b : Int} {s : Int → Int} {r t : Int} (hb : 0 ≤ b ∧ b + 20 ≤ N) (hs : okS s) (hr : 0 ≤ r ∧ r < 6) (ht : 1 ≤ t ∧ t ≤ 6) : gM0 l yX3_beginDraught cX3_beginDraught 3 (some .int) 3 67 [.ref (ad b), .int (gI r), .int (gI t)] D ty ad N (sput ad ty σ b s) (some (.int (gI (cbF (draS s r t) r (blown (draS s r t)))))) (sput ad ty σ b (draS s r t)) := by
  refine gMet_of [some (.ref (ad b)), some (.int (gI r)), some (.int (gI t))] (by decide +kernel) rfl (Nat.le_of_ble_eq_true rfl) rfl ?_
  intro X hl hD hty C hini
  subst hl hD hty
  have hs2 := okS_dra hs hr ht
  have hb2 : 0 ≤ blown (up (up s 7 r) 8 t) ∧ blown (up (up s 7 r) 8 t) ≤ _ ∧ blown (up (up s 7 r) 8 t) ≤ 6 := blown_rng hs2
  refine r_aload_n C dX3_beginDraught_0 rfl rfl ?_
  refine r_iload_n C dX3_beginDraught_1 rfl rfl ?_
  refine ss_put (j := 7) C flX3_22 dX3_beginDraught_2 hb (by decide) rfl rfl rfl rfl ?_
  refine r_aload_n C dX3_beginDraught_5 rfl rfl ?_
  refine r_iload_n C dX3_beginDraught_6 rfl rfl ?_
  refine ss_put (j := 8) C flX3_47 dX3_beginDraught_7 hb (by decide) rfl rfl rfl rfl ?_
  refine r_aload_n C dX3_beginDraught_10 rfl rfl ?_
  refine r_iload_n C dX3_beginDraught_11 rfl rfl ?_
  refine r_aload_n C dX3_beginDraught_12 rfl rfl ?_
  refine r_cV C cwX3_125 (c_X3_roomsBlown hb hs2) dX3_beginDraught_13 rfl (by omega) sput_0 rfl rfl rfl (Nat.le_of_ble_eq_true rfl) ⟨Nat.le_of_ble_eq_true rfl, Nat.le_of_ble_eq_true rfl⟩ ⟨Nat.le_of_ble_eq_true rfl, Nat.le_of_ble_eq_true rfl⟩ ?_
  refine r_cV C cwX3_128 (c_X3_candlesBurningFrom hb hs2 (by omega) (by omega)) dX3_beginDraught_16 rfl (by omega) sput_0 rfl rfl rfl (Nat.le_of_ble_eq_true rfl) ⟨Nat.le_of_ble_eq_true rfl, Nat.le_of_ble_eq_true rfl⟩ ⟨Nat.le_of_ble_eq_true rfl, Nat.le_of_ble_eq_true rfl⟩ ?_
  exact r_iretD C dX3_beginDraught_19 rfl rfl

set_option maxRecDepth 100000 in
set_option maxHeartbeats 4000000 in
theorem c_X3_blow {l : Launch} {D : va_G} {ty : Nat → ClassId} {ad : Int → Nat} {N : Int} {σ : Int → va_E} {b : Int} {s : Int → Int} (hb : 0 ≤ b ∧ b + 20 ≤ N) (hs : okS s) : gM0 l yX3_blow cX3_blow 3 none 3 67 [.ref (ad b)] D ty ad N (sput ad ty σ b s) (none) (sput ad ty σ b (blow s)) := by
  refine gMet_of [some (.ref (ad b)), none, none] (by decide +kernel) rfl (Nat.le_of_ble_eq_true rfl) rfl ?_
  intro X hl hD hty C hini
  subst hl hD hty
  have hbl := blown_rng hs
  have hd := hs.dra
  refine r_aload_n C dX3_blow_0 rfl rfl ?_
  refine r_cV C cwX3_125 (c_X3_roomsBlown hb hs) dX3_blow_1 rfl (by omega) sput_0 rfl rfl rfl (Nat.le_of_ble_eq_true rfl) ⟨Nat.le_of_ble_eq_true rfl, Nat.le_of_ble_eq_true rfl⟩ ⟨Nat.le_of_ble_eq_true rfl, Nat.le_of_ble_eq_true rfl⟩ ?_
  refine r_istore_n C dX3_blow_4 rfl (Nat.le_of_ble_eq_true rfl) rfl ?_
  dsimp only [List.set]
  refine r_aload_n C dX3_blow_5 rfl rfl ?_
  refine r_dup C dX3_blow_6 rfl ?_
  refine ss_get C flX3_44 dX3_blow_7 hb rfl ?_
  refine r_aload_n C dX3_blow_10 rfl rfl ?_
  refine r_aload_n C dX3_blow_11 rfl rfl ?_
  refine ss_get C flX3_22 dX3_blow_12 hb rfl ?_
  refine r_iload_n C dX3_blow_15 rfl rfl ?_
  refine r_cV C cwX3_128 (c_X3_candlesBurningFrom hb hs (by omega) (by omega)) dX3_blow_16 rfl (by omega) sput_0 rfl rfl rfl (Nat.le_of_ble_eq_true rfl) ⟨Nat.le_of_ble_eq_true rfl, Nat.le_of_ble_eq_true rfl⟩ ⟨Nat.le_of_ble_eq_true rfl, Nat.le_of_ble_eq_true rfl⟩ ?_
  refine r_iadd C dX3_blow_19 ?_
  refine ss_put (j := 6) C flX3_44 dX3_blow_20 hb (by decide) rfl rfl rfl rfl ?_
  refine r_iconst C dX3_blow_23 ?_
  refine r_istore_n C dX3_blow_24 rfl (Nat.le_of_ble_eq_true rfl) rfl ?_
  dsimp only [List.set]
  have lp : ∀ (n : Nat) (p : Int), (0 ≤ p) → (p + n = blown s) → V X 0 0 (gQ X (gD (none) ad N (sput ad (gty X) σ b (blow s))) 0 0) 25 [some (.ref (ad b)), some (.int (gI (blown s))), some (.int (gI p))] [] ad N (sput ad (gty X) σ b (offTo (up s 6 (s 6 + cbF s (s 7) (blown s))) (s 7) p)) := by
    intro n
    induction n with
    | zero =>
      intro p hp hpn
      have hpp : p = blown s := by omega
      subst hpp
      refine r_iload_n C dX3_blow_25 rfl rfl ?_
      refine r_iload_n C dX3_blow_26 rfl rfl ?_
      refine r_icmp_ge (tgt := 50) C dX3_blow_27 (by decide) (by omega) (by omega) (fun h27 => ?_) (fun h27 => ?_)
      · refine r_aload_n C dX3_blow_50 rfl rfl ?_
        refine r_iconst C dX3_blow_51 ?_
        refine ss_put (j := 7) C flX3_22 dX3_blow_52 hb (by decide) rfl rfl rfl rfl ?_
        refine r_aload_n C dX3_blow_55 rfl rfl ?_
        refine r_iconst C dX3_blow_56 ?_
        refine ss_put (j := 8) C flX3_47 dX3_blow_57 hb (by decide) rfl rfl rfl rfl ?_
        exact r_vretD C dX3_blow_60 rfl
      · exact absurd h27 (by omega)
    | succ n ih =>
      intro p hp hpn
      refine r_iload_n C dX3_blow_25 rfl rfl ?_
      refine r_iload_n C dX3_blow_26 rfl rfl ?_
      refine r_icmp_ge (tgt := 50) C dX3_blow_27 (by decide) (by omega) (by omega) (fun h27 => ?_) (fun h27 => ?_)
      · exact absurd h27 (by omega)
      · refine r_aload_n C dX3_blow_30 rfl rfl ?_
        refine r_aload_n C dX3_blow_31 rfl rfl ?_
        refine ss_get C flX3_22 dX3_blow_32 hb rfl ?_
        rw [offTo_lo (by omega), up_n (by omega)]
        refine r_iload_n C dX3_blow_35 rfl rfl ?_
        refine r_iadd C dX3_blow_36 ?_
        refine r_cV C cwX3_64 (c_X3_roomAt hb (by omega)) dX3_blow_37 rfl (by omega) sput_0 rfl rfl rfl (Nat.le_of_ble_eq_true rfl) ⟨Nat.le_of_ble_eq_true rfl, Nat.le_of_ble_eq_true rfl⟩ ⟨Nat.le_of_ble_eq_true rfl, Nat.le_of_ble_eq_true rfl⟩ ?_
        refine r_iconst C dX3_blow_40 ?_
        refine sr_put (j := 1) C flX3_56 dX3_blow_41 hb (by omega) (by decide) rfl (by decide) rfl (gI_z (by omega)) (gI_f (by omega)) ?_
        refine r_iinc C dX3_blow_44 rfl rfl ?_
        dsimp only [List.set]
        refine r_goto (tgt := 25) C dX3_blow_47 (by decide) ?_
        rw [offTo_s ⟨by omega, by omega⟩]
        exact ih _ (by omega) (by omega)
  have h0 := lp (blown s).toNat 0 (by omega) (by omega)
  rw [offTo_0] at h0
  exact h0

set_option maxRecDepth 100000 in
set_option maxHeartbeats 4000000 in
theorem c_X3_passBeat {l : Launch} {D : va_G} {ty : Nat → ClassId} {ad : Int → Nat} {N : Int} {σ : Int → va_E} {b : Int} {s : Int → Int} (hb : 0 ≤ b ∧ b + 20 ≤ N) (hs : okS s) : gM0 l yX3_passBeat cX3_passBeat 3 (some .int) 4 89 [.ref (ad b)] D ty ad N (sput ad ty σ b s) (some (.int (gI (goneB s)))) (sput ad ty σ b (beat s)) := by
  refine gMet_of [some (.ref (ad b)), none, none] (by decide +kernel) rfl (Nat.le_of_ble_eq_true rfl) rfl ?_
  intro X hl hD hty C hini
  subst hl hD hty
  refine r_iconst C dX3_passBeat_0 ?_
  refine r_istore_n C dX3_passBeat_1 rfl (Nat.le_of_ble_eq_true rfl) rfl ?_
  dsimp only [List.set]
  have lp : ∀ (n : Nat) (p : Int), (0 ≤ p) → (p + n = 6) → V X 0 0 (gQ X (gD (some (.int (gI (goneB s)))) ad N (sput ad (gty X) σ b (beat s))) 0 0) 2 [some (.ref (ad b)), some (.int (gI p)), none] [] ad N (sput ad (gty X) σ b (mapR (fun _ ρ => burnR ρ) s p)) := by
    intro n
    induction n with
    | zero =>
      intro p hp hpn
      have hpp : p = 6 := by omega
      subst hpp
      refine r_iload_n C dX3_passBeat_2 rfl rfl ?_
      refine r_bipush C dX3_passBeat_3 (by decide) ?_
      refine r_icmp_ge (tgt := 23) C dX3_passBeat_5 (by decide) (by omega) (by omega) (fun h5 => ?_) (fun h5 => ?_)
      · refine r_aload_n C dX3_passBeat_23 rfl rfl ?_
        refine r_cVv C cwX3_140 (c_X3_blow hb (okS_burnAll hs)) dX3_passBeat_24 rfl (by omega) sput_0 rfl rfl rfl (Nat.le_of_ble_eq_true rfl) ⟨Nat.le_of_ble_eq_true rfl, Nat.le_of_ble_eq_true rfl⟩ ⟨Nat.le_of_ble_eq_true rfl, Nat.le_of_ble_eq_true rfl⟩ ?_
        show V X 0 0 _ _ _ _ ad N (sput ad (gty X) σ b (mid s))
        refine r_iconst C dX3_passBeat_27 ?_
        refine r_istore_n C dX3_passBeat_28 rfl (Nat.le_of_ble_eq_true rfl) rfl ?_
        dsimp only [List.set]
        refine r_iconst C dX3_passBeat_29 ?_
        refine r_istore_n C dX3_passBeat_30 rfl (Nat.le_of_ble_eq_true rfl) rfl ?_
        dsimp only [List.set]
        have hm := okS_mid hs
        have hm0 := mid_lo (s := s) (j := 0) (by omega)
        have hset := hs.set
        have lq : ∀ (n : Nat) (p g : Int), (0 ≤ p) → (p + n = 6) → (g + sumF (fun r => rm (mid s) r 6 - ageQ (rm (mid s) r) (mid s 0)) n p = goneB s) → V X 0 0 (gQ X (gD (some (.int (gI (goneB s)))) ad N (sput ad (gty X) σ b (beat s))) 0 0) 31 [some (.ref (ad b)), some (.int (gI g)), some (.int (gI p))] [] ad N (sput ad (gty X) σ b (mapR (fun _ ρ => ageR ρ (mid s 0)) (mid s) p)) := by
          intro n
          induction n with
          | zero =>
            intro p g hp hpn e
            have hpp : p = 6 := by omega
            subst hpp
            have hg : g = goneB s := by rw [← e]; simp only [sumF]; omega
            subst hg
            refine r_iload_n C dX3_passBeat_31 rfl rfl ?_
            refine r_bipush C dX3_passBeat_32 (by decide) ?_
            refine r_icmp_ge (tgt := 59) C dX3_passBeat_34 (by decide) (by omega) (by omega) (fun h34 => ?_) (fun h34 => ?_)
            · refine r_aload_n C dX3_passBeat_59 rfl rfl ?_
              refine r_dup C dX3_passBeat_60 rfl ?_
              refine ss_get C flX3_35 dX3_passBeat_61 hb rfl ?_
              rw [mapR_lo (by omega), mid_lo (by omega)]
              refine r_iload_n C dX3_passBeat_64 rfl rfl ?_
              refine r_iadd C dX3_passBeat_65 ?_
              refine ss_put (j := 3) C flX3_35 dX3_passBeat_66 hb (by decide) rfl rfl rfl rfl ?_
              refine r_aload_n C dX3_passBeat_69 rfl rfl ?_
              refine r_dup C dX3_passBeat_70 rfl ?_
              refine ss_get C flX3_32 dX3_passBeat_71 hb rfl ?_
              rw [up_n (by omega), mapR_lo (by omega), mid_lo (by omega)]
              refine r_iconst C dX3_passBeat_74 ?_
              refine r_iadd C dX3_passBeat_75 ?_
              refine ss_put (j := 2) C flX3_32 dX3_passBeat_76 hb (by decide) rfl rfl rfl rfl ?_
              refine r_iload_n C dX3_passBeat_79 rfl rfl ?_
              exact r_iretD C dX3_passBeat_80 rfl rfl
            · exact absurd h34 (by omega)
          | succ n ih =>
            intro p g hp hpn e
            have hq : okR (rm (mapR (fun _ ρ => ageR ρ (mid s 0)) (mid s) p) p) := by rw [rm_mapR_ge (Int.le_refl p)]; exact hm.rm ⟨by omega, by omega⟩
            refine r_iload_n C dX3_passBeat_31 rfl rfl ?_
            refine r_bipush C dX3_passBeat_32 (by decide) ?_
            refine r_icmp_ge (tgt := 59) C dX3_passBeat_34 (by decide) (by omega) (by omega) (fun h34 => ?_) (fun h34 => ?_)
            · exact absurd h34 (by omega)
            · refine r_iload_n C dX3_passBeat_37 rfl rfl ?_
              refine r_aload_n C dX3_passBeat_38 rfl rfl ?_
              refine ss_get C flX3_11 dX3_passBeat_39 hb rfl ?_
              refine r_iload_n C dX3_passBeat_42 rfl rfl ?_
              refine ss_room C dX3_passBeat_43 hb (by omega) ?_
              refine r_aload_n C dX3_passBeat_44 rfl rfl ?_
              refine ss_get C flX3_25 dX3_passBeat_45 hb rfl ?_
              rw [mapR_lo (by omega)]
              refine r_cV C cwX3_143 (lift (by omega) (c_X1_ageThings (by omega) hq.many hq.bur (by omega) hq.darkI)) dX3_passBeat_48 rfl (by omega) (sput_r (by omega)) rfl rfl rfl (Nat.le_of_ble_eq_true rfl) ⟨Nat.le_of_ble_eq_true rfl, Nat.le_of_ble_eq_true rfl⟩ ⟨Nat.le_of_ble_eq_true rfl, Nat.le_of_ble_eq_true rfl⟩ ?_
              rw [rm_mapR_ge (Int.le_refl p), show srm (mapR (fun _ ρ => ageR ρ (mid s 0)) (mid s) p) p (ageR (rm (mid s) p) (mid s 0)) = mapR (fun _ ρ => ageR ρ (mid s 0)) (mid s) (p + 1) from srm_mapR hp]
              refine r_iadd C dX3_passBeat_51 ?_
              refine r_istore_n C dX3_passBeat_52 rfl (Nat.le_of_ble_eq_true rfl) rfl ?_
              dsimp only [List.set]
              refine r_iinc C dX3_passBeat_53 rfl rfl ?_
              dsimp only [List.set]
              refine r_goto (tgt := 31) C dX3_passBeat_56 (by decide) ?_
              exact ih _ _ (by omega) (by omega) (by rw [← e]; simp only [sumF]; omega)
        have h0 := lq 6 0 0 (by omega) (by omega) (by unfold goneB goneS; omega)
        rw [mapR_0] at h0
        exact h0
      · exact absurd h5 (by omega)
    | succ n ih =>
      intro p hp hpn
      have hq : okR (rm (mapR (fun _ ρ => burnR ρ) s p) p) := by rw [rm_mapR_ge (Int.le_refl p)]; exact hs.rm ⟨by omega, by omega⟩
      refine r_iload_n C dX3_passBeat_2 rfl rfl ?_
      refine r_bipush C dX3_passBeat_3 (by decide) ?_
      refine r_icmp_ge (tgt := 23) C dX3_passBeat_5 (by decide) (by omega) (by omega) (fun h5 => ?_) (fun h5 => ?_)
      · exact absurd h5 (by omega)
      · refine r_aload_n C dX3_passBeat_8 rfl rfl ?_
        refine ss_get C flX3_11 dX3_passBeat_9 hb rfl ?_
        refine r_iload_n C dX3_passBeat_12 rfl rfl ?_
        refine ss_room C dX3_passBeat_13 hb (by omega) ?_
        refine r_cVv C cwX3_137 (lift (by omega) (c_X1_burnForBeat (by omega) hq.len hq.bur hq.wick)) dX3_passBeat_14 rfl (by omega) (sput_r (by omega)) rfl rfl rfl (Nat.le_of_ble_eq_true rfl) ⟨Nat.le_of_ble_eq_true rfl, Nat.le_of_ble_eq_true rfl⟩ ⟨Nat.le_of_ble_eq_true rfl, Nat.le_of_ble_eq_true rfl⟩ ?_
        rw [rm_mapR_ge (Int.le_refl p), show srm (mapR (fun _ ρ => burnR ρ) s p) p (burnR (rm s p)) = mapR (fun _ ρ => burnR ρ) s (p + 1) from srm_mapR hp]
        refine r_iinc C dX3_passBeat_17 rfl rfl ?_
        dsimp only [List.set]
        refine r_goto (tgt := 2) C dX3_passBeat_20 (by decide) ?_
        exact ih _ (by omega) (by omega)
  have h0 := lp 6 0 (by omega) (by omega)
  rw [mapR_0] at h0
  exact h0

set_option maxRecDepth 100000 in
set_option maxHeartbeats 4000000 in
theorem c_X3_passBeats {l : Launch} {D : va_G} {ty : Nat → ClassId} {ad : Int → Nat} {N : Int} {σ : Int → va_E} {b : Int} {s : Int → Int} {c : Int} (hb : 0 ≤ b ∧ b + 20 ≤ N) (hs : okS s) (hc : 0 ≤ c ∧ c ≤ 100) : gM0 l yX3_passBeats cX3_passBeats 4 (some .int) 5 111 [.ref (ad b), .int (gI c)] D ty ad N (sput ad ty σ b s) (some (.int (gI (bts c.toNat s 0).2))) (sput ad ty σ b (bts c.toNat s 0).1) := by
  refine gMet_of [some (.ref (ad b)), some (.int (gI c)), none, none] (by decide +kernel) rfl (Nat.le_of_ble_eq_true rfl) rfl ?_
  intro X hl hD hty C hini
  subst hl hD hty
  refine r_iconst C dX3_passBeats_0 ?_
  refine r_istore_n C dX3_passBeats_1 rfl (Nat.le_of_ble_eq_true rfl) rfl ?_
  dsimp only [List.set]
  refine r_iconst C dX3_passBeats_2 ?_
  refine r_istore_n C dX3_passBeats_3 rfl (Nat.le_of_ble_eq_true rfl) rfl ?_
  dsimp only [List.set]
  have lp : ∀ (n : Nat) (p g : Int) (t : Int → Int), (0 ≤ p) → (p + n = c) → (okS t) → (bts n t g = bts c.toNat s 0) → V X 0 0 (gQ X (gD (some (.int (gI (bts c.toNat s 0).2))) ad N (sput ad (gty X) σ b (bts c.toNat s 0).1)) 0 0) 4 [some (.ref (ad b)), some (.int (gI c)), some (.int (gI g)), some (.int (gI p))] [] ad N (sput ad (gty X) σ b t) := by
    intro n
    induction n with
    | zero =>
      intro p g t hp hpn ht e
      refine r_iload_n C dX3_passBeats_4 rfl rfl ?_
      refine r_iload_n C dX3_passBeats_5 rfl rfl ?_
      refine r_icmp_ge (tgt := 22) C dX3_passBeats_6 (by decide) (by omega) (by omega) (fun h6 => ?_) (fun h6 => ?_)
      · refine r_iload_n C dX3_passBeats_22 rfl rfl ?_
        exact r_iretD C dX3_passBeats_23 (by rw [← e]; rfl) (by rw [← e]; rfl)
      · exact absurd h6 (by omega)
    | succ n ih =>
      intro p g t hp hpn ht e
      refine r_iload_n C dX3_passBeats_4 rfl rfl ?_
      refine r_iload_n C dX3_passBeats_5 rfl rfl ?_
      refine r_icmp_ge (tgt := 22) C dX3_passBeats_6 (by decide) (by omega) (by omega) (fun h6 => ?_) (fun h6 => ?_)
      · exact absurd h6 (by omega)
      · refine r_iload_n C dX3_passBeats_9 rfl rfl ?_
        refine r_aload_n C dX3_passBeats_10 rfl rfl ?_
        refine r_cV C cwX3_134 (c_X3_passBeat hb ht) dX3_passBeats_11 rfl (by omega) sput_0 rfl rfl rfl (Nat.le_of_ble_eq_true rfl) ⟨Nat.le_of_ble_eq_true rfl, Nat.le_of_ble_eq_true rfl⟩ ⟨Nat.le_of_ble_eq_true rfl, Nat.le_of_ble_eq_true rfl⟩ ?_
        refine r_iadd C dX3_passBeats_14 ?_
        refine r_istore_n C dX3_passBeats_15 rfl (Nat.le_of_ble_eq_true rfl) rfl ?_
        dsimp only [List.set]
        refine r_iinc C dX3_passBeats_16 rfl rfl ?_
        dsimp only [List.set]
        refine r_goto (tgt := 4) C dX3_passBeats_19 (by decide) ?_
        exact ih _ _ _ (by omega) (by omega) (okS_beat ht) e
  exact lp c.toNat 0 0 s (by omega) (by omega) hs rfl

set_option maxRecDepth 100000 in
set_option maxHeartbeats 4000000 in
theorem c_X3_readThing {l : Launch} {D : va_G} {ty : Nat → ClassId} {ad : Int → Nat} {N : Int} {σ : Int → va_E} {b : Int} {s : Int → Int} {key : Int} (hb : 0 ≤ b ∧ b + 20 ≤ N) (hs : okS s) (hkey : -2147483648 ≤ key ∧ key < 2147483648) : gM0 l yX3_readThing cX3_readThing 4 (some .int) 6 134 [.ref (ad b), .int (gI key)] D ty ad N (sput ad ty σ b s) (some (.int (gI (rof s key)))) (sput ad ty σ b (rdS s key)) := by
  refine gMet_of [some (.ref (ad b)), some (.int (gI key)), none, none] (by decide +kernel) rfl (Nat.le_of_ble_eq_true rfl) rfl ?_
  intro X hl hD hty C hini
  subst hl hD hty
  have hrr := rof_rng s key
  refine r_aload_n C dX3_readThing_0 rfl rfl ?_
  refine r_iload_n C dX3_readThing_1 rfl rfl ?_
  refine r_cV C cwX3_75 (c_X3_roomOf hb hs (by omega)) dX3_readThing_2 rfl (by omega) sput_0 rfl rfl rfl (Nat.le_of_ble_eq_true rfl) ⟨Nat.le_of_ble_eq_true rfl, Nat.le_of_ble_eq_true rfl⟩ ⟨Nat.le_of_ble_eq_true rfl, Nat.le_of_ble_eq_true rfl⟩ ?_
  refine r_istore_n C dX3_readThing_5 rfl (Nat.le_of_ble_eq_true rfl) rfl ?_
  dsimp only [List.set]
  refine r_iload_n C dX3_readThing_6 rfl rfl ?_
  refine r_iconst C dX3_readThing_7 ?_
  refine r_icmp_ne (tgt := 13) C dX3_readThing_8 (by decide) (by omega) (by omega) (fun h8 => ?_) (fun h8 => ?_)
  · have hr : 0 ≤ rof s key ∧ rof s key < 6 := by omega
    have hqb := (hs.rm hr).bur
    refine r_aload_n C dX3_readThing_13 rfl rfl ?_
    refine r_iload_n C dX3_readThing_14 rfl rfl ?_
    refine r_cV C cwX3_64 (c_X3_roomAt0 hb (by omega)) dX3_readThing_15 rfl (by omega) sput_0 rfl rfl rfl (Nat.le_of_ble_eq_true rfl) ⟨Nat.le_of_ble_eq_true rfl, Nat.le_of_ble_eq_true rfl⟩ ⟨Nat.le_of_ble_eq_true rfl, Nat.le_of_ble_eq_true rfl⟩ ?_
    refine r_astore_n C dX3_readThing_18 rfl (Nat.le_of_ble_eq_true rfl) rfl ?_
    dsimp only [List.set]
    refine r_aload_n C dX3_readThing_19 rfl rfl ?_
    refine r_dup C dX3_readThing_20 rfl ?_
    refine ss_get C flX3_38 dX3_readThing_21 hb rfl ?_
    refine r_iconst C dX3_readThing_24 ?_
    refine r_iadd C dX3_readThing_25 ?_
    refine ss_put (j := 4) C flX3_38 dX3_readThing_26 hb (by decide) rfl rfl rfl rfl ?_
    refine r_aload_n C dX3_readThing_29 rfl rfl ?_
    refine sr_get C flX3_56 dX3_readThing_30 hb (by omega) rfl ?_
    rw [rm_up_lo (by omega)]
    refine r_if_eq (tgt := 50) C dX3_readThing_33 (by decide) (by omega) (fun h33 => ?_) (fun h33 => ?_)
    · refine r_aload_n C dX3_readThing_50 rfl rfl ?_
      refine r_dup C dX3_readThing_51 rfl ?_
      refine ss_get C flX3_41 dX3_readThing_52 hb rfl ?_
      rw [up_n (by omega)]
      refine r_iconst C dX3_readThing_55 ?_
      refine r_iadd C dX3_readThing_56 ?_
      refine ss_put (j := 5) C flX3_41 dX3_readThing_57 hb (by decide) rfl rfl rfl rfl ?_
      refine r_aload_n C dX3_readThing_60 rfl rfl ?_
      refine r_iconst C dX3_readThing_61 ?_
      refine r_cV C cwX3_149 (c_X3_passBeats hb (okS_lo (okS_lo hs (by omega)) (by omega)) (by omega)) dX3_readThing_62 rfl (by omega) sput_0 rfl rfl rfl (Nat.le_of_ble_eq_true rfl) ⟨Nat.le_of_ble_eq_true rfl, Nat.le_of_ble_eq_true rfl⟩ ⟨Nat.le_of_ble_eq_true rfl, Nat.le_of_ble_eq_true rfl⟩ ?_
      refine r_pop C dX3_readThing_65 rfl ?_
      refine r_iload_n C dX3_readThing_66 rfl rfl ?_
      exact r_iretD C dX3_readThing_67 rfl (by unfold rdS; rw [if_neg (by omega)]; first | (rw [if_pos (by omega)]; rfl) | (rw [if_neg (by omega)]; rfl))
    · refine r_aload_n C dX3_readThing_36 rfl rfl ?_
      refine r_iconst C dX3_readThing_37 ?_
      refine sr_put (j := 2) C flX3_146 dX3_readThing_38 hb (by omega) (by decide) rfl (by decide) rfl rfl rfl ?_
      refine r_aload_n C dX3_readThing_41 rfl rfl ?_
      refine r_iconst C dX3_readThing_42 ?_
      refine r_cV C cwX3_149 (c_X3_passBeats hb (okS_wick (okS_lo hs (by omega)) hr) (by omega)) dX3_readThing_43 rfl (by omega) sput_0 rfl rfl rfl (Nat.le_of_ble_eq_true rfl) ⟨Nat.le_of_ble_eq_true rfl, Nat.le_of_ble_eq_true rfl⟩ ⟨Nat.le_of_ble_eq_true rfl, Nat.le_of_ble_eq_true rfl⟩ ?_
      refine r_pop C dX3_readThing_46 rfl ?_
      refine r_goto (tgt := 66) C dX3_readThing_47 (by decide) ?_
      refine r_iload_n C dX3_readThing_66 rfl rfl ?_
      exact r_iretD C dX3_readThing_67 rfl (by unfold rdS; rw [if_neg (by omega)]; first | (rw [if_pos (by omega)]; rfl) | (rw [if_neg (by omega)]; rfl))
  · refine r_iconst C dX3_readThing_11 ?_
    exact r_iretD C dX3_readThing_12 (by omega) (by unfold rdS; rw [if_pos (by omega)])

set_option maxRecDepth 100000 in
set_option maxHeartbeats 4000000 in
theorem c_X3_beatsLit {l : Launch} {D : va_G} {ty : Nat → ClassId} {ad : Int → Nat} {N : Int} {σ : Int → va_E} {b : Int} {s : Int → Int} {r : Int} (hb : 0 ≤ b ∧ b + 20 ≤ N) (hs : okS s) (hr : 0 ≤ r ∧ r < 6) : gM0 l yX3_beatsLit cX3_beatsLit 3 (some .int) 4 86 [.ref (ad b), .int (gI r)] D ty ad N (sput ad ty σ b s) (some (.int (gI (blit s r)))) (sput ad ty σ b s) := by
  refine gMet_of [some (.ref (ad b)), some (.int (gI r)), none] (by decide +kernel) rfl (Nat.le_of_ble_eq_true rfl) rfl ?_
  intro X hl hD hty C hini
  subst hl hD hty
  have hq := hs.rm hr
  have hql := hq.len
  have hqb := hq.bur
  have hqd := hq.door
  have hqm := hq.many
  have hqw := hq.wick
  have hqs := hq.shi
  refine r_aload_n C dX3_beatsLit_0 rfl rfl ?_
  refine r_iload_n C dX3_beatsLit_1 rfl rfl ?_
  refine r_cV C cwX3_64 (c_X3_roomAt0 hb (by omega)) dX3_beatsLit_2 rfl (by omega) sput_0 rfl rfl rfl (Nat.le_of_ble_eq_true rfl) ⟨Nat.le_of_ble_eq_true rfl, Nat.le_of_ble_eq_true rfl⟩ ⟨Nat.le_of_ble_eq_true rfl, Nat.le_of_ble_eq_true rfl⟩ ?_
  refine r_astore_n C dX3_beatsLit_5 rfl (Nat.le_of_ble_eq_true rfl) rfl ?_
  dsimp only [List.set]
  refine r_aload_n C dX3_beatsLit_6 rfl rfl ?_
  refine sr_get C flX3_56 dX3_beatsLit_7 hb (by omega) rfl ?_
  refine r_if_ne (tgt := 15) C dX3_beatsLit_10 (by decide) (by omega) (fun h10 => ?_) (fun h10 => ?_)
  · refine r_aload_n C dX3_beatsLit_15 rfl rfl ?_
    refine r_iload_n C dX3_beatsLit_16 rfl rfl ?_
    refine r_cV C cwX3_152 (c_X3_isInDraught hb hs (by omega)) dX3_beatsLit_17 rfl (by omega) sput_0 rfl rfl rfl (Nat.le_of_ble_eq_true rfl) ⟨Nat.le_of_ble_eq_true rfl, Nat.le_of_ble_eq_true rfl⟩ ⟨Nat.le_of_ble_eq_true rfl, Nat.le_of_ble_eq_true rfl⟩ ?_
    refine r_ifb_eq (tgt := 27) C dX3_beatsLit_20 (by decide) (fun h20 => ?_) (fun h20 => ?_)
    · refine r_aload_n C dX3_beatsLit_27 rfl rfl ?_
      refine r_cV C cwX3_155 (lift0 (by omega) (c_X1_beatsUntrimmed (by omega) hql hqw)) dX3_beatsLit_28 rfl (by omega) (sput_r (by omega)) rfl rfl rfl (Nat.le_of_ble_eq_true rfl) ⟨Nat.le_of_ble_eq_true rfl, Nat.le_of_ble_eq_true rfl⟩ ⟨Nat.le_of_ble_eq_true rfl, Nat.le_of_ble_eq_true rfl⟩ ?_
      exact r_iretD C dX3_beatsLit_31 (by unfold blit; first | rw [if_pos (by omega)] | rw [if_neg (by omega), if_pos (by omega)] | rw [if_neg (by omega), if_neg (by omega)]) rfl
    · refine r_iconst C dX3_beatsLit_23 ?_
      refine r_goto (tgt := 31) C dX3_beatsLit_24 (by decide) ?_
      exact r_iretD C dX3_beatsLit_31 (by unfold blit; first | rw [if_pos (by omega)] | rw [if_neg (by omega), if_pos (by omega)] | rw [if_neg (by omega), if_neg (by omega)]) rfl
  · refine r_iconst C dX3_beatsLit_13 ?_
    exact r_iretD C dX3_beatsLit_14 (by unfold blit; first | rw [if_pos (by omega)] | rw [if_neg (by omega), if_pos (by omega)] | rw [if_neg (by omega), if_neg (by omega)]) rfl

set_option maxRecDepth 100000 in
set_option maxHeartbeats 4000000 in
theorem c_X3_beatsToForgetting {l : Launch} {D : va_G} {ty : Nat → ClassId} {ad : Int → Nat} {N : Int} {σ : Int → va_E} {b : Int} {s : Int → Int} (hb : 0 ≤ b ∧ b + 20 ≤ N) (hs : okS s) : gM0 l yX3_beatsToForgetting cX3_beatsToForgetting 4 (some .int) 5 108 [.ref (ad b)] D ty ad N (sput ad ty σ b s) (some (.int (gI (nextF s)))) (sput ad ty σ b s) := by
  refine gMet_of [some (.ref (ad b)), none, none, none] (by decide +kernel) rfl (Nat.le_of_ble_eq_true rfl) rfl ?_
  intro X hl hD hty C hini
  subst hl hD hty
  refine r_iconst C dX3_beatsToForgetting_0 ?_
  refine r_istore_n C dX3_beatsToForgetting_1 rfl (Nat.le_of_ble_eq_true rfl) rfl ?_
  dsimp only [List.set]
  refine r_iconst C dX3_beatsToForgetting_2 ?_
  refine r_istore_n C dX3_beatsToForgetting_3 rfl (Nat.le_of_ble_eq_true rfl) rfl ?_
  dsimp only [List.set]
  have lp : ∀ (n : Nat) (p x : Int), (0 ≤ p) → (p + n = 6) → (-1 ≤ x ∧ x ≤ 110) → (ntN s n p x = nextF s) → V X 0 0 (gQ X (gD (some (.int (gI (nextF s)))) ad N (sput ad (gty X) σ b s)) 0 0) 4 [some (.ref (ad b)), some (.int (gI x)), some (.int (gI p)), none] [] ad N (sput ad (gty X) σ b s) := by
    intro n
    induction n with
    | zero =>
      intro p x hp hpn hx e
      refine r_iload_n C dX3_beatsToForgetting_4 rfl rfl ?_
      refine r_bipush C dX3_beatsToForgetting_5 (by decide) ?_
      refine r_icmp_ge (tgt := 62) C dX3_beatsToForgetting_7 (by decide) (by omega) (by omega) (fun h7 => ?_) (fun h7 => ?_)
      · refine r_iload_n C dX3_beatsToForgetting_62 rfl rfl ?_
        exact r_iretD C dX3_beatsToForgetting_63 (by rw [← e]; rfl) rfl
      · exact absurd h7 (by omega)
    | succ n ih =>
      intro p x hp hpn hx e
      have hq := hs.rm (r := p) (by omega)
      have hqm := hq.many
      have hset := hs.set
      have hbl := blit_rng s p
      have hff := ffR_rng hq hbl hset
      refine r_iload_n C dX3_beatsToForgetting_4 rfl rfl ?_
      refine r_bipush C dX3_beatsToForgetting_5 (by decide) ?_
      refine r_icmp_ge (tgt := 62) C dX3_beatsToForgetting_7 (by decide) (by omega) (by omega) (fun h7 => ?_) (fun h7 => ?_)
      · exact absurd h7 (by omega)
      · refine r_aload_n C dX3_beatsToForgetting_10 rfl rfl ?_
        refine ss_get C flX3_11 dX3_beatsToForgetting_11 hb rfl ?_
        refine r_iload_n C dX3_beatsToForgetting_14 rfl rfl ?_
        refine ss_room C dX3_beatsToForgetting_15 hb (by omega) ?_
        refine sr_get C flX3_68 dX3_beatsToForgetting_16 hb (by omega) rfl ?_
        refine r_if_le (tgt := 56) C dX3_beatsToForgetting_19 (by decide) (by omega) (fun h19 => ?_) (fun h19 => ?_)
        · refine r_iinc C dX3_beatsToForgetting_56 rfl rfl ?_
          dsimp only [List.set]
          refine r_goto (tgt := 4) C dX3_beatsToForgetting_59 (by decide) ?_
          refine V_drop 3 ?_
          dsimp only [List.set]
          exact ih _ _ (by omega) (by omega) (by omega) (by rw [← e]; simp only [ntN]; first | rw [if_neg (by omega)] | rw [if_pos (by omega), if_pos (by omega)] | rw [if_pos (by omega), if_neg (by omega)])
        · refine r_aload_n C dX3_beatsToForgetting_22 rfl rfl ?_
          refine ss_get C flX3_11 dX3_beatsToForgetting_23 hb rfl ?_
          refine r_iload_n C dX3_beatsToForgetting_26 rfl rfl ?_
          refine ss_room C dX3_beatsToForgetting_27 hb (by omega) ?_
          refine r_aload_n C dX3_beatsToForgetting_28 rfl rfl ?_
          refine r_iload_n C dX3_beatsToForgetting_29 rfl rfl ?_
          refine r_cV C cwX3_158 (c_X3_beatsLit hb hs (by omega)) dX3_beatsToForgetting_30 rfl (by omega) sput_0 rfl rfl rfl (Nat.le_of_ble_eq_true rfl) ⟨Nat.le_of_ble_eq_true rfl, Nat.le_of_ble_eq_true rfl⟩ ⟨Nat.le_of_ble_eq_true rfl, Nat.le_of_ble_eq_true rfl⟩ ?_
          refine r_aload_n C dX3_beatsToForgetting_33 rfl rfl ?_
          refine ss_get C flX3_25 dX3_beatsToForgetting_34 hb rfl ?_
          refine r_cV C cwX3_161 (lift0 (by omega) (c_X1_beatsToFirstForgotten (by omega) hqm (by omega) (by omega) hq.darkI)) dX3_beatsToForgetting_37 rfl (by omega) (sput_r (by omega)) rfl rfl rfl (Nat.le_of_ble_eq_true rfl) ⟨Nat.le_of_ble_eq_true rfl, Nat.le_of_ble_eq_true rfl⟩ ⟨Nat.le_of_ble_eq_true rfl, Nat.le_of_ble_eq_true rfl⟩ ?_
          refine r_istore_n C dX3_beatsToForgetting_40 rfl (Nat.le_of_ble_eq_true rfl) rfl ?_
          dsimp only [List.set]
          refine r_iload_n C dX3_beatsToForgetting_41 rfl rfl ?_
          refine r_iconst C dX3_beatsToForgetting_42 ?_
          refine r_icmp_ne (tgt := 50) C dX3_beatsToForgetting_43 (by decide) (by omega) (by omega) (fun h43 => ?_) (fun h43 => ?_)
          · refine r_iload_n C dX3_beatsToForgetting_50 rfl rfl ?_
            refine r_iload_n C dX3_beatsToForgetting_51 rfl rfl ?_
            refine r_cS C cwX3_164 (c_J9_min_7cf53 (by omega) (by omega)) dX3_beatsToForgetting_52 rfl rfl rfl (Nat.le_of_ble_eq_true rfl) ⟨Nat.le_of_ble_eq_true rfl, Nat.le_of_ble_eq_true rfl⟩ ⟨Nat.le_of_ble_eq_true rfl, Nat.le_of_ble_eq_true rfl⟩ ?_
            refine r_istore_n C dX3_beatsToForgetting_55 rfl (Nat.le_of_ble_eq_true rfl) rfl ?_
            dsimp only [List.set]
            refine r_iinc C dX3_beatsToForgetting_56 rfl rfl ?_
            dsimp only [List.set]
            refine r_goto (tgt := 4) C dX3_beatsToForgetting_59 (by decide) ?_
            refine V_drop 3 ?_
            dsimp only [List.set]
            exact ih _ _ (by omega) (by omega) (by omega) (by rw [← e]; simp only [ntN]; first | rw [if_neg (by omega)] | rw [if_pos (by omega), if_pos (by omega)] | rw [if_pos (by omega), if_neg (by omega)])
          · refine r_iload_n C dX3_beatsToForgetting_46 rfl rfl ?_
            refine r_goto (tgt := 55) C dX3_beatsToForgetting_47 (by decide) ?_
            refine r_istore_n C dX3_beatsToForgetting_55 rfl (Nat.le_of_ble_eq_true rfl) rfl ?_
            dsimp only [List.set]
            refine r_iinc C dX3_beatsToForgetting_56 rfl rfl ?_
            dsimp only [List.set]
            refine r_goto (tgt := 4) C dX3_beatsToForgetting_59 (by decide) ?_
            refine V_drop 3 ?_
            dsimp only [List.set]
            exact ih _ _ (by omega) (by omega) (by omega) (by rw [← e]; simp only [ntN]; first | rw [if_neg (by omega)] | rw [if_pos (by omega), if_pos (by omega)] | rw [if_pos (by omega), if_neg (by omega)])
  exact lp 6 0 (-1) (by omega) (by omega) (by omega) rfl

set_option maxRecDepth 100000 in
set_option maxHeartbeats 4000000 in
theorem c_X3_candlesOnWay_up {l : Launch} {D : va_G} {ty : Nat → ClassId} {ad : Int → Nat} {N : Int} {σ : Int → va_E} {b : Int} {s : Int → Int} {q : Int} (hb : 0 ≤ b ∧ b + 20 ≤ N) (hs : okS s) (hq : 0 ≤ q ∧ q < 6) : gM0 l yX3_candlesOnWay cX3_candlesOnWay 6 (some .int) 3 65 [.ref (ad b), .int (gI q), .int (gI 1)] D ty ad N (sput ad ty σ b s) (some (.int (gI (onW s q 1 6 0)))) (sput ad ty σ b s) := by
  refine gMet_of [some (.ref (ad b)), some (.int (gI q)), some (.int (gI 1)), none, none, none] (by decide +kernel) rfl (Nat.le_of_ble_eq_true rfl) rfl ?_
  intro X hl hD hty C hini
  subst hl hD hty
  refine r_iconst C dX3_candlesOnWay_0 ?_
  refine r_istore_n C dX3_candlesOnWay_1 rfl (Nat.le_of_ble_eq_true rfl) rfl ?_
  dsimp only [List.set]
  have lp : ∀ (n : Nat) (l : Int), (0 ≤ l) → (l + n = 6) → (onW s q 1 n l = onW s q 1 6 0) → V X 0 0 (gQ X (gD (some (.int (gI (onW s q 1 6 0)))) ad N (sput ad (gty X) σ b s)) 0 0) 2 [some (.ref (ad b)), some (.int (gI q)), some (.int (gI 1)), some (.int (gI l)), none, none] [] ad N (sput ad (gty X) σ b s) := by
    intro n
    induction n with
    | zero =>
      intro l hp hpn e
      refine r_iload_n C dX3_candlesOnWay_2 rfl rfl ?_
      refine r_bipush C dX3_candlesOnWay_3 (by decide) ?_
      refine r_icmp_ge (tgt := 76) C dX3_candlesOnWay_5 (by decide) (by omega) (by omega) (fun h5 => ?_) (fun h5 => ?_)
      · refine r_iconst C dX3_candlesOnWay_76 ?_
        exact r_iretD C dX3_candlesOnWay_77 (by rw [← e]; rfl) rfl
      · exact absurd h5 (by omega)
    | succ n ih =>
      intro l hp hpn e
      have hh := hs.rm (r := (q + l * 1) % 6) (by omega)
      have hhb := hh.bur
      have hhl := hh.len
      refine r_iload_n C dX3_candlesOnWay_2 rfl rfl ?_
      refine r_bipush C dX3_candlesOnWay_3 (by decide) ?_
      refine r_icmp_ge (tgt := 76) C dX3_candlesOnWay_5 (by decide) (by omega) (by omega) (fun h5 => ?_) (fun h5 => ?_)
      · exact absurd h5 (by omega)
      · refine r_iload_n C dX3_candlesOnWay_8 rfl rfl ?_
        refine r_iload_n C dX3_candlesOnWay_9 rfl rfl ?_
        refine r_iload_n C dX3_candlesOnWay_10 rfl rfl ?_
        refine r_imul C dX3_candlesOnWay_11 ?_
        refine r_iadd C dX3_candlesOnWay_12 ?_
        refine r_bipush C dX3_candlesOnWay_13 (by decide) ?_
        refine r_cS C cwX3_50 (c_J9_floorMod_7cf53 (by omega) (by omega)) dX3_candlesOnWay_15 rfl rfl rfl (Nat.le_of_ble_eq_true rfl) ⟨Nat.le_of_ble_eq_true rfl, Nat.le_of_ble_eq_true rfl⟩ ⟨Nat.le_of_ble_eq_true rfl, Nat.le_of_ble_eq_true rfl⟩ ?_
        refine r_istore C dX3_candlesOnWay_18 (Nat.le_of_ble_eq_true rfl) rfl ?_
        dsimp only [List.set]
        refine r_aload_n C dX3_candlesOnWay_20 rfl rfl ?_
        refine r_iload C dX3_candlesOnWay_21 rfl ?_
        refine r_cV C cwX3_64 (c_X3_roomAt0 hb (by omega)) dX3_candlesOnWay_23 rfl (by omega) sput_0 rfl rfl rfl (Nat.le_of_ble_eq_true rfl) ⟨Nat.le_of_ble_eq_true rfl, Nat.le_of_ble_eq_true rfl⟩ ⟨Nat.le_of_ble_eq_true rfl, Nat.le_of_ble_eq_true rfl⟩ ?_
        refine sr_get C flX3_56 dX3_candlesOnWay_26 hb (by omega) rfl ?_
        refine r_if_eq (tgt := 34) C dX3_candlesOnWay_29 (by decide) (by omega) (fun h29 => ?_) (fun h29 => ?_)
        · refine r_iload C dX3_candlesOnWay_34 rfl ?_
          refine r_iload_n C dX3_candlesOnWay_36 rfl rfl ?_
          refine r_iadd C dX3_candlesOnWay_37 ?_
          refine r_bipush C dX3_candlesOnWay_38 (by decide) ?_
          refine r_cS C cwX3_50 (c_J9_floorMod_7cf53 (by omega) (by omega)) dX3_candlesOnWay_40 rfl rfl rfl (Nat.le_of_ble_eq_true rfl) ⟨Nat.le_of_ble_eq_true rfl, Nat.le_of_ble_eq_true rfl⟩ ⟨Nat.le_of_ble_eq_true rfl, Nat.le_of_ble_eq_true rfl⟩ ?_
          refine r_istore C dX3_candlesOnWay_43 (Nat.le_of_ble_eq_true rfl) rfl ?_
          dsimp only [List.set]
          refine r_aload_n C dX3_candlesOnWay_45 rfl rfl ?_
          refine r_iload C dX3_candlesOnWay_46 rfl ?_
          refine r_cV C cwX3_64 (c_X3_roomAt0 hb (by omega)) dX3_candlesOnWay_48 rfl (by omega) sput_0 rfl rfl rfl (Nat.le_of_ble_eq_true rfl) ⟨Nat.le_of_ble_eq_true rfl, Nat.le_of_ble_eq_true rfl⟩ ⟨Nat.le_of_ble_eq_true rfl, Nat.le_of_ble_eq_true rfl⟩ ?_
          refine sr_get C flX3_85 dX3_candlesOnWay_51 hb (by omega) rfl ?_
          refine r_if_eq (tgt := 68) C dX3_candlesOnWay_54 (by decide) (by omega) (fun h54 => ?_) (fun h54 => ?_)
          · refine r_iconst C dX3_candlesOnWay_68 ?_
            exact r_iretD C dX3_candlesOnWay_69 (by rw [← e]; simp only [onW]; rw [if_neg (by omega)]; first | rw [if_pos (Or.inl h54)] | rw [if_pos (Or.inr h65)]) rfl
          · refine r_aload_n C dX3_candlesOnWay_57 rfl rfl ?_
            refine r_iload C dX3_candlesOnWay_58 rfl ?_
            refine r_iload C dX3_candlesOnWay_60 rfl ?_
            refine r_cV C cwX3_88 (c_X3_areJoined hb hs (by omega) (by omega)) dX3_candlesOnWay_62 rfl (by omega) sput_0 rfl rfl rfl (Nat.le_of_ble_eq_true rfl) ⟨Nat.le_of_ble_eq_true rfl, Nat.le_of_ble_eq_true rfl⟩ ⟨Nat.le_of_ble_eq_true rfl, Nat.le_of_ble_eq_true rfl⟩ ?_
            refine r_ifb_ne (tgt := 70) C dX3_candlesOnWay_65 (by decide) (fun h65 => ?_) (fun h65 => ?_)
            · refine r_iinc C dX3_candlesOnWay_70 rfl rfl ?_
              dsimp only [List.set]
              refine r_goto (tgt := 2) C dX3_candlesOnWay_73 (by decide) ?_
              refine V_sub (L' := [some (.ref (ad b)), some (.int (gI q)), some (.int (gI 1)), some (.int (gI (l + 1))), none, none]) rfl (fun i v hv => by match i, hv with | 0, hv => exact hv | 1, hv => exact hv | 2, hv => exact hv | 3, hv => exact hv | 4, hv => simp at hv | 5, hv => simp at hv | i + 6, hv => simp at hv) ?_
              exact ih _ (by omega) (by omega) (by rw [← e]; simp only [onW]; rw [if_neg (by omega), if_neg (fun h => h.elim (fun h => h54 h) (fun h => h h65))])
            · refine r_iconst C dX3_candlesOnWay_68 ?_
              exact r_iretD C dX3_candlesOnWay_69 (by rw [← e]; simp only [onW]; rw [if_neg (by omega)]; first | rw [if_pos (Or.inl h54)] | rw [if_pos (Or.inr h65)]) rfl
        · refine r_iload_n C dX3_candlesOnWay_32 rfl rfl ?_
          exact r_iretD C dX3_candlesOnWay_33 (by rw [← e]; simp only [onW]; rw [if_pos (by omega)]) rfl
  exact lp 6 0 (by omega) (by omega) rfl

set_option maxRecDepth 100000 in
set_option maxHeartbeats 4000000 in
theorem c_X3_candlesOnWay_dn {l : Launch} {D : va_G} {ty : Nat → ClassId} {ad : Int → Nat} {N : Int} {σ : Int → va_E} {b : Int} {s : Int → Int} {q : Int} (hb : 0 ≤ b ∧ b + 20 ≤ N) (hs : okS s) (hq : 0 ≤ q ∧ q < 6) : gM0 l yX3_candlesOnWay cX3_candlesOnWay 6 (some .int) 3 65 [.ref (ad b), .int (gI q), .int (gI (-1))] D ty ad N (sput ad ty σ b s) (some (.int (gI (onW s q (-1) 6 0)))) (sput ad ty σ b s) := by
  refine gMet_of [some (.ref (ad b)), some (.int (gI q)), some (.int (gI (-1))), none, none, none] (by decide +kernel) rfl (Nat.le_of_ble_eq_true rfl) rfl ?_
  intro X hl hD hty C hini
  subst hl hD hty
  refine r_iconst C dX3_candlesOnWay_0 ?_
  refine r_istore_n C dX3_candlesOnWay_1 rfl (Nat.le_of_ble_eq_true rfl) rfl ?_
  dsimp only [List.set]
  have lp : ∀ (n : Nat) (l : Int), (0 ≤ l) → (l + n = 6) → (onW s q (-1) n l = onW s q (-1) 6 0) → V X 0 0 (gQ X (gD (some (.int (gI (onW s q (-1) 6 0)))) ad N (sput ad (gty X) σ b s)) 0 0) 2 [some (.ref (ad b)), some (.int (gI q)), some (.int (gI (-1))), some (.int (gI l)), none, none] [] ad N (sput ad (gty X) σ b s) := by
    intro n
    induction n with
    | zero =>
      intro l hp hpn e
      refine r_iload_n C dX3_candlesOnWay_2 rfl rfl ?_
      refine r_bipush C dX3_candlesOnWay_3 (by decide) ?_
      refine r_icmp_ge (tgt := 76) C dX3_candlesOnWay_5 (by decide) (by omega) (by omega) (fun h5 => ?_) (fun h5 => ?_)
      · refine r_iconst C dX3_candlesOnWay_76 ?_
        exact r_iretD C dX3_candlesOnWay_77 (by rw [← e]; rfl) rfl
      · exact absurd h5 (by omega)
    | succ n ih =>
      intro l hp hpn e
      have hh := hs.rm (r := (q + l * (-1)) % 6) (by omega)
      have hhb := hh.bur
      have hhl := hh.len
      refine r_iload_n C dX3_candlesOnWay_2 rfl rfl ?_
      refine r_bipush C dX3_candlesOnWay_3 (by decide) ?_
      refine r_icmp_ge (tgt := 76) C dX3_candlesOnWay_5 (by decide) (by omega) (by omega) (fun h5 => ?_) (fun h5 => ?_)
      · exact absurd h5 (by omega)
      · refine r_iload_n C dX3_candlesOnWay_8 rfl rfl ?_
        refine r_iload_n C dX3_candlesOnWay_9 rfl rfl ?_
        refine r_iload_n C dX3_candlesOnWay_10 rfl rfl ?_
        refine r_imul C dX3_candlesOnWay_11 ?_
        refine r_iadd C dX3_candlesOnWay_12 ?_
        refine r_bipush C dX3_candlesOnWay_13 (by decide) ?_
        refine r_cS C cwX3_50 (c_J9_floorMod_7cf53 (by omega) (by omega)) dX3_candlesOnWay_15 rfl rfl rfl (Nat.le_of_ble_eq_true rfl) ⟨Nat.le_of_ble_eq_true rfl, Nat.le_of_ble_eq_true rfl⟩ ⟨Nat.le_of_ble_eq_true rfl, Nat.le_of_ble_eq_true rfl⟩ ?_
        refine r_istore C dX3_candlesOnWay_18 (Nat.le_of_ble_eq_true rfl) rfl ?_
        dsimp only [List.set]
        refine r_aload_n C dX3_candlesOnWay_20 rfl rfl ?_
        refine r_iload C dX3_candlesOnWay_21 rfl ?_
        refine r_cV C cwX3_64 (c_X3_roomAt0 hb (by omega)) dX3_candlesOnWay_23 rfl (by omega) sput_0 rfl rfl rfl (Nat.le_of_ble_eq_true rfl) ⟨Nat.le_of_ble_eq_true rfl, Nat.le_of_ble_eq_true rfl⟩ ⟨Nat.le_of_ble_eq_true rfl, Nat.le_of_ble_eq_true rfl⟩ ?_
        refine sr_get C flX3_56 dX3_candlesOnWay_26 hb (by omega) rfl ?_
        refine r_if_eq (tgt := 34) C dX3_candlesOnWay_29 (by decide) (by omega) (fun h29 => ?_) (fun h29 => ?_)
        · refine r_iload C dX3_candlesOnWay_34 rfl ?_
          refine r_iload_n C dX3_candlesOnWay_36 rfl rfl ?_
          refine r_iadd C dX3_candlesOnWay_37 ?_
          refine r_bipush C dX3_candlesOnWay_38 (by decide) ?_
          refine r_cS C cwX3_50 (c_J9_floorMod_7cf53 (by omega) (by omega)) dX3_candlesOnWay_40 rfl rfl rfl (Nat.le_of_ble_eq_true rfl) ⟨Nat.le_of_ble_eq_true rfl, Nat.le_of_ble_eq_true rfl⟩ ⟨Nat.le_of_ble_eq_true rfl, Nat.le_of_ble_eq_true rfl⟩ ?_
          refine r_istore C dX3_candlesOnWay_43 (Nat.le_of_ble_eq_true rfl) rfl ?_
          dsimp only [List.set]
          refine r_aload_n C dX3_candlesOnWay_45 rfl rfl ?_
          refine r_iload C dX3_candlesOnWay_46 rfl ?_
          refine r_cV C cwX3_64 (c_X3_roomAt0 hb (by omega)) dX3_candlesOnWay_48 rfl (by omega) sput_0 rfl rfl rfl (Nat.le_of_ble_eq_true rfl) ⟨Nat.le_of_ble_eq_true rfl, Nat.le_of_ble_eq_true rfl⟩ ⟨Nat.le_of_ble_eq_true rfl, Nat.le_of_ble_eq_true rfl⟩ ?_
          refine sr_get C flX3_85 dX3_candlesOnWay_51 hb (by omega) rfl ?_
          refine r_if_eq (tgt := 68) C dX3_candlesOnWay_54 (by decide) (by omega) (fun h54 => ?_) (fun h54 => ?_)
          · refine r_iconst C dX3_candlesOnWay_68 ?_
            exact r_iretD C dX3_candlesOnWay_69 (by rw [← e]; simp only [onW]; rw [if_neg (by omega)]; first | rw [if_pos (Or.inl h54)] | rw [if_pos (Or.inr h65)]) rfl
          · refine r_aload_n C dX3_candlesOnWay_57 rfl rfl ?_
            refine r_iload C dX3_candlesOnWay_58 rfl ?_
            refine r_iload C dX3_candlesOnWay_60 rfl ?_
            refine r_cV C cwX3_88 (c_X3_areJoined hb hs (by omega) (by omega)) dX3_candlesOnWay_62 rfl (by omega) sput_0 rfl rfl rfl (Nat.le_of_ble_eq_true rfl) ⟨Nat.le_of_ble_eq_true rfl, Nat.le_of_ble_eq_true rfl⟩ ⟨Nat.le_of_ble_eq_true rfl, Nat.le_of_ble_eq_true rfl⟩ ?_
            refine r_ifb_ne (tgt := 70) C dX3_candlesOnWay_65 (by decide) (fun h65 => ?_) (fun h65 => ?_)
            · refine r_iinc C dX3_candlesOnWay_70 rfl rfl ?_
              dsimp only [List.set]
              refine r_goto (tgt := 2) C dX3_candlesOnWay_73 (by decide) ?_
              refine V_sub (L' := [some (.ref (ad b)), some (.int (gI q)), some (.int (gI (-1))), some (.int (gI (l + 1))), none, none]) rfl (fun i v hv => by match i, hv with | 0, hv => exact hv | 1, hv => exact hv | 2, hv => exact hv | 3, hv => exact hv | 4, hv => simp at hv | 5, hv => simp at hv | i + 6, hv => simp at hv) ?_
              exact ih _ (by omega) (by omega) (by rw [← e]; simp only [onW]; rw [if_neg (by omega), if_neg (fun h => h.elim (fun h => h54 h) (fun h => h h65))])
            · refine r_iconst C dX3_candlesOnWay_68 ?_
              exact r_iretD C dX3_candlesOnWay_69 (by rw [← e]; simp only [onW]; rw [if_neg (by omega)]; first | rw [if_pos (Or.inl h54)] | rw [if_pos (Or.inr h65)]) rfl
        · refine r_iload_n C dX3_candlesOnWay_32 rfl rfl ?_
          exact r_iretD C dX3_candlesOnWay_33 (by rw [← e]; simp only [onW]; rw [if_pos (by omega)]) rfl
  exact lp 6 0 (by omega) (by omega) rfl

set_option maxRecDepth 100000 in
set_option maxHeartbeats 4000000 in
theorem c_X3_candlesToLight {l : Launch} {D : va_G} {ty : Nat → ClassId} {ad : Int → Nat} {N : Int} {σ : Int → va_E} {b : Int} {s : Int → Int} {q : Int} (hb : 0 ≤ b ∧ b + 20 ≤ N) (hs : okS s) (hq : 0 ≤ q ∧ q < 6) : gM0 l yX3_candlesToLight cX3_candlesToLight 4 (some .int) 4 90 [.ref (ad b), .int (gI q)] D ty ad N (sput ad ty σ b s) (some (.int (gI (toL s q)))) (sput ad ty σ b s) := by
  refine gMet_of [some (.ref (ad b)), some (.int (gI q)), none, none] (by decide +kernel) rfl (Nat.le_of_ble_eq_true rfl) rfl ?_
  intro X hl hD hty C hini
  subst hl hD hty
  have hcb := cb_rng hs
  have hql := (hs.rm hq).len
  have h1 := onW_rng s q (-1) 6 0
  have h2 := onW_rng s q 1 6 0
  refine r_aload_n C dX3_candlesToLight_0 rfl rfl ?_
  refine r_cV C cwX3_81 (c_X3_candlesBurning hb hs) dX3_candlesToLight_1 rfl (by omega) sput_0 rfl rfl rfl (Nat.le_of_ble_eq_true rfl) ⟨Nat.le_of_ble_eq_true rfl, Nat.le_of_ble_eq_true rfl⟩ ⟨Nat.le_of_ble_eq_true rfl, Nat.le_of_ble_eq_true rfl⟩ ?_
  refine r_if_ne (tgt := 24) C dX3_candlesToLight_4 (by decide) (by omega) (fun h4 => ?_) (fun h4 => ?_)
  · refine r_aload_n C dX3_candlesToLight_24 rfl rfl ?_
    refine r_iload_n C dX3_candlesToLight_25 rfl rfl ?_
    refine r_iconst C dX3_candlesToLight_26 ?_
    refine r_cV C cwX3_167 (c_X3_candlesOnWay_dn hb hs hq) dX3_candlesToLight_27 rfl (by omega) sput_0 rfl rfl rfl (Nat.le_of_ble_eq_true rfl) ⟨Nat.le_of_ble_eq_true rfl, Nat.le_of_ble_eq_true rfl⟩ ⟨Nat.le_of_ble_eq_true rfl, Nat.le_of_ble_eq_true rfl⟩ ?_
    refine r_istore_n C dX3_candlesToLight_30 rfl (Nat.le_of_ble_eq_true rfl) rfl ?_
    dsimp only [List.set]
    refine r_aload_n C dX3_candlesToLight_31 rfl rfl ?_
    refine r_iload_n C dX3_candlesToLight_32 rfl rfl ?_
    refine r_iconst C dX3_candlesToLight_33 ?_
    refine r_cV C cwX3_167 (c_X3_candlesOnWay_up hb hs hq) dX3_candlesToLight_34 rfl (by omega) sput_0 rfl rfl rfl (Nat.le_of_ble_eq_true rfl) ⟨Nat.le_of_ble_eq_true rfl, Nat.le_of_ble_eq_true rfl⟩ ⟨Nat.le_of_ble_eq_true rfl, Nat.le_of_ble_eq_true rfl⟩ ?_
    refine r_istore_n C dX3_candlesToLight_37 rfl (Nat.le_of_ble_eq_true rfl) rfl ?_
    dsimp only [List.set]
    refine r_iload_n C dX3_candlesToLight_38 rfl rfl ?_
    refine r_iconst C dX3_candlesToLight_39 ?_
    refine r_icmp_ne (tgt := 45) C dX3_candlesToLight_40 (by decide) (by omega) (by omega) (fun h40 => ?_) (fun h40 => ?_)
    · refine r_iload_n C dX3_candlesToLight_45 rfl rfl ?_
      refine r_iconst C dX3_candlesToLight_46 ?_
      refine r_icmp_ne (tgt := 54) C dX3_candlesToLight_47 (by decide) (by omega) (by omega) (fun h47 => ?_) (fun h47 => ?_)
      · refine r_iload_n C dX3_candlesToLight_54 rfl rfl ?_
        refine r_iload_n C dX3_candlesToLight_55 rfl rfl ?_
        refine r_cS C cwX3_164 (c_J9_min_7cf53 (by omega) (by omega)) dX3_candlesToLight_56 rfl rfl rfl (Nat.le_of_ble_eq_true rfl) ⟨Nat.le_of_ble_eq_true rfl, Nat.le_of_ble_eq_true rfl⟩ ⟨Nat.le_of_ble_eq_true rfl, Nat.le_of_ble_eq_true rfl⟩ ?_
        exact r_iretD C dX3_candlesToLight_59 (by unfold toL; first | rw [if_pos (by omega), if_pos (by omega)] | rw [if_pos (by omega), if_neg (by omega)] | rw [if_neg (by omega), if_pos (by omega)] | rw [if_neg (by omega), if_neg (by omega), if_pos (by omega)] | rw [if_neg (by omega), if_neg (by omega), if_neg (by omega)]) rfl
      · refine r_iload_n C dX3_candlesToLight_50 rfl rfl ?_
        refine r_goto (tgt := 59) C dX3_candlesToLight_51 (by decide) ?_
        exact r_iretD C dX3_candlesToLight_59 (by unfold toL; first | rw [if_pos (by omega), if_pos (by omega)] | rw [if_pos (by omega), if_neg (by omega)] | rw [if_neg (by omega), if_pos (by omega)] | rw [if_neg (by omega), if_neg (by omega), if_pos (by omega)] | rw [if_neg (by omega), if_neg (by omega), if_neg (by omega)]) rfl
    · refine r_iload_n C dX3_candlesToLight_43 rfl rfl ?_
      exact r_iretD C dX3_candlesToLight_44 (by unfold toL; first | rw [if_pos (by omega), if_pos (by omega)] | rw [if_pos (by omega), if_neg (by omega)] | rw [if_neg (by omega), if_pos (by omega)] | rw [if_neg (by omega), if_neg (by omega), if_pos (by omega)] | rw [if_neg (by omega), if_neg (by omega), if_neg (by omega)]) rfl
  · refine r_aload_n C dX3_candlesToLight_7 rfl rfl ?_
    refine r_iload_n C dX3_candlesToLight_8 rfl rfl ?_
    refine r_cV C cwX3_64 (c_X3_roomAt0 hb (by omega)) dX3_candlesToLight_9 rfl (by omega) sput_0 rfl rfl rfl (Nat.le_of_ble_eq_true rfl) ⟨Nat.le_of_ble_eq_true rfl, Nat.le_of_ble_eq_true rfl⟩ ⟨Nat.le_of_ble_eq_true rfl, Nat.le_of_ble_eq_true rfl⟩ ?_
    refine sr_get C flX3_85 dX3_candlesToLight_12 hb (by omega) rfl ?_
    refine r_if_le (tgt := 22) C dX3_candlesToLight_15 (by decide) (by omega) (fun h15 => ?_) (fun h15 => ?_)
    · refine r_iconst C dX3_candlesToLight_22 ?_
      exact r_iretD C dX3_candlesToLight_23 (by unfold toL; first | rw [if_pos (by omega), if_pos (by omega)] | rw [if_pos (by omega), if_neg (by omega)] | rw [if_neg (by omega), if_pos (by omega)] | rw [if_neg (by omega), if_neg (by omega), if_pos (by omega)] | rw [if_neg (by omega), if_neg (by omega), if_neg (by omega)]) rfl
    · refine r_iconst C dX3_candlesToLight_18 ?_
      refine r_goto (tgt := 23) C dX3_candlesToLight_19 (by decide) ?_
      exact r_iretD C dX3_candlesToLight_23 (by unfold toL; first | rw [if_pos (by omega), if_pos (by omega)] | rw [if_pos (by omega), if_neg (by omega)] | rw [if_neg (by omega), if_pos (by omega)] | rw [if_neg (by omega), if_neg (by omega), if_pos (by omega)] | rw [if_neg (by omega), if_neg (by omega), if_neg (by omega)]) rfl

set_option maxRecDepth 100000 in
set_option maxHeartbeats 4000000 in
theorem c_X3_isNeedier {l : Launch} {D : va_G} {ty : Nat → ClassId} {ad : Int → Nat} {N : Int} {σ : Int → va_E} {b : Int} {s : Int → Int} {r o : Int} (hb : 0 ≤ b ∧ b + 20 ≤ N) (hs : okS s) (hr : 0 ≤ r ∧ r < 6) (ho : 0 ≤ o ∧ o < 6) : gM0 l yX3_isNeedier cX3_isNeedier 5 (some .boolean) 2 43 [.ref (ad b), .int (gI r), .int (gI o)] D ty ad N (sput ad ty σ b s) (some (.int (gI (gB (needr s r o))))) (sput ad ty σ b s) := by
  refine gMet_of [some (.ref (ad b)), some (.int (gI r)), some (.int (gI o)), none, none] (by decide +kernel) rfl (Nat.le_of_ble_eq_true rfl) rfl ?_
  intro X hl hD hty C hini
  subst hl hD hty
  have hq := hs.rm hr
  have hql := hq.len
  have hqm := hq.many
  have hp := hs.rm ho
  have hpl := hp.len
  have hpm := hp.many
  refine r_aload_n C dX3_isNeedier_0 rfl rfl ?_
  refine r_iload_n C dX3_isNeedier_1 rfl rfl ?_
  refine r_cV C cwX3_64 (c_X3_roomAt0 hb (by omega)) dX3_isNeedier_2 rfl (by omega) sput_0 rfl rfl rfl (Nat.le_of_ble_eq_true rfl) ⟨Nat.le_of_ble_eq_true rfl, Nat.le_of_ble_eq_true rfl⟩ ⟨Nat.le_of_ble_eq_true rfl, Nat.le_of_ble_eq_true rfl⟩ ?_
  refine r_astore_n C dX3_isNeedier_5 rfl (Nat.le_of_ble_eq_true rfl) rfl ?_
  dsimp only [List.set]
  refine r_aload_n C dX3_isNeedier_6 rfl rfl ?_
  refine r_iload_n C dX3_isNeedier_7 rfl rfl ?_
  refine r_cV C cwX3_64 (c_X3_roomAt0 hb (by omega)) dX3_isNeedier_8 rfl (by omega) sput_0 rfl rfl rfl (Nat.le_of_ble_eq_true rfl) ⟨Nat.le_of_ble_eq_true rfl, Nat.le_of_ble_eq_true rfl⟩ ⟨Nat.le_of_ble_eq_true rfl, Nat.le_of_ble_eq_true rfl⟩ ?_
  refine r_astore C dX3_isNeedier_11 (Nat.le_of_ble_eq_true rfl) rfl ?_
  dsimp only [List.set]
  refine r_aload_n C dX3_isNeedier_13 rfl rfl ?_
  refine sr_get C flX3_85 dX3_isNeedier_14 hb (by omega) rfl ?_
  refine r_aload C dX3_isNeedier_17 rfl ?_
  refine sr_get C flX3_85 dX3_isNeedier_19 hb (by omega) rfl ?_
  refine r_icmp_eq (tgt := 43) C dX3_isNeedier_22 (by decide) (by omega) (by omega) (fun h22 => ?_) (fun h22 => ?_)
  · refine r_aload_n C dX3_isNeedier_43 rfl rfl ?_
    refine sr_get C flX3_68 dX3_isNeedier_44 hb (by omega) rfl ?_
    refine r_aload C dX3_isNeedier_47 rfl ?_
    refine sr_get C flX3_68 dX3_isNeedier_49 hb (by omega) rfl ?_
    refine r_icmp_le (tgt := 59) C dX3_isNeedier_52 (by decide) (by omega) (by omega) (fun h52 => ?_) (fun h52 => ?_)
    · refine r_iconst C dX3_isNeedier_59 ?_
      exact r_zretD C dX3_isNeedier_60 (by omega) (by first | exact (gB_t (by unfold needr; omega)).symm | exact (gB_f (by unfold needr; omega)).symm) rfl
    · refine r_iconst C dX3_isNeedier_55 ?_
      refine r_goto (tgt := 60) C dX3_isNeedier_56 (by decide) ?_
      exact r_zretD C dX3_isNeedier_60 (by omega) (by first | exact (gB_t (by unfold needr; omega)).symm | exact (gB_f (by unfold needr; omega)).symm) rfl
  · refine r_aload_n C dX3_isNeedier_25 rfl rfl ?_
    refine sr_get C flX3_85 dX3_isNeedier_26 hb (by omega) rfl ?_
    refine r_aload C dX3_isNeedier_29 rfl ?_
    refine sr_get C flX3_85 dX3_isNeedier_31 hb (by omega) rfl ?_
    refine r_icmp_ge (tgt := 41) C dX3_isNeedier_34 (by decide) (by omega) (by omega) (fun h34 => ?_) (fun h34 => ?_)
    · refine r_iconst C dX3_isNeedier_41 ?_
      exact r_zretD C dX3_isNeedier_42 (by omega) (by first | exact (gB_t (by unfold needr; omega)).symm | exact (gB_f (by unfold needr; omega)).symm) rfl
    · refine r_iconst C dX3_isNeedier_37 ?_
      refine r_goto (tgt := 42) C dX3_isNeedier_38 (by decide) ?_
      exact r_zretD C dX3_isNeedier_42 (by omega) (by first | exact (gB_t (by unfold needr; omega)).symm | exact (gB_f (by unfold needr; omega)).symm) rfl

set_option maxRecDepth 100000 in
set_option maxHeartbeats 4000000 in
theorem c_X3_neediest {l : Launch} {D : va_G} {ty : Nat → ClassId} {ad : Int → Nat} {N : Int} {σ : Int → va_E} {b : Int} {s : Int → Int} (hb : 0 ≤ b ∧ b + 20 ≤ N) (hs : okS s) : gM0 l yX3_neediest cX3_neediest 3 (some .int) 3 67 [.ref (ad b)] D ty ad N (sput ad ty σ b s) (some (.int (gI (needS s)))) (sput ad ty σ b s) := by
  refine gMet_of [some (.ref (ad b)), none, none] (by decide +kernel) rfl (Nat.le_of_ble_eq_true rfl) rfl ?_
  intro X hl hD hty C hini
  subst hl hD hty
  refine r_iconst C dX3_neediest_0 ?_
  refine r_istore_n C dX3_neediest_1 rfl (Nat.le_of_ble_eq_true rfl) rfl ?_
  dsimp only [List.set]
  refine r_iconst C dX3_neediest_2 ?_
  refine r_istore_n C dX3_neediest_3 rfl (Nat.le_of_ble_eq_true rfl) rfl ?_
  dsimp only [List.set]
  have lp : ∀ (n : Nat) (p x : Int), (0 ≤ p) → (p + n = 6) → (-1 ≤ x ∧ x < 6) → (ndN s n p x = needS s) → V X 0 0 (gQ X (gD (some (.int (gI (needS s)))) ad N (sput ad (gty X) σ b s)) 0 0) 4 [some (.ref (ad b)), some (.int (gI x)), some (.int (gI p))] [] ad N (sput ad (gty X) σ b s) := by
    intro n
    induction n with
    | zero =>
      intro p x hp hpn hx e
      refine r_iload_n C dX3_neediest_4 rfl rfl ?_
      refine r_bipush C dX3_neediest_5 (by decide) ?_
      refine r_icmp_ge (tgt := 44) C dX3_neediest_7 (by decide) (by omega) (by omega) (fun h7 => ?_) (fun h7 => ?_)
      · refine r_iload_n C dX3_neediest_44 rfl rfl ?_
        exact r_iretD C dX3_neediest_45 (by rw [← e]; rfl) rfl
      · exact absurd h7 (by omega)
    | succ n ih =>
      intro p x hp hpn hx e
      have hqm := (hs.rm (r := p) (by omega)).many
      refine r_iload_n C dX3_neediest_4 rfl rfl ?_
      refine r_bipush C dX3_neediest_5 (by decide) ?_
      refine r_icmp_ge (tgt := 44) C dX3_neediest_7 (by decide) (by omega) (by omega) (fun h7 => ?_) (fun h7 => ?_)
      · exact absurd h7 (by omega)
      · refine r_aload_n C dX3_neediest_10 rfl rfl ?_
        refine ss_get C flX3_11 dX3_neediest_11 hb rfl ?_
        refine r_iload_n C dX3_neediest_14 rfl rfl ?_
        refine ss_room C dX3_neediest_15 hb (by omega) ?_
        refine sr_get C flX3_68 dX3_neediest_16 hb (by omega) rfl ?_
        refine r_if_le (tgt := 38) C dX3_neediest_19 (by decide) (by omega) (fun h19 => ?_) (fun h19 => ?_)
        · refine r_iinc C dX3_neediest_38 rfl rfl ?_
          dsimp only [List.set]
          refine r_goto (tgt := 4) C dX3_neediest_41 (by decide) ?_
          first
          | exact ih _ p (by omega) (by omega) (by omega) (by rw [← e]; simp only [ndN]; first | rw [if_pos ⟨by omega, Or.inl (by omega)⟩] | rw [if_pos ⟨by omega, Or.inr h33⟩])
          | exact ih _ x (by omega) (by omega) (by omega) (by rw [← e]; simp only [ndN]; first | rw [if_neg (fun h => absurd h.1 (by omega))] | rw [if_neg (fun h => h.2.elim (fun h => absurd h (by omega)) (fun h => h33 h))])
        · refine r_iload_n C dX3_neediest_22 rfl rfl ?_
          refine r_iconst C dX3_neediest_23 ?_
          refine r_icmp_eq (tgt := 36) C dX3_neediest_24 (by decide) (by omega) (by omega) (fun h24 => ?_) (fun h24 => ?_)
          · refine r_iload_n C dX3_neediest_36 rfl rfl ?_
            refine r_istore_n C dX3_neediest_37 rfl (Nat.le_of_ble_eq_true rfl) rfl ?_
            dsimp only [List.set]
            refine r_iinc C dX3_neediest_38 rfl rfl ?_
            dsimp only [List.set]
            refine r_goto (tgt := 4) C dX3_neediest_41 (by decide) ?_
            first
            | exact ih _ p (by omega) (by omega) (by omega) (by rw [← e]; simp only [ndN]; first | rw [if_pos ⟨by omega, Or.inl (by omega)⟩] | rw [if_pos ⟨by omega, Or.inr h33⟩])
            | exact ih _ x (by omega) (by omega) (by omega) (by rw [← e]; simp only [ndN]; first | rw [if_neg (fun h => absurd h.1 (by omega))] | rw [if_neg (fun h => h.2.elim (fun h => absurd h (by omega)) (fun h => h33 h))])
          · refine r_aload_n C dX3_neediest_27 rfl rfl ?_
            refine r_iload_n C dX3_neediest_28 rfl rfl ?_
            refine r_iload_n C dX3_neediest_29 rfl rfl ?_
            refine r_cV C cwX3_170 (c_X3_isNeedier hb hs (by omega) (by omega)) dX3_neediest_30 rfl (by omega) sput_0 rfl rfl rfl (Nat.le_of_ble_eq_true rfl) ⟨Nat.le_of_ble_eq_true rfl, Nat.le_of_ble_eq_true rfl⟩ ⟨Nat.le_of_ble_eq_true rfl, Nat.le_of_ble_eq_true rfl⟩ ?_
            refine r_ifb_eq (tgt := 38) C dX3_neediest_33 (by decide) (fun h33 => ?_) (fun h33 => ?_)
            · refine r_iinc C dX3_neediest_38 rfl rfl ?_
              dsimp only [List.set]
              refine r_goto (tgt := 4) C dX3_neediest_41 (by decide) ?_
              first
              | exact ih _ p (by omega) (by omega) (by omega) (by rw [← e]; simp only [ndN]; first | rw [if_pos ⟨by omega, Or.inl (by omega)⟩] | rw [if_pos ⟨by omega, Or.inr h33⟩])
              | exact ih _ x (by omega) (by omega) (by omega) (by rw [← e]; simp only [ndN]; first | rw [if_neg (fun h => absurd h.1 (by omega))] | rw [if_neg (fun h => h.2.elim (fun h => absurd h (by omega)) (fun h => h33 h))])
            · refine r_iload_n C dX3_neediest_36 rfl rfl ?_
              refine r_istore_n C dX3_neediest_37 rfl (Nat.le_of_ble_eq_true rfl) rfl ?_
              dsimp only [List.set]
              refine r_iinc C dX3_neediest_38 rfl rfl ?_
              dsimp only [List.set]
              refine r_goto (tgt := 4) C dX3_neediest_41 (by decide) ?_
              first
              | exact ih _ p (by omega) (by omega) (by omega) (by rw [← e]; simp only [ndN]; first | rw [if_pos ⟨by omega, Or.inl (by omega)⟩] | rw [if_pos ⟨by omega, Or.inr h33⟩])
              | exact ih _ x (by omega) (by omega) (by omega) (by rw [← e]; simp only [ndN]; first | rw [if_neg (fun h => absurd h.1 (by omega))] | rw [if_neg (fun h => h.2.elim (fun h => absurd h (by omega)) (fun h => h33 h))])
  exact lp 6 0 (-1) (by omega) (by omega) (by omega) rfl

set_option maxRecDepth 100000 in
set_option maxHeartbeats 4000000 in
theorem c_X3_shareInLight {l : Launch} {D : va_G} {ty : Nat → ClassId} {ad : Int → Nat} {N : Int} {σ : Int → va_E} {b : Int} {s : Int → Int} (hb : 0 ≤ b ∧ b + 20 ≤ N) (hs : okS s) : gM0 l yX3_shareInLight cX3_shareInLight 4 (some .double) 1 22 [.ref (ad b)] D ty ad N (sput ad ty σ b s) (some (.double (share s))) (sput ad ty σ b s) := by
  refine gMet_of [some (.ref (ad b)), none, none, none] (by decide +kernel) rfl (Nat.le_of_ble_eq_true rfl) rfl ?_
  intro X hl hD hty C hini
  subst hl hD hty
  have htg := thg_rng hs
  have hil := inl_rng hs
  refine r_aload_n C dX3_shareInLight_0 rfl rfl ?_
  refine r_cV C cwX3_173 (c_X3_thingsInAll hb hs) dX3_shareInLight_1 rfl (by omega) sput_0 rfl rfl rfl (Nat.le_of_ble_eq_true rfl) ⟨Nat.le_of_ble_eq_true rfl, Nat.le_of_ble_eq_true rfl⟩ ⟨Nat.le_of_ble_eq_true rfl, Nat.le_of_ble_eq_true rfl⟩ ?_
  refine r_istore_n C dX3_shareInLight_4 rfl (Nat.le_of_ble_eq_true rfl) rfl ?_
  dsimp only [List.set]
  refine r_iload_n C dX3_shareInLight_5 rfl rfl ?_
  refine r_if_ne (tgt := 11) C dX3_shareInLight_6 (by decide) (by omega) (fun h6 => ?_) (fun h6 => ?_)
  · refine r_iconst C dX3_shareInLight_11 ?_
    refine r_istore_n C dX3_shareInLight_12 rfl (Nat.le_of_ble_eq_true rfl) rfl ?_
    dsimp only [List.set]
    refine r_iconst C dX3_shareInLight_13 ?_
    refine r_istore_n C dX3_shareInLight_14 rfl (Nat.le_of_ble_eq_true rfl) rfl ?_
    dsimp only [List.set]
    have lp : ∀ (n : Nat) (p a : Int), (0 ≤ p) → (p + n = 6) → (a + sumF (fun r => if rm s r 1 = 1 then rm s r 6 else 0) n p = inl s) → V X 0 0 (gQ X (gD (some (.double (share s))) ad N (sput ad (gty X) σ b s)) 0 0) 15 [some (.ref (ad b)), some (.int (gI (thg s))), some (.int (gI a)), some (.int (gI p))] [] ad N (sput ad (gty X) σ b s) := by
      intro n
      induction n with
      | zero =>
        intro p a hp hpn e
        have ha : a = inl s := by rw [← e]; simp only [sumF]; omega
        subst ha
        refine r_iload_n C dX3_shareInLight_15 rfl rfl ?_
        refine r_bipush C dX3_shareInLight_16 (by decide) ?_
        refine r_icmp_ge (tgt := 55) C dX3_shareInLight_18 (by decide) (by omega) (by omega) (fun h18 => ?_) (fun h18 => ?_)
        · refine r_iload_n C dX3_shareInLight_55 rfl rfl ?_
          refine r_i2d C dX3_shareInLight_56 ?_
          refine r_iload_n C dX3_shareInLight_57 rfl rfl ?_
          refine r_i2d C dX3_shareInLight_58 ?_
          refine r_ddiv C dX3_shareInLight_59 (shD_n (by omega) (by omega)) ?_
          exact r_dretD C dX3_shareInLight_60 (by unfold share; rw [if_neg (by omega)]; rfl) rfl
        · exact absurd h18 (by omega)
      | succ n ih =>
        intro p a hp hpn e
        have hqb := (hs.rm (r := p) (by omega)).bur
        refine r_iload_n C dX3_shareInLight_15 rfl rfl ?_
        refine r_bipush C dX3_shareInLight_16 (by decide) ?_
        refine r_icmp_ge (tgt := 55) C dX3_shareInLight_18 (by decide) (by omega) (by omega) (fun h18 => ?_) (fun h18 => ?_)
        · exact absurd h18 (by omega)
        · refine r_iload_n C dX3_shareInLight_21 rfl rfl ?_
          refine r_aload_n C dX3_shareInLight_22 rfl rfl ?_
          refine ss_get C flX3_11 dX3_shareInLight_23 hb rfl ?_
          refine r_iload_n C dX3_shareInLight_26 rfl rfl ?_
          refine ss_room C dX3_shareInLight_27 hb (by omega) ?_
          refine sr_get C flX3_56 dX3_shareInLight_28 hb (by omega) rfl ?_
          refine r_if_eq (tgt := 46) C dX3_shareInLight_31 (by decide) (by omega) (fun h31 => ?_) (fun h31 => ?_)
          · refine r_iconst C dX3_shareInLight_46 ?_
            refine r_iadd C dX3_shareInLight_47 ?_
            refine r_istore_n C dX3_shareInLight_48 rfl (Nat.le_of_ble_eq_true rfl) rfl ?_
            dsimp only [List.set]
            refine r_iinc C dX3_shareInLight_49 rfl rfl ?_
            dsimp only [List.set]
            refine r_goto (tgt := 15) C dX3_shareInLight_52 (by decide) ?_
            exact ih _ _ (by omega) (by omega) (by rw [← e]; simp only [sumF]; first | (rw [if_neg (by omega)]; omega) | (rw [if_pos (by omega)]; omega))
          · refine r_aload_n C dX3_shareInLight_34 rfl rfl ?_
            refine ss_get C flX3_11 dX3_shareInLight_35 hb rfl ?_
            refine r_iload_n C dX3_shareInLight_38 rfl rfl ?_
            refine ss_room C dX3_shareInLight_39 hb (by omega) ?_
            refine sr_get C flX3_68 dX3_shareInLight_40 hb (by omega) rfl ?_
            refine r_goto (tgt := 47) C dX3_shareInLight_43 (by decide) ?_
            refine r_iadd C dX3_shareInLight_47 ?_
            refine r_istore_n C dX3_shareInLight_48 rfl (Nat.le_of_ble_eq_true rfl) rfl ?_
            dsimp only [List.set]
            refine r_iinc C dX3_shareInLight_49 rfl rfl ?_
            dsimp only [List.set]
            refine r_goto (tgt := 15) C dX3_shareInLight_52 (by decide) ?_
            exact ih _ _ (by omega) (by omega) (by rw [← e]; simp only [sumF]; first | (rw [if_neg (by omega)]; omega) | (rw [if_pos (by omega)]; omega))
    exact lp 6 0 0 (by omega) (by omega) (by unfold inl; omega)
  · refine r_dconst_1 C dX3_shareInLight_9 ?_
    exact r_dretD C dX3_shareInLight_10 (by unfold share; rw [if_pos (by omega)]) rfl
end
section
/-! copies: a room, a store -/

section COPY
variable {ad : Int → Nat} {ty : Nat → ClassId} {σ : Int → va_E} {k b : Int} {ρ ρ2 s : Int → Int}
theorem rput_c1 : up (rput ad ty σ k ρ) (k + 1) (gAr (ty 0) 4 (gcpy (fun i => ρ2 (7 + i)) (fun i => ρ (7 + i)) 0 0 4)) = rput ad ty σ k (fun j => if 7 ≤ j ∧ j < 11 then ρ2 j else ρ j) := by
  funext q
  by_cases h1 : q = k + 1
  · subst h1
    rw [up_s, rput_1]
    refine gAr_ext fun j h1 h2 => ?_
    unfold gcpy
    rw [if_pos (by omega)]
    show _ = if 7 ≤ 7 + j ∧ 7 + j < 11 then ρ2 (7 + j) else ρ (7 + j)
    rw [if_pos (by omega)]
    congr 1; omega
  · rw [up_n h1]
    unfold rput
    rw [if_neg h1, if_neg h1]
    split
    · unfold rF; simp
    · split
      · refine gAr_ext fun j h1 h2 => ?_
        show _ = if 7 ≤ 11 + j ∧ 11 + j < 11 then ρ2 (11 + j) else ρ (11 + j)
        rw [if_neg (by omega)]
      · rfl
theorem rput_c2 : up (rput ad ty σ k ρ) (k + 2) (gAr (ty 0) 4 (gcpy (fun i => ρ2 (11 + i)) (fun i => ρ (11 + i)) 0 0 4)) = rput ad ty σ k (fun j => if 11 ≤ j ∧ j < 15 then ρ2 j else ρ j) := by
  funext q
  by_cases h1 : q = k + 2
  · subst h1
    rw [up_s, rput_2]
    refine gAr_ext fun j h1 h2 => ?_
    unfold gcpy
    rw [if_pos (by omega)]
    show _ = if 11 ≤ 11 + j ∧ 11 + j < 15 then ρ2 (11 + j) else ρ (11 + j)
    rw [if_pos (by omega)]
    congr 1; omega
  · rw [up_n h1]
    unfold rput
    rw [if_neg h1, if_neg h1]
    split
    · unfold rF; simp
    · split
      · refine gAr_ext fun j h1 h2 => ?_
        show _ = if 11 ≤ 7 + j ∧ 7 + j < 15 then ρ2 (7 + j) else ρ (7 + j)
        rw [if_neg (by omega)]
      · rfl
end COPY

set_option maxRecDepth 100000 in
set_option maxHeartbeats 4000000 in
theorem c_X1_copyRoom {l : Launch} {D : va_G} {ty : Nat → ClassId} {ad : Int → Nat} {N : Int} {σ : Int → va_E} {k k2 : Int} {ρ ρ2 : Int → Int} (hk : 0 ≤ k ∧ k + 3 ≤ N) (hk2 : 0 ≤ k2 ∧ k2 + 3 ≤ N) (hkk : k + 2 < k2 ∨ k2 + 2 < k) (g0 : σ k2 = .inr (1, rF ad k2 ρ2)) (g1 : σ (k2 + 1) = gAr (ty 0) 4 (fun i => ρ2 (7 + i))) (g2 : σ (k2 + 2) = gAr (ty 0) 4 (fun i => ρ2 (11 + i))) (z1 : ρ2 1 = 0 ∨ ρ2 1 = 1) (z3 : ρ2 3 = 0 ∨ ρ2 3 = 1) (z5 : ρ2 5 = 0 ∨ ρ2 5 = 1) : gM0 l yX1_copyRoom cX1_copyRoom 2 none 1 40 [.ref (ad k), .ref (ad k2)] D ty ad N (rput ad ty σ k ρ) (none) (rput ad ty σ k ρ2) := by
  refine gMet_of [some (.ref (ad k)), some (.ref (ad k2))] (by decide +kernel) rfl (Nat.le_of_ble_eq_true rfl) rfl ?_
  intro X hl hD hty C hini
  subst hl hD hty
  refine r_aload_n C dX1_copyRoom_0 rfl rfl ?_
  refine r_get C flX1_9 dX1_copyRoom_1 (by omega) (by rw [rput_x (by omega)]; exact g0) rfl ?_
  refine r_iconst C dX1_copyRoom_4 ?_
  refine r_aload_n C dX1_copyRoom_5 rfl rfl ?_
  refine rr_get C flX1_9 dX1_copyRoom_6 hk rfl ?_
  refine r_iconst C dX1_copyRoom_9 ?_
  refine r_iconst C dX1_copyRoom_10 ?_
  refine r_copy C kaX1_26 dX1_copyRoom_11 (by omega) (by omega) (by rw [rput_x (by omega)]; exact g1) rput_1 (by decide) (by decide) (by decide) (by decide) (by decide) (by decide) rfl (by decide) (by decide) ?_
  rw [rput_c1]
  refine r_aload_n C dX1_copyRoom_14 rfl rfl ?_
  refine r_get C flX1_15 dX1_copyRoom_15 (by omega) (by rw [rput_x (by omega)]; exact g0) rfl ?_
  refine r_iconst C dX1_copyRoom_18 ?_
  refine r_aload_n C dX1_copyRoom_19 rfl rfl ?_
  refine rr_get C flX1_15 dX1_copyRoom_20 hk rfl ?_
  refine r_iconst C dX1_copyRoom_23 ?_
  refine r_iconst C dX1_copyRoom_24 ?_
  refine r_copy C kaX1_26 dX1_copyRoom_25 (by omega) (by omega) (by rw [rput_x (by omega)]; exact g2) rput_2 (by decide) (by decide) (by decide) (by decide) (by decide) (by decide) rfl (by decide) (by decide) ?_
  rw [rput_c2]
  refine r_aload_n C dX1_copyRoom_28 rfl rfl ?_
  refine r_aload_n C dX1_copyRoom_29 rfl rfl ?_
  refine r_get C flX1_32 dX1_copyRoom_30 (by omega) (by rw [rput_x (by omega)]; exact g0) rfl ?_
  refine rr_put (j := 6) C flX1_32 dX1_copyRoom_33 hk (by decide) rfl rfl rfl rfl ?_
  refine r_aload_n C dX1_copyRoom_36 rfl rfl ?_
  refine r_aload_n C dX1_copyRoom_37 rfl rfl ?_
  refine r_get C flX1_18 dX1_copyRoom_38 (by omega) (by rw [rput_x (by omega)]; exact g0) rfl ?_
  refine rr_put (j := 0) C flX1_18 dX1_copyRoom_41 hk (by decide) rfl rfl rfl rfl ?_
  refine r_aload_n C dX1_copyRoom_44 rfl rfl ?_
  refine r_aload_n C dX1_copyRoom_45 rfl rfl ?_
  refine r_get C flX1_35 dX1_copyRoom_46 (by omega) (by rw [rput_x (by omega)]; exact g0) rfl ?_
  refine rr_put (j := 1) C flX1_35 dX1_copyRoom_49 hk (by decide) rfl rfl (gI_z z1) (gI_f z1) ?_
  refine r_aload_n C dX1_copyRoom_52 rfl rfl ?_
  refine r_aload_n C dX1_copyRoom_53 rfl rfl ?_
  refine r_get C flX1_38 dX1_copyRoom_54 (by omega) (by rw [rput_x (by omega)]; exact g0) rfl ?_
  refine rr_put (j := 2) C flX1_38 dX1_copyRoom_57 hk (by decide) rfl rfl rfl rfl ?_
  refine r_aload_n C dX1_copyRoom_60 rfl rfl ?_
  refine r_aload_n C dX1_copyRoom_61 rfl rfl ?_
  refine r_get C flX1_41 dX1_copyRoom_62 (by omega) (by rw [rput_x (by omega)]; exact g0) rfl ?_
  refine rr_put (j := 3) C flX1_41 dX1_copyRoom_65 hk (by decide) rfl rfl (gI_z z3) (gI_f z3) ?_
  refine r_aload_n C dX1_copyRoom_68 rfl rfl ?_
  refine r_aload_n C dX1_copyRoom_69 rfl rfl ?_
  refine r_get C flX1_22 dX1_copyRoom_70 (by omega) (by rw [rput_x (by omega)]; exact g0) rfl ?_
  refine rr_put (j := 5) C flX1_22 dX1_copyRoom_73 hk (by decide) rfl rfl (gI_z z5) (gI_f z5) ?_
  refine r_aload_n C dX1_copyRoom_76 rfl rfl ?_
  refine r_aload_n C dX1_copyRoom_77 rfl rfl ?_
  refine r_get C flX1_44 dX1_copyRoom_78 (by omega) (by rw [rput_x (by omega)]; exact g0) rfl ?_
  refine rr_put (j := 4) C flX1_44 dX1_copyRoom_81 hk (by decide) rfl rfl rfl rfl ?_
  exact r_vretD C dX1_copyRoom_84 (rput_ext (fun j h1 h2 => by rcases (show j = 0 ∨ j = 1 ∨ j = 2 ∨ j = 3 ∨ j = 4 ∨ j = 5 ∨ j = 6 ∨ j = 7 ∨ j = 8 ∨ j = 9 ∨ j = 10 ∨ j = 11 ∨ j = 12 ∨ j = 13 ∨ j = 14 by omega) with rfl | rfl | rfl | rfl | rfl | rfl | rfl | rfl | rfl | rfl | rfl | rfl | rfl | rfl | rfl <;> simp [up_ap]))

set_option maxRecDepth 100000 in
set_option maxHeartbeats 4000000 in
theorem c_X3_copyFrom {l : Launch} {D : va_G} {ty : Nat → ClassId} {ad : Int → Nat} {N : Int} {σ : Int → va_E} {b b2 : Int} {s s2 : Int → Int} (hb : 0 ≤ b ∧ b + 20 ≤ N) (hb2 : 0 ≤ b2 ∧ b2 + 20 ≤ N) (hbb : b + 20 ≤ b2 ∨ b2 + 20 ≤ b) (hσ : sput ad ty σ b2 s2 = σ) (hs : okS s2) : gM0 l yX3_copyFrom cX3_copyFrom 3 none 2 61 [.ref (ad b), .ref (ad b2)] D ty ad N (sput ad ty σ b s) (none) (sput ad ty σ b s2) := by
  refine gMet_of [some (.ref (ad b)), some (.ref (ad b2)), none] (by decide +kernel) rfl (Nat.le_of_ble_eq_true rfl) rfl ?_
  intro X hl hD hty C hini
  subst hl hD hty
  refine r_iconst C dX3_copyFrom_0 ?_
  refine r_istore_n C dX3_copyFrom_1 rfl (Nat.le_of_ble_eq_true rfl) rfl ?_
  dsimp only [List.set]
  have lp : ∀ (n : Nat) (p : Int), (0 ≤ p) → (p + n = 6) → V X 0 0 (gQ X (gD (none) ad N (sput ad (gty X) σ b s2)) 0 0) 2 [some (.ref (ad b)), some (.ref (ad b2)), some (.int (gI p))] [] ad N (sput ad (gty X) σ b (mapR (fun r _ => rm s2 r) s p)) := by
    intro n
    induction n with
    | zero =>
      intro p hp hpn
      have hpp : p = 6 := by omega
      subst hpp
      refine r_iload_n C dX3_copyFrom_2 rfl rfl ?_
      refine r_bipush C dX3_copyFrom_3 (by decide) ?_
      refine r_icmp_ge (tgt := 29) C dX3_copyFrom_5 (by decide) (by omega) (by omega) (fun h5 => ?_) (fun h5 => ?_)
      · refine r_aload_n C dX3_copyFrom_29 rfl rfl ?_
        refine r_aload_n C dX3_copyFrom_30 rfl rfl ?_
        refine r_get C flX3_32 dX3_copyFrom_31 (by omega) (by rw [sput_x (by omega), ← hσ]; exact sput_0) rfl ?_
        refine ss_put (j := 2) C flX3_32 dX3_copyFrom_34 hb (by decide) rfl rfl rfl rfl ?_
        refine r_aload_n C dX3_copyFrom_37 rfl rfl ?_
        refine r_aload_n C dX3_copyFrom_38 rfl rfl ?_
        refine r_get C flX3_18 dX3_copyFrom_39 (by omega) (by rw [sput_x (by omega), ← hσ]; exact sput_0) rfl ?_
        refine ss_put (j := 1) C flX3_18 dX3_copyFrom_42 hb (by decide) rfl rfl rfl rfl ?_
        refine r_aload_n C dX3_copyFrom_45 rfl rfl ?_
        refine r_aload_n C dX3_copyFrom_46 rfl rfl ?_
        refine r_get C flX3_35 dX3_copyFrom_47 (by omega) (by rw [sput_x (by omega), ← hσ]; exact sput_0) rfl ?_
        refine ss_put (j := 3) C flX3_35 dX3_copyFrom_50 hb (by decide) rfl rfl rfl rfl ?_
        refine r_aload_n C dX3_copyFrom_53 rfl rfl ?_
        refine r_aload_n C dX3_copyFrom_54 rfl rfl ?_
        refine r_get C flX3_38 dX3_copyFrom_55 (by omega) (by rw [sput_x (by omega), ← hσ]; exact sput_0) rfl ?_
        refine ss_put (j := 4) C flX3_38 dX3_copyFrom_58 hb (by decide) rfl rfl rfl rfl ?_
        refine r_aload_n C dX3_copyFrom_61 rfl rfl ?_
        refine r_aload_n C dX3_copyFrom_62 rfl rfl ?_
        refine r_get C flX3_41 dX3_copyFrom_63 (by omega) (by rw [sput_x (by omega), ← hσ]; exact sput_0) rfl ?_
        refine ss_put (j := 5) C flX3_41 dX3_copyFrom_66 hb (by decide) rfl rfl rfl rfl ?_
        refine r_aload_n C dX3_copyFrom_69 rfl rfl ?_
        refine r_aload_n C dX3_copyFrom_70 rfl rfl ?_
        refine r_get C flX3_44 dX3_copyFrom_71 (by omega) (by rw [sput_x (by omega), ← hσ]; exact sput_0) rfl ?_
        refine ss_put (j := 6) C flX3_44 dX3_copyFrom_74 hb (by decide) rfl rfl rfl rfl ?_
        refine r_aload_n C dX3_copyFrom_77 rfl rfl ?_
        refine r_aload_n C dX3_copyFrom_78 rfl rfl ?_
        refine r_get C flX3_22 dX3_copyFrom_79 (by omega) (by rw [sput_x (by omega), ← hσ]; exact sput_0) rfl ?_
        refine ss_put (j := 7) C flX3_22 dX3_copyFrom_82 hb (by decide) rfl rfl rfl rfl ?_
        refine r_aload_n C dX3_copyFrom_85 rfl rfl ?_
        refine r_aload_n C dX3_copyFrom_86 rfl rfl ?_
        refine r_get C flX3_47 dX3_copyFrom_87 (by omega) (by rw [sput_x (by omega), ← hσ]; exact sput_0) rfl ?_
        refine ss_put (j := 8) C flX3_47 dX3_copyFrom_90 hb (by decide) rfl rfl rfl rfl ?_
        refine r_aload_n C dX3_copyFrom_93 rfl rfl ?_
        refine r_aload_n C dX3_copyFrom_94 rfl rfl ?_
        refine r_get C flX3_25 dX3_copyFrom_95 (by omega) (by rw [sput_x (by omega), ← hσ]; exact sput_0) rfl ?_
        refine ss_put (j := 0) C flX3_25 dX3_copyFrom_98 hb (by decide) rfl rfl rfl rfl ?_
        exact r_vretD C dX3_copyFrom_101 (sput_ext (fun j h1 h2 => by
          rcases Int.lt_or_le j 9 with h9 | h9
          · rcases (show j = 0 ∨ j = 1 ∨ j = 2 ∨ j = 3 ∨ j = 4 ∨ j = 5 ∨ j = 6 ∨ j = 7 ∨ j = 8 by omega) with rfl | rfl | rfl | rfl | rfl | rfl | rfl | rfl | rfl <;> simp [up_ap]
          · repeat rw [up_n (by omega)]
            unfold mapR
            rw [if_pos (by omega)]
            show rm s2 ((j - 9) / 15) ((j - 9) % 15) = s2 j
            rw [rm_at _ _ (by omega)]
            congr 1
            omega))
      · exact absurd h5 (by omega)
    | succ n ih =>
      intro p hp hpn
      have hq := hs.rm (r := p) (by omega)
      refine r_iload_n C dX3_copyFrom_2 rfl rfl ?_
      refine r_bipush C dX3_copyFrom_3 (by decide) ?_
      refine r_icmp_ge (tgt := 29) C dX3_copyFrom_5 (by decide) (by omega) (by omega) (fun h5 => ?_) (fun h5 => ?_)
      · exact absurd h5 (by omega)
      · refine r_aload_n C dX3_copyFrom_8 rfl rfl ?_
        refine ss_get C flX3_11 dX3_copyFrom_9 hb rfl ?_
        refine r_iload_n C dX3_copyFrom_12 rfl rfl ?_
        refine ss_room C dX3_copyFrom_13 hb (by omega) ?_
        refine r_aload_n C dX3_copyFrom_14 rfl rfl ?_
        refine r_get C flX3_11 dX3_copyFrom_15 (by omega) (by rw [sput_x (by omega), ← hσ]; exact sput_0) rfl ?_
        refine r_iload_n C dX3_copyFrom_18 rfl rfl ?_
        refine r_aald (t := 3) C dX3_copyFrom_19 (by omega) (by rw [sput_x (by omega), ← hσ]; exact sput_1) rfl (i := p) (by omega) (by decide) (by unfold rmA; rw [if_pos (by omega), Int.toNat_of_nonneg hp]) ?_
        refine r_cVv C cwX3_28 (lift (by omega) (c_X1_copyRoom (k2 := b2 + 2 + 3 * p) (ρ2 := rm s2 p) (by omega) (by omega) (by omega) (by rw [sput_x (by omega), ← hσ]; exact sput_r (by omega)) (by rw [sput_x (by omega), ← hσ, sput_c (r := p) (m := 1) (by omega) (by omega) (by omega)]; rfl) (by rw [sput_x (by omega), ← hσ, sput_c (r := p) (m := 2) (by omega) (by omega) (by omega)]; rfl) hq.bur hq.shi hq.door)) dX3_copyFrom_20 rfl (by omega) (sput_r (by omega)) rfl rfl rfl (Nat.le_of_ble_eq_true rfl) ⟨Nat.le_of_ble_eq_true rfl, Nat.le_of_ble_eq_true rfl⟩ ⟨Nat.le_of_ble_eq_true rfl, Nat.le_of_ble_eq_true rfl⟩ ?_
        rw [show srm (mapR (fun r _ => rm s2 r) s p) p (rm s2 p) = mapR (fun r _ => rm s2 r) s (p + 1) from srm_mapR hp]
        refine r_iinc C dX3_copyFrom_23 rfl rfl ?_
        dsimp only [List.set]
        refine r_goto (tgt := 2) C dX3_copyFrom_26 (by decide) ?_
        exact ih _ (by omega) (by omega)
  have h0 := lp 6 0 (by omega) (by omega)
  rw [mapR_0] at h0
  exact h0
end
section
/-! the saved stores -/

def vrow (ad : Int → Nat) (v k : Int) : Nat → Option Nat := fun j => if j < 6 then some (ad (v + 2 + 20 * (((j : Int) + k) % 6))) else none
/-- saved stores at v: n of them, their row f, six stores u -/
def vputF (ad : Int → Nat) (ty : Nat → ClassId) (σ : Int → va_E) (v n : Int) (f : Nat → Option Nat) (u : Int → Int → Int) : Int → va_E := fun q =>
  if q = v then .inr (2, [.ref (ad (v + 1)), .int (gI n)]) else if q = v + 1 then gRA (ty 4) 6 f else
  if v + 2 ≤ q ∧ q < v + 122 then sput ad ty σ (v + 2 + 20 * ((q - v - 2) / 20)) (u ((q - v - 2) / 20)) q else σ q
section SAVED
variable {ad : Int → Nat} {ty : Nat → ClassId} {σ : Int → va_E} {v n k x b : Int} {f : Nat → Option Nat} {u : Int → Int → Int} {s : Int → Int}
theorem vputF_0 : vputF ad ty σ v n f u v = .inr (2, [.ref (ad (v + 1)), .int (gI n)]) := if_pos rfl
theorem vputF_1 : vputF ad ty σ v n f u (v + 1) = gRA (ty 4) 6 f := by
  unfold vputF; rw [if_neg (by omega), if_pos rfl]
theorem vputF_x {q : Int} (h : q < v ∨ v + 122 ≤ q) : vputF ad ty σ v n f u q = σ q := by
  unfold vputF; rw [if_neg (by omega), if_neg (by omega), if_neg (by omega)]
/-- a store's cells don't tell what lies around it -/
theorem sput_in {σ' : Int → va_E} {q : Int} (h : b ≤ q ∧ q < b + 20) : sput ad ty σ b s q = sput ad ty σ' b s q := by
  unfold sput
  split
  · rfl
  · split
    · rfl
    · rw [if_pos (by omega), if_pos (by omega)]
theorem vputF_s (hx : 0 ≤ x ∧ x < 6) : sput ad ty (vputF ad ty σ v n f u) (v + 2 + 20 * x) s = vputF ad ty σ v n f (up u x s) := by
  funext q
  by_cases h : v + 2 + 20 * x ≤ q ∧ q < v + 2 + 20 * x + 20
  · rw [sput_in (σ' := σ) h]
    unfold vputF
    rw [if_neg (by omega), if_neg (by omega), if_pos (by omega), show (q - v - 2) / 20 = x by omega, up_s]
  · rw [sput_x (by omega)]
    unfold vputF
    split
    · rfl
    · split
      · rfl
      · split
        · rw [up_n (by omega)]
        · rfl
theorem vputF_e (hx : 0 ≤ x ∧ x < 6) : sput ad ty (vputF ad ty σ v n f u) (v + 2 + 20 * x) (u x) = vputF ad ty σ v n f u := by
  rw [vputF_s hx, up_id rfl]
theorem vputF_st (hx : 0 ≤ x ∧ x < 6) : vputF ad ty σ v n f u (v + 2 + 20 * x) = .inr (3, sF ad (v + 2 + 20 * x) (u x)) := by
  rw [← vputF_e hx]; exact sput_0
theorem vputF_n (z : Int) : up (vputF ad ty σ v n f u) v (.inr (2, [.ref (ad (v + 1)), .int (gI z)])) = vputF ad ty σ v z f u := by
  funext q
  by_cases h : q = v
  · subst h; rw [up_s, vputF_0]
  · rw [up_n h]; unfold vputF; rw [if_neg h, if_neg h]
theorem vputF_f (f' : Nat → Option Nat) : up (vputF ad ty σ v n f u) (v + 1) (gRA (ty 4) 6 f') = vputF ad ty σ v n f' u := by
  funext q
  by_cases h : q = v + 1
  · subst h; rw [up_s, vputF_1]
  · rw [up_n h]; unfold vputF; rw [if_neg h, if_neg h]
theorem up_sput {q : Int} {e : va_E} (h : q < b ∨ b + 20 ≤ q) : up (sput ad ty σ b s) q e = sput ad ty (up σ q e) b s := by
  funext j
  by_cases hj : j = q
  · subst hj; rw [up_s, sput_x (by omega), up_s]
  · rw [up_n hj]
    by_cases h2 : b ≤ j ∧ j < b + 20
    · exact sput_in h2
    · rw [sput_x (by omega), sput_x (by omega), up_n hj]
def drf (ad : Int → Nat) (v k p : Int) : Nat → Option Nat := fun j => if (j : Int) + 1 < p then vrow ad v k (j + 1) else vrow ad v k j
theorem drf_1 : drf ad v k 1 = vrow ad v k := by
  funext j; unfold drf; rw [if_neg (by omega)]
theorem vrow_at {i : Int} (hi : 0 ≤ i ∧ i < 6) : vrow ad v k i.toNat = some (ad (v + 2 + 20 * ((i + k) % 6))) := by
  unfold vrow; rw [if_pos (by omega), Int.toNat_of_nonneg hi.1]
theorem drf_at {p : Int} (hp : 1 ≤ p ∧ p < 6) : drf ad v k p p.toNat = some (ad (v + 2 + 20 * ((p + k) % 6))) := by
  unfold drf; rw [if_neg (by omega)]; exact vrow_at (by omega)
theorem drf_s {p : Int} (hp : 1 ≤ p ∧ p < 6) : va_up (drf ad v k p) (p - 1).toNat (some (ad (v + 2 + 20 * ((p + k) % 6)))) = drf ad v k (p + 1) := by
  funext j
  unfold va_up
  by_cases h : j = (p - 1).toNat
  · rw [if_pos h]; unfold drf vrow; rw [if_pos (by omega), if_pos (by omega)]
    congr 3; rw [show (((j + 1 : Nat)) : Int) = p by omega]
  · rw [if_neg h]; unfold drf
    by_cases h2 : (j : Int) + 1 < p
    · rw [if_pos h2, if_pos (by omega)]
    · rw [if_neg h2, if_neg (by omega)]
theorem drf_6 : va_up (drf ad v k 6) (5 : Int).toNat (some (ad (v + 2 + 20 * ((0 + k) % 6)))) = vrow ad v (k + 1) := by
  funext j
  unfold va_up
  by_cases h : j = (5 : Int).toNat
  · rw [if_pos h]; unfold vrow
    have hj : j = 5 := h
    subst hj
    rw [if_pos (by omega), show (((5 : Nat) : Int) + (k + 1)) % 6 = (0 + k) % 6 by omega]
  · rw [if_neg h]
    have hj : j ≠ 5 := h
    unfold drf
    by_cases h2 : (j : Int) + 1 < 6
    · rw [if_pos h2]; unfold vrow; rw [if_pos (by omega), if_pos (by omega), show ((j + 1 : Nat) : Int) + k = (j : Int) + (k + 1) by omega]
    · rw [if_neg h2]; unfold vrow; rw [if_neg (by omega), if_neg (by omega)]
theorem liftV {l : Launch} {y : MethodName} {cc : ByteArray} {nL : Nat} {ret : Option FieldType} {f0 lo : Nat} {av : List Value} {D : va_G} {N : Int} {rv : Option Value} (hx : 0 ≤ x ∧ x < 6) (h : gM0 l y cc nL ret f0 lo av D ty ad N (sput ad ty (vputF ad ty σ v n f u) (v + 2 + 20 * x) (u x)) rv (sput ad ty (vputF ad ty σ v n f u) (v + 2 + 20 * x) s)) : gM0 l y cc nL ret f0 lo av D ty ad N (vputF ad ty σ v n f u) rv (vputF ad ty σ v n f (up u x s)) := by
  rw [vputF_e hx, vputF_s hx] at h
  exact h
def pshN (n : Int) : Int := if n < 6 then n + 1 else 6
def pshK (n k : Int) : Int := if n < 6 then k else k + 1
def pshU (n k : Int) (u : Int → Int → Int) (s : Int → Int) : Int → Int → Int := up u ((pshN n - 1 + pshK n k) % 6) s
end SAVED

set_option maxRecDepth 100000 in
set_option maxHeartbeats 4000000 in
theorem c_X2_dropOldest {l : Launch} {D : va_G} {ty : Nat → ClassId} {ad : Int → Nat} {N : Int} {σ : Int → va_E} {v k n : Int} {u : Int → Int → Int} (hv : 0 ≤ v ∧ v + 122 ≤ N) : gM0 l yX2_dropOldest cX2_dropOldest 3 none 0 0 [.ref (ad v)] D ty ad N (vputF ad ty σ v (n) (vrow ad v k) u) (none) (vputF ad ty σ v (5) (vrow ad v (k + 1)) u) := by
  refine gMet_of [some (.ref (ad v)), none, none] (by decide +kernel) rfl (Nat.le_of_ble_eq_true rfl) rfl ?_
  intro X hl hD hty C hini
  subst hl hD hty
  refine r_aload_n C dX2_dropOldest_0 rfl rfl ?_
  refine r_get C flX2_11 dX2_dropOldest_1 (by omega) vputF_0 rfl ?_
  refine r_iconst C dX2_dropOldest_4 ?_
  refine r_aald (t := 4) C dX2_dropOldest_5 (by omega) vputF_1 rfl (by omega) (by decide) (vrow_at (by omega)) ?_
  refine r_astore_n C dX2_dropOldest_6 rfl (Nat.le_of_ble_eq_true rfl) rfl ?_
  dsimp only [List.set]
  refine r_iconst C dX2_dropOldest_7 ?_
  refine r_istore_n C dX2_dropOldest_8 rfl (Nat.le_of_ble_eq_true rfl) rfl ?_
  dsimp only [List.set]
  have lp : ∀ (n0 : Nat) (p : Int), (1 ≤ p) → (p + n0 = 6) → V X 0 0 (gQ X (gD (none) ad N (vputF ad (gty X) σ v (5) (vrow ad v (k + 1)) u)) 0 0) 9 [some (.ref (ad v)), some (.ref (ad (v + 2 + 20 * ((0 + k) % 6)))), some (.int (gI p))] [] ad N (vputF ad (gty X) σ v (n) (drf ad v k p) u) := by
    intro n0
    induction n0 with
    | zero =>
      intro p hp hpn
      have hpp : p = 6 := by omega
      subst hpp
      refine r_iload_n C dX2_dropOldest_9 rfl rfl ?_
      refine r_bipush C dX2_dropOldest_10 (by decide) ?_
      refine r_icmp_ge (tgt := 35) C dX2_dropOldest_12 (by decide) (by omega) (by omega) (fun h12 => ?_) (fun h12 => ?_)
      · refine r_aload_n C dX2_dropOldest_35 rfl rfl ?_
        refine r_get C flX2_11 dX2_dropOldest_36 (by omega) vputF_0 rfl ?_
        refine r_iconst C dX2_dropOldest_39 ?_
        refine r_aload_n C dX2_dropOldest_40 rfl rfl ?_
        refine r_aast (t := 4) (r := (RX3, TX3, 10)) C dX2_dropOldest_41 (by omega) vputF_1 rfl (by omega) (by decide) (by omega) (vputF_st (x := (0 + k) % 6) (by omega)) rfl ?_
        rw [drf_6, vputF_f]
        refine r_aload_n C dX2_dropOldest_42 rfl rfl ?_
        refine r_iconst C dX2_dropOldest_43 ?_
        refine r_put C flX2_18 dX2_dropOldest_44 (by omega) vputF_0 rfl rfl rfl (Nat.le_of_ble_eq_true rfl) ?_
        dsimp only [List.set]
        rw [vputF_n]
        exact r_vretD C dX2_dropOldest_47 rfl
      · exact absurd h12 (by omega)
    | succ n0 ih =>
      intro p hp hpn
      refine r_iload_n C dX2_dropOldest_9 rfl rfl ?_
      refine r_bipush C dX2_dropOldest_10 (by decide) ?_
      refine r_icmp_ge (tgt := 35) C dX2_dropOldest_12 (by decide) (by omega) (by omega) (fun h12 => ?_) (fun h12 => ?_)
      · exact absurd h12 (by omega)
      · refine r_aload_n C dX2_dropOldest_15 rfl rfl ?_
        refine r_get C flX2_11 dX2_dropOldest_16 (by omega) vputF_0 rfl ?_
        refine r_iload_n C dX2_dropOldest_19 rfl rfl ?_
        refine r_iconst C dX2_dropOldest_20 ?_
        refine r_isub C dX2_dropOldest_21 ?_
        refine r_aload_n C dX2_dropOldest_22 rfl rfl ?_
        refine r_get C flX2_11 dX2_dropOldest_23 (by omega) vputF_0 rfl ?_
        refine r_iload_n C dX2_dropOldest_26 rfl rfl ?_
        refine r_aald (t := 4) C dX2_dropOldest_27 (by omega) vputF_1 rfl (by omega) (by decide) (drf_at (by omega)) ?_
        refine r_aast (t := 4) (r := (RX3, TX3, 10)) C dX2_dropOldest_28 (by omega) vputF_1 rfl (by omega) (by decide) (by omega) (vputF_st (x := (p + k) % 6) (by omega)) rfl ?_
        rw [drf_s (by omega), vputF_f]
        refine r_iinc C dX2_dropOldest_29 rfl rfl ?_
        dsimp only [List.set]
        refine r_goto (tgt := 9) C dX2_dropOldest_32 (by decide) ?_
        exact ih _ (by omega) (by omega)
  have h0 := lp 5 1 (by omega) (by omega)
  rw [drf_1] at h0
  exact h0

theorem sput_vputF {ad : Int → Nat} {ty : Nat → ClassId} {σ : Int → va_E} {v n b : Int} {f : Nat → Option Nat} {u : Int → Int → Int} {s : Int → Int} (h : b + 20 ≤ v ∨ v + 122 ≤ b) : sput ad ty (vputF ad ty (sput ad ty σ b s) v n f u) b s = vputF ad ty (sput ad ty σ b s) v n f u := by
  funext q
  by_cases h2 : b ≤ q ∧ q < b + 20
  · rw [vputF_x (by omega)]; exact sput_in h2
  · rw [sput_x (by omega)]

set_option maxRecDepth 100000 in
set_option maxHeartbeats 4000000 in
theorem c_X2_push {l : Launch} {D : va_G} {ty : Nat → ClassId} {ad : Int → Nat} {N : Int} {σ : Int → va_E} {v k n b : Int} {u : Int → Int → Int} {s : Int → Int} (hv : 0 ≤ v ∧ v + 122 ≤ N) (hn : 0 ≤ n ∧ n ≤ 6) (hb : 0 ≤ b ∧ b + 20 ≤ N) (hbv : b + 20 ≤ v ∨ v + 122 ≤ b) (hs : okS s) (hσ : sput ad ty σ b s = σ) : gM0 l yX2_push cX2_push 2 none 3 83 [.ref (ad v), .ref (ad b)] D ty ad N (vputF ad ty σ v (n) (vrow ad v k) u) (none) (vputF ad ty σ v (pshN n) (vrow ad v (pshK n k)) (pshU n k u s)) := by
  refine gMet_of [some (.ref (ad v)), some (.ref (ad b))] (by decide +kernel) rfl (Nat.le_of_ble_eq_true rfl) rfl ?_
  intro X hl hD hty C hini
  subst hl hD hty
  refine r_aload_n C dX2_push_0 rfl rfl ?_
  refine r_get C flX2_18 dX2_push_1 (by omega) vputF_0 rfl ?_
  refine r_bipush C dX2_push_4 (by decide) ?_
  refine r_icmp_lt (tgt := 13) C dX2_push_6 (by decide) (by omega) (by omega) (fun h6 => ?_) (fun h6 => ?_)
  · have hn6 : n < 6 := h6
    refine r_aload_n C dX2_push_13 rfl rfl ?_
    refine r_get C flX2_11 dX2_push_14 (by omega) vputF_0 rfl ?_
    refine r_aload_n C dX2_push_17 rfl rfl ?_
    refine r_get C flX2_18 dX2_push_18 (by omega) vputF_0 rfl ?_
    refine r_aald (t := 4) C dX2_push_21 (by omega) vputF_1 rfl (by omega) (by decide) (vrow_at (by omega)) ?_
    refine r_aload_n C dX2_push_22 rfl rfl ?_
    refine r_cVv C cwX2_25 (liftV (by omega) (c_X3_copyFrom (b2 := b) (s2 := s) (by omega) hb (by omega) (by rw [← hσ]; exact sput_vputF hbv) hs)) dX2_push_23 rfl (by omega) (vputF_st (by omega)) rfl rfl rfl (Nat.le_of_ble_eq_true rfl) ⟨Nat.le_of_ble_eq_true rfl, Nat.le_of_ble_eq_true rfl⟩ ⟨Nat.le_of_ble_eq_true rfl, Nat.le_of_ble_eq_true rfl⟩ ?_
    refine r_aload_n C dX2_push_26 rfl rfl ?_
    refine r_dup C dX2_push_27 rfl ?_
    refine r_get C flX2_18 dX2_push_28 (by omega) vputF_0 rfl ?_
    refine r_iconst C dX2_push_31 ?_
    refine r_iadd C dX2_push_32 ?_
    refine r_put C flX2_18 dX2_push_33 (by omega) vputF_0 rfl rfl rfl (Nat.le_of_ble_eq_true rfl) ?_
    dsimp only [List.set]
    rw [vputF_n]
    exact r_vretD C dX2_push_36 (by unfold pshU pshN pshK; first | (simp only [if_pos hn6]; rw [show n + 1 - 1 = n by omega]) | (simp only [if_neg hn7]; rfl))
  · have hn7 : ¬ n < 6 := by omega
    refine r_aload_n C dX2_push_9 rfl rfl ?_
    refine r_cVv C cwX2_22 (c_X2_dropOldest hv) dX2_push_10 rfl (by omega) vputF_0 rfl rfl rfl (Nat.le_of_ble_eq_true rfl) ⟨Nat.le_of_ble_eq_true rfl, Nat.le_of_ble_eq_true rfl⟩ ⟨Nat.le_of_ble_eq_true rfl, Nat.le_of_ble_eq_true rfl⟩ ?_
    refine r_aload_n C dX2_push_13 rfl rfl ?_
    refine r_get C flX2_11 dX2_push_14 (by omega) vputF_0 rfl ?_
    refine r_aload_n C dX2_push_17 rfl rfl ?_
    refine r_get C flX2_18 dX2_push_18 (by omega) vputF_0 rfl ?_
    refine r_aald (t := 4) C dX2_push_21 (by omega) vputF_1 rfl (by omega) (by decide) (vrow_at (by omega)) ?_
    refine r_aload_n C dX2_push_22 rfl rfl ?_
    refine r_cVv C cwX2_25 (liftV (by omega) (c_X3_copyFrom (b2 := b) (s2 := s) (by omega) hb (by omega) (by rw [← hσ]; exact sput_vputF hbv) hs)) dX2_push_23 rfl (by omega) (vputF_st (by omega)) rfl rfl rfl (Nat.le_of_ble_eq_true rfl) ⟨Nat.le_of_ble_eq_true rfl, Nat.le_of_ble_eq_true rfl⟩ ⟨Nat.le_of_ble_eq_true rfl, Nat.le_of_ble_eq_true rfl⟩ ?_
    refine r_aload_n C dX2_push_26 rfl rfl ?_
    refine r_dup C dX2_push_27 rfl ?_
    refine r_get C flX2_18 dX2_push_28 (by omega) vputF_0 rfl ?_
    refine r_iconst C dX2_push_31 ?_
    refine r_iadd C dX2_push_32 ?_
    refine r_put C flX2_18 dX2_push_33 (by omega) vputF_0 rfl rfl rfl (Nat.le_of_ble_eq_true rfl) ?_
    dsimp only [List.set]
    rw [vputF_n]
    exact r_vretD C dX2_push_36 (by unfold pshU pshN pshK; first | (simp only [if_pos hn6]; rw [show n + 1 - 1 = n by omega]) | (simp only [if_neg hn7]; rfl))

set_option maxRecDepth 100000 in
set_option maxHeartbeats 4000000 in
theorem c_X2_popInto {l : Launch} {D : va_G} {ty : Nat → ClassId} {ad : Int → Nat} {N : Int} {σ : Int → va_E} {v k n b : Int} {u : Int → Int → Int} {s : Int → Int} (hv : 0 ≤ v ∧ v + 122 ≤ N) (hn : 1 ≤ n ∧ n ≤ 6) (hb : 0 ≤ b ∧ b + 20 ≤ N) (hbv : b + 20 ≤ v ∨ v + 122 ≤ b) (hu : okS (u ((n - 1 + k) % 6))) : gM0 l yX2_popInto cX2_popInto 2 (some .int) 3 83 [.ref (ad v), .ref (ad b)] D ty ad N (sput ad ty (vputF ad ty σ v (n) (vrow ad v k) u) b s) (some (.int (gI (n - 1)))) (sput ad ty (vputF ad ty σ v (n - 1) (vrow ad v k) u) b (u ((n - 1 + k) % 6))) := by
  refine gMet_of [some (.ref (ad v)), some (.ref (ad b))] (by decide +kernel) rfl (Nat.le_of_ble_eq_true rfl) rfl ?_
  intro X hl hD hty C hini
  subst hl hD hty
  refine r_aload_n C dX2_popInto_0 rfl rfl ?_
  refine r_get C flX2_18 dX2_popInto_1 (by omega) (by rw [sput_x (by omega)]; exact vputF_0) rfl ?_
  refine r_if_le (tgt := 30) C dX2_popInto_4 (by decide) (by omega) (fun h4 => ?_) (fun h4 => ?_)
  · exact absurd h4 (by omega)
  · refine r_aload_n C dX2_popInto_7 rfl rfl ?_
    refine r_dup C dX2_popInto_8 rfl ?_
    refine r_get C flX2_18 dX2_popInto_9 (by omega) (by rw [sput_x (by omega)]; exact vputF_0) rfl ?_
    refine r_iconst C dX2_popInto_12 ?_
    refine r_isub C dX2_popInto_13 ?_
    refine r_put C flX2_18 dX2_popInto_14 (by omega) (by rw [sput_x (by omega)]; exact vputF_0) rfl rfl rfl (Nat.le_of_ble_eq_true rfl) ?_
    dsimp only [List.set]
    rw [up_sput (by omega), vputF_n]
    refine r_aload_n C dX2_popInto_17 rfl rfl ?_
    refine r_aload_n C dX2_popInto_18 rfl rfl ?_
    refine r_get C flX2_11 dX2_popInto_19 (by omega) (by rw [sput_x (by omega)]; exact vputF_0) rfl ?_
    refine r_aload_n C dX2_popInto_22 rfl rfl ?_
    refine r_get C flX2_18 dX2_popInto_23 (by omega) (by rw [sput_x (by omega)]; exact vputF_0) rfl ?_
    refine r_aald (t := 4) C dX2_popInto_26 (by omega) (by rw [sput_x (by omega)]; exact vputF_1) rfl (by omega) (by decide) (vrow_at (by omega)) ?_
    refine r_cVv C cwX2_25 (c_X3_copyFrom (b2 := v + 2 + 20 * ((n - 1 + k) % 6)) (s2 := u ((n - 1 + k) % 6)) hb (by omega) (by omega) (vputF_e (by omega)) hu) dX2_popInto_27 rfl (by omega) sput_0 rfl rfl rfl (Nat.le_of_ble_eq_true rfl) ⟨Nat.le_of_ble_eq_true rfl, Nat.le_of_ble_eq_true rfl⟩ ⟨Nat.le_of_ble_eq_true rfl, Nat.le_of_ble_eq_true rfl⟩ ?_
    refine r_aload_n C dX2_popInto_30 rfl rfl ?_
    refine r_get C flX2_18 dX2_popInto_31 (by omega) (by rw [sput_x (by omega)]; exact vputF_0) rfl ?_
    exact r_iretD C dX2_popInto_34 rfl rfl
end
section
/-! DeedText -/

/-- the text at c: len characters of tx -/
def dput (ad : Int → Nat) (ty : Nat → ClassId) (σ : Int → va_E) (c len : Int) (tx : Int → Int) : Int → va_E := fun q =>
  if q = c then .inr (0, [.ref (ad (c + 1)), .int (gI len)]) else if q = c + 1 then gAr (ty 1) 60 tx else σ q
section TEXT
variable {ad : Int → Nat} {ty : Nat → ClassId} {σ : Int → va_E} {c len : Int} {tx : Int → Int}
theorem dput_0 : dput ad ty σ c len tx c = .inr (0, [.ref (ad (c + 1)), .int (gI len)]) := if_pos rfl
theorem dput_1 : dput ad ty σ c len tx (c + 1) = gAr (ty 1) 60 tx := by
  unfold dput; rw [if_neg (by omega), if_pos rfl]
theorem dput_x {q : Int} (h : q < c ∨ c + 1 < q) : dput ad ty σ c len tx q = σ q := by
  unfold dput; rw [if_neg (by omega), if_neg (by omega)]
theorem dput_n (z : Int) : up (dput ad ty σ c len tx) c (.inr (0, [.ref (ad (c + 1)), .int (gI z)])) = dput ad ty σ c z tx := by
  funext q
  by_cases h : q = c
  · subst h; rw [up_s, dput_0]
  · rw [up_n h]; unfold dput; rw [if_neg h, if_neg h]
theorem dput_t (tx' : Int → Int) : up (dput ad ty σ c len tx) (c + 1) (gAr (ty 1) 60 tx') = dput ad ty σ c len tx' := by
  funext q
  by_cases h : q = c + 1
  · subst h; rw [up_s, dput_1]
  · rw [up_n h]; unfold dput; rw [if_neg h, if_neg h]
end TEXT
/-- what stands at a place -/
def cAt (len : Int) (tx : Int → Int) (p : Int) : Int := if 0 ≤ p ∧ p < len then tx p else 0
abbrev isDg (c lo hi : Int) : Prop := 48 + lo ≤ c ∧ c ≤ 48 + hi
def dgAt (len : Int) (tx : Int → Int) (p : Int) : Int := if isDg (cAt len tx p) 0 9 then cAt len tx p - 48 else -1
def nuAt (len : Int) (tx : Int → Int) (p : Int) : Int := if dgAt len tx (p + 1) = -1 then max 0 (dgAt len tx p) else max 0 (dgAt len tx p) * 10 + dgAt len tx (p + 1)
abbrev stP (len : Int) (tx : Int → Int) (p : Int) : Prop := p = 0 ∨ cAt len tx (p - 1) = 44
def sgn (c : Int) : Int := if c = 42 ∨ c = 60 ∨ c = 62 ∨ c = 110 then 5 else if c = 98 then 2 else if c = 43 then 3 else 6
def stB (t c : Int) : Int := if t = 0 then (if isDg c 0 5 then 1 else 6) else if t = 1 then sgn c else if t = 2 then (if isDg c 1 6 then 5 else 6) else if t = 3 then (if c = 48 then 5 else if isDg c 1 9 then 4 else 6) else if t = 4 then (if isDg c 0 9 then 5 else if c = 44 then 0 else 6) else if t = 5 then (if c = 44 then 0 else 6) else 6
theorem sgn_rng (c : Int) : 0 ≤ sgn c ∧ sgn c ≤ 6 := by unfold sgn; (repeat' split) <;> omega
theorem stB_rng (t c : Int) : 0 ≤ stB t c ∧ stB t c ≤ 6 := by have := sgn_rng c; unfold stB; (repeat' split) <;> omega
def errN (len : Int) (tx : Int → Int) : Nat → Int → Int → Int
  | 0, _, _ => len
  | n + 1, p, t => if stB t (cAt len tx p) = 6 then p else errN len tx n (p + 1) (stB t (cAt len tx p))
/-- the first character that is an error -/
def errP (len : Int) (tx : Int → Int) : Int := errN len tx len.toNat 0 0
def stN (len : Int) (tx : Int → Int) : Nat → Int → Int → Int
  | 0, _, t => t
  | n + 1, p, t => stN len tx n (p + 1) (stB t (cAt len tx p))
abbrev cmpl (len : Int) (tx : Int → Int) : Prop := stN len tx len.toNat 0 0 = 4 ∨ stN len tx len.toNat 0 0 = 5
def okT (len : Int) (tx : Int → Int) : Prop := (0 ≤ len ∧ len ≤ 60) ∧ ∀ i, 0 ≤ i → i < 60 → 0 ≤ tx i ∧ tx i ≤ 126
theorem cAt_rng {len : Int} {tx : Int → Int} (h : okT len tx) (p : Int) : 0 ≤ cAt len tx p ∧ cAt len tx p ≤ 126 := by
  have hl := h.1
  unfold cAt
  split
  · exact h.2 p (by omega) (by omega)
  · omega
theorem dgAt_rng (len : Int) (tx : Int → Int) (p : Int) : -1 ≤ dgAt len tx p ∧ dgAt len tx p ≤ 9 := by
  unfold dgAt; split <;> omega
theorem stN_rng (len : Int) (tx : Int → Int) : ∀ (n : Nat) (p t : Int), 0 ≤ t ∧ t ≤ 6 → 0 ≤ stN len tx n p t ∧ stN len tx n p t ≤ 6
  | 0, _, t, h => h
  | n + 1, p, t, _ => stN_rng len tx n (p + 1) _ (stB_rng t _)
end
section
/-! the whole object at x: 145 cells -/
def xput (ad : Int → Nat) (ty : Nat → ClassId) (σ : Int → va_E) (x : Int) (s : Int → Int) (n k : Int) (u : Int → Int → Int) (len : Int) (tx : Int → Int) : Int → va_E := fun q =>
  if q = x then .inr (4, [.ref (ad (x + 1)), .ref (ad (x + 21)), .ref (ad (x + 143))]) else
  if x + 1 ≤ q ∧ q < x + 21 then sput ad ty σ (x + 1) s q else
  if x + 21 ≤ q ∧ q < x + 143 then vputF ad ty σ (x + 21) n (vrow ad (x + 21) k) u q else
  if x + 143 ≤ q ∧ q < x + 145 then dput ad ty σ (x + 143) len tx q else σ q
section XPUT
variable {ad : Int → Nat} {ty : Nat → ClassId} {σ : Int → va_E} {x n k len : Int} {u : Int → Int → Int} {s tx : Int → Int}
theorem vputF_in {σ' : Int → va_E} {v q : Int} {f : Nat → Option Nat} (h : v ≤ q ∧ q < v + 122) : vputF ad ty σ v n f u q = vputF ad ty σ' v n f u q := by
  unfold vputF
  split
  · rfl
  · split
    · rfl
    · rw [if_pos (by omega), if_pos (by omega)]; exact sput_in (by omega)
theorem dput_in {σ' : Int → va_E} {c q : Int} (h : c ≤ q ∧ q < c + 2) : dput ad ty σ c len tx q = dput ad ty σ' c len tx q := by
  unfold dput
  split
  · rfl
  · rw [if_pos (by omega), if_pos (by omega)]
theorem xput_0 : xput ad ty σ x s n k u len tx x = .inr (4, [.ref (ad (x + 1)), .ref (ad (x + 21)), .ref (ad (x + 143))]) := if_pos rfl
theorem xput_x {q : Int} (h : q < x ∨ x + 145 ≤ q) : xput ad ty σ x s n k u len tx q = σ q := by
  unfold xput; rw [if_neg (by omega), if_neg (by omega), if_neg (by omega), if_neg (by omega)]
theorem xput_s (s' : Int → Int) : sput ad ty (xput ad ty σ x s n k u len tx) (x + 1) s' = xput ad ty σ x s' n k u len tx := by
  funext q
  by_cases h : x + 1 ≤ q ∧ q < x + 21
  · rw [sput_in (σ' := σ) (by omega)]; unfold xput; rw [if_neg (by omega), if_pos h]
  · rw [sput_x (by omega)]; unfold xput; rw [if_neg h, if_neg h]
theorem xput_v (n' k' : Int) (u' : Int → Int → Int) : vputF ad ty (xput ad ty σ x s n k u len tx) (x + 21) n' (vrow ad (x + 21) k') u' = xput ad ty σ x s n' k' u' len tx := by
  funext q
  by_cases h : x + 21 ≤ q ∧ q < x + 143
  · rw [vputF_in (σ' := σ) (by omega)]; unfold xput; rw [if_neg (by omega), if_neg (by omega), if_pos h]
  · rw [vputF_x (by omega)]; unfold xput; rw [if_neg h, if_neg h]
theorem xput_d (len' : Int) (tx' : Int → Int) : dput ad ty (xput ad ty σ x s n k u len tx) (x + 143) len' tx' = xput ad ty σ x s n k u len' tx' := by
  funext q
  by_cases h : x + 143 ≤ q ∧ q < x + 145
  · rw [dput_in (σ' := σ) (by omega)]; unfold xput; rw [if_neg (by omega), if_neg (by omega), if_neg (by omega), if_pos h]
  · rw [dput_x (by omega)]; unfold xput; rw [if_neg h, if_neg h]
theorem xput_st : xput ad ty σ x s n k u len tx (x + 1) = .inr (3, sF ad (x + 1) s) := by
  rw [← xput_s (s := s) s]; exact sput_0
theorem xput_sv : xput ad ty σ x s n k u len tx (x + 21) = .inr (2, [.ref (ad (x + 21 + 1)), .int (gI n)]) := by
  rw [← xput_v (n := n) (k := k) (u := u) n k u]; exact vputF_0
theorem xput_tx : xput ad ty σ x s n k u len tx (x + 143) = .inr (0, [.ref (ad (x + 143 + 1)), .int (gI len)]) := by
  rw [← xput_d (len := len) (tx := tx) len tx]; exact dput_0
theorem xput_rm {r : Int} (hr : 0 ≤ r ∧ r < 6) : xput ad ty σ x s n k u len tx (x + 1 + 2 + 3 * r) = .inr (1, rF ad (x + 1 + 2 + 3 * r) (rm s r)) := by
  rw [← xput_s (s := s) s]; exact sput_r hr
theorem up_xput {q : Int} {e : va_E} (h : q < x ∨ x + 145 ≤ q) : up (xput ad ty σ x s n k u len tx) q e = xput ad ty (up σ q e) x s n k u len tx := by
  funext j
  by_cases hj : j = q
  · subst hj; rw [up_s, xput_x (by omega), up_s]
  · rw [up_n hj]
    unfold xput
    split
    · rfl
    · split
      · exact sput_in (by omega)
      · split
        · exact vputF_in (by omega)
        · split
          · exact dput_in (by omega)
          · rw [up_n hj]
variable {l : Launch} {y : MethodName} {cc : ByteArray} {nL : Nat} {ret : Option FieldType} {f0 lo : Nat} {av : List Value} {D : va_G} {N : Int} {rv : Option Value}
theorem liftXs {s' : Int → Int} (h : gM0 l y cc nL ret f0 lo av D ty ad N (sput ad ty (xput ad ty σ x s n k u len tx) (x + 1) s) rv (sput ad ty (xput ad ty σ x s n k u len tx) (x + 1) s')) : gM0 l y cc nL ret f0 lo av D ty ad N (xput ad ty σ x s n k u len tx) rv (xput ad ty σ x s' n k u len tx) := by
  rw [xput_s, xput_s] at h; exact h
theorem liftXv {n' k' : Int} {u' : Int → Int → Int} (h : gM0 l y cc nL ret f0 lo av D ty ad N (vputF ad ty (xput ad ty σ x s n k u len tx) (x + 21) n (vrow ad (x + 21) k) u) rv (vputF ad ty (xput ad ty σ x s n k u len tx) (x + 21) n' (vrow ad (x + 21) k') u')) : gM0 l y cc nL ret f0 lo av D ty ad N (xput ad ty σ x s n k u len tx) rv (xput ad ty σ x s n' k' u' len tx) := by
  rw [xput_v, xput_v] at h; exact h
theorem liftXp {n' : Int} {s' : Int → Int} (h : gM0 l y cc nL ret f0 lo av D ty ad N (sput ad ty (vputF ad ty (xput ad ty σ x s n k u len tx) (x + 21) n (vrow ad (x + 21) k) u) (x + 1) s) rv (sput ad ty (vputF ad ty (xput ad ty σ x s n k u len tx) (x + 21) n' (vrow ad (x + 21) k) u) (x + 1) s')) : gM0 l y cc nL ret f0 lo av D ty ad N (xput ad ty σ x s n k u len tx) rv (xput ad ty σ x s' n' k u len tx) := by
  rw [xput_v, xput_s, xput_v, xput_s] at h; exact h
theorem liftXd {len' : Int} {tx' : Int → Int} (h : gM0 l y cc nL ret f0 lo av D ty ad N (dput ad ty (xput ad ty σ x s n k u len tx) (x + 143) len tx) rv (dput ad ty (xput ad ty σ x s n k u len tx) (x + 143) len' tx')) : gM0 l y cc nL ret f0 lo av D ty ad N (xput ad ty σ x s n k u len tx) rv (xput ad ty σ x s n k u len' tx') := by
  rw [xput_d, xput_d] at h; exact h
theorem V_xs {X : gT} {kc kn : Nat} {Q : State → Prop} {pc : Nat} {L : List (Option Value)} {st : List Value} (kk : V X kc kn Q pc L st ad N (sput ad ty (xput ad ty σ x s n k u len tx) (x + 1) s)) : V X kc kn Q pc L st ad N (xput ad ty σ x s n k u len tx) := by
  rw [xput_s] at kk; exact kk
theorem V_xr {X : gT} {kc kn : Nat} {Q : State → Prop} {pc : Nat} {L : List (Option Value)} {st : List Value} {s' : Int → Int} (kk : V X kc kn Q pc L st ad N (xput ad ty σ x s' n k u len tx)) : V X kc kn Q pc L st ad N (sput ad ty (xput ad ty σ x s n k u len tx) (x + 1) s') := by
  rw [xput_s]; exact kk
end XPUT
/-- what holds of the whole object -/
def okX (s : Int → Int) (n : Int) (u : Int → Int → Int) (len : Int) (tx : Int → Int) : Prop := okS s ∧ (0 ≤ n ∧ n ≤ 6) ∧ (∀ i, 0 ≤ i → i < 6 → okS (u i)) ∧ okT len tx
end
section
/-! CandleRooms: the methods that return -/
set_option maxRecDepth 100000 in
set_option maxHeartbeats 4000000 in
theorem c_X4_isRoom {l : Launch} {D : va_G} {ty : Nat → ClassId} {ad : Int → Nat} {N : Int} {σ : Int → va_E} {z : Int} (hz : -2147483648 ≤ z ∧ z < 2147483648) : gM0 l yX4_isRoom cX4_isRoom 1 (some .boolean) 0 0 [.int (gI z)] D ty ad N (σ) (some (.int (gI (gB (0 ≤ z ∧ z < 6))))) (σ) := by
  refine gMet_of [some (.int (gI z))] (by decide +kernel) rfl (Nat.le_of_ble_eq_true rfl) rfl ?_
  intro X hl hD hty C hini
  subst hl hD hty
  refine r_iload_n C dX4_isRoom_0 rfl rfl ?_
  refine r_if_lt (tgt := 14) C dX4_isRoom_1 (by decide) (by omega) (fun h1 => ?_) (fun h1 => ?_)
  · refine r_iconst C dX4_isRoom_14 ?_
    exact r_zretD C dX4_isRoom_15 (by omega) (by first | exact (gB_t (by omega)).symm | exact (gB_f (by omega)).symm) rfl
  · refine r_iload_n C dX4_isRoom_4 rfl rfl ?_
    refine r_bipush C dX4_isRoom_5 (by decide) ?_
    refine r_icmp_ge (tgt := 14) C dX4_isRoom_7 (by decide) (by omega) (by omega) (fun h7 => ?_) (fun h7 => ?_)
    · refine r_iconst C dX4_isRoom_14 ?_
      exact r_zretD C dX4_isRoom_15 (by omega) (by first | exact (gB_t (by omega)).symm | exact (gB_f (by omega)).symm) rfl
    · refine r_iconst C dX4_isRoom_10 ?_
      refine r_goto (tgt := 15) C dX4_isRoom_11 (by decide) ?_
      exact r_zretD C dX4_isRoom_15 (by omega) (by first | exact (gB_t (by omega)).symm | exact (gB_f (by omega)).symm) rfl

set_option maxRecDepth 100000 in
set_option maxHeartbeats 4000000 in
theorem c_X4_requireRoom {l : Launch} {D : va_G} {ty : Nat → ClassId} {ad : Int → Nat} {N : Int} {σ : Int → va_E} {z : Int} (hz : 0 ≤ z ∧ z < 6) : gM0 l yX4_requireRoom cX4_requireRoom 1 none 6 200 [.int (gI z)] D ty ad N (σ) (none) (σ) := by
  refine gMet_of [some (.int (gI z))] (by decide +kernel) rfl (Nat.le_of_ble_eq_true rfl) rfl ?_
  intro X hl hD hty C hini
  subst hl hD hty
  refine r_iload_n C dX4_requireRoom_0 rfl rfl ?_
  refine r_cS C cwX4_68 (c_X4_isRoom (by omega)) dX4_requireRoom_1 rfl rfl rfl (Nat.le_of_ble_eq_true rfl) ⟨Nat.le_of_ble_eq_true rfl, Nat.le_of_ble_eq_true rfl⟩ ⟨Nat.le_of_ble_eq_true rfl, Nat.le_of_ble_eq_true rfl⟩ ?_
  refine r_ifb_ne (tgt := 17) C dX4_requireRoom_4 (by decide) (fun h4 => ?_) (fun h4 => ?_)
  · exact r_vretD C dX4_requireRoom_17 rfl
  · exact absurd hz h4

set_option maxRecDepth 100000 in
set_option maxHeartbeats 4000000 in
theorem c_X4_requireKey {l : Launch} {D : va_G} {ty : Nat → ClassId} {ad : Int → Nat} {N : Int} {σ : Int → va_E} {z : Int} (hz : 0 ≤ z ∧ z < 100) : gM0 l yX4_requireKey cX4_requireKey 1 none 6 200 [.int (gI z)] D ty ad N (σ) (none) (σ) := by
  refine gMet_of [some (.int (gI z))] (by decide +kernel) rfl (Nat.le_of_ble_eq_true rfl) rfl ?_
  intro X hl hD hty C hini
  subst hl hD hty
  refine r_iload_n C dX4_requireKey_0 rfl rfl ?_
  refine r_if_lt (tgt := 10) C dX4_requireKey_1 (by decide) (by omega) (fun h1 => ?_) (fun h1 => ?_)
  · exact absurd h1 (by omega)
  · refine r_iload_n C dX4_requireKey_4 rfl rfl ?_
    refine r_bipush C dX4_requireKey_5 (by decide) ?_
    refine r_icmp_lt (tgt := 20) C dX4_requireKey_7 (by decide) (by omega) (by omega) (fun h7 => ?_) (fun h7 => ?_)
    · exact r_vretD C dX4_requireKey_20 rfl
    · exact absurd h7 (by omega)

set_option maxRecDepth 100000 in
set_option maxHeartbeats 4000000 in
theorem c_X4_requireNumber {l : Launch} {D : va_G} {ty : Nat → ClassId} {ad : Int → Nat} {N : Int} {σ : Int → va_E} {z m : Int} (hm : 0 ≤ m ∧ m < 100) (hz : 0 ≤ z ∧ z < m) : gM0 l yX4_requireNumber cX4_requireNumber 2 none 6 200 [.int (gI z), .int (gI m)] D ty ad N (σ) (none) (σ) := by
  refine gMet_of [some (.int (gI z)), some (.int (gI m))] (by decide +kernel) rfl (Nat.le_of_ble_eq_true rfl) rfl ?_
  intro X hl hD hty C hini
  subst hl hD hty
  refine r_iload_n C dX4_requireNumber_0 rfl rfl ?_
  refine r_if_lt (tgt := 9) C dX4_requireNumber_1 (by decide) (by omega) (fun h1 => ?_) (fun h1 => ?_)
  · exact absurd h1 (by omega)
  · refine r_iload_n C dX4_requireNumber_4 rfl rfl ?_
    refine r_iload_n C dX4_requireNumber_5 rfl rfl ?_
    refine r_icmp_lt (tgt := 19) C dX4_requireNumber_6 (by decide) (by omega) (by omega) (fun h6 => ?_) (fun h6 => ?_)
    · exact r_vretD C dX4_requireNumber_19 rfl
    · exact absurd h6 (by omega)

set_option maxRecDepth 100000 in
set_option maxHeartbeats 4000000 in
theorem c_X4_strike {l : Launch} {D : va_G} {ty : Nat → ClassId} {ad : Int → Nat} {N : Int} {σ : Int → va_E} {x n k len : Int} {u : Int → Int → Int} {s tx : Int → Int} {r : Int} (hx : 0 ≤ x ∧ x + 145 ≤ N) (ho : okX s n u len tx) (hr : 0 ≤ r ∧ r < 6) (hm : mayS s r) : gM0 l yX4_strike cX4_strike 2 (some .int) 7 220 [.ref (ad x), .int (gI r)] D ty ad N (xput ad ty σ x s n k u len tx) (some (.int (gI (rm s r 0)))) (xput ad ty σ x (light1 s r) (pshN n) (pshK n k) (pshU n k u s) (len) (tx)) := by
  refine gMet_of [some (.ref (ad x)), some (.int (gI r))] (by decide +kernel) rfl (Nat.le_of_ble_eq_true rfl) rfl ?_
  intro X hl hD hty C hini
  subst hl hD hty
  have hs := ho.1
  have hn := ho.2.1
  have ht := ho.2.2.2
  have hlen := ht.1
  refine r_iload_n C dX4_strike_0 rfl rfl ?_
  refine r_cSv C cwX4_30 (c_X4_requireRoom (by omega)) dX4_strike_1 rfl rfl rfl (Nat.le_of_ble_eq_true rfl) ⟨Nat.le_of_ble_eq_true rfl, Nat.le_of_ble_eq_true rfl⟩ ⟨Nat.le_of_ble_eq_true rfl, Nat.le_of_ble_eq_true rfl⟩ ?_
  refine r_aload_n C dX4_strike_4 rfl rfl ?_
  refine r_get C flX4_10 dX4_strike_5 (by omega) xput_0 rfl ?_
  refine r_iload_n C dX4_strike_8 rfl rfl ?_
  refine r_cV C cwX4_34 (liftXs (c_X3_canStrike (by omega) hs (by omega))) dX4_strike_9 rfl (by omega) xput_st rfl rfl rfl (Nat.le_of_ble_eq_true rfl) ⟨Nat.le_of_ble_eq_true rfl, Nat.le_of_ble_eq_true rfl⟩ ⟨Nat.le_of_ble_eq_true rfl, Nat.le_of_ble_eq_true rfl⟩ ?_
  refine r_ifb_ne (tgt := 25) C dX4_strike_12 (by decide) (fun h12 => ?_) (fun h12 => ?_)
  · refine r_aload_n C dX4_strike_25 rfl rfl ?_
    refine r_get C flX4_19 dX4_strike_26 (by omega) xput_0 rfl ?_
    refine r_aload_n C dX4_strike_29 rfl rfl ?_
    refine r_get C flX4_10 dX4_strike_30 (by omega) xput_0 rfl ?_
    refine r_cVv C cwX4_45 (liftXv (c_X2_push (s := s) (by omega) (by omega) (by omega) (by omega) hs (xput_s s))) dX4_strike_33 rfl (by omega) xput_sv rfl rfl rfl (Nat.le_of_ble_eq_true rfl) ⟨Nat.le_of_ble_eq_true rfl, Nat.le_of_ble_eq_true rfl⟩ ⟨Nat.le_of_ble_eq_true rfl, Nat.le_of_ble_eq_true rfl⟩ ?_
    refine r_aload_n C dX4_strike_36 rfl rfl ?_
    refine r_get C flX4_10 dX4_strike_37 (by omega) xput_0 rfl ?_
    refine r_iload_n C dX4_strike_40 rfl rfl ?_
    refine r_cV C cwX4_49 (liftXs (c_X3_kindle (by omega) (by omega))) dX4_strike_41 rfl (by omega) xput_st rfl rfl rfl (Nat.le_of_ble_eq_true rfl) ⟨Nat.le_of_ble_eq_true rfl, Nat.le_of_ble_eq_true rfl⟩ ⟨Nat.le_of_ble_eq_true rfl, Nat.le_of_ble_eq_true rfl⟩ ?_
    exact r_iretD C dX4_strike_44 rfl rfl
  · exact absurd hm h12

set_option maxRecDepth 100000 in
set_option maxHeartbeats 4000000 in
theorem c_X4_light {l : Launch} {D : va_G} {ty : Nat → ClassId} {ad : Int → Nat} {N : Int} {σ : Int → va_E} {x n k len : Int} {u : Int → Int → Int} {s tx : Int → Int} {r o : Int} (hx : 0 ≤ x ∧ x + 145 ≤ N) (ho : okX s n u len tx) (hr : 0 ≤ r ∧ r < 6) (ho2 : 0 ≤ o ∧ o < 6) (hm : mayL s r o) : gM0 l yX4_light cX4_light 3 (some .int) 7 220 [.ref (ad x), .int (gI r), .int (gI o)] D ty ad N (xput ad ty σ x s n k u len tx) (some (.int (gI (rm s r 0)))) (xput ad ty σ x (light1 s r) (pshN n) (pshK n k) (pshU n k u s) (len) (tx)) := by
  refine gMet_of [some (.ref (ad x)), some (.int (gI r)), some (.int (gI o))] (by decide +kernel) rfl (Nat.le_of_ble_eq_true rfl) rfl ?_
  intro X hl hD hty C hini
  subst hl hD hty
  have hs := ho.1
  have hn := ho.2.1
  have ht := ho.2.2.2
  have hlen := ht.1
  refine r_iload_n C dX4_light_0 rfl rfl ?_
  refine r_cSv C cwX4_30 (c_X4_requireRoom (by omega)) dX4_light_1 rfl rfl rfl (Nat.le_of_ble_eq_true rfl) ⟨Nat.le_of_ble_eq_true rfl, Nat.le_of_ble_eq_true rfl⟩ ⟨Nat.le_of_ble_eq_true rfl, Nat.le_of_ble_eq_true rfl⟩ ?_
  refine r_iload_n C dX4_light_4 rfl rfl ?_
  refine r_cSv C cwX4_30 (c_X4_requireRoom (by omega)) dX4_light_5 rfl rfl rfl (Nat.le_of_ble_eq_true rfl) ⟨Nat.le_of_ble_eq_true rfl, Nat.le_of_ble_eq_true rfl⟩ ⟨Nat.le_of_ble_eq_true rfl, Nat.le_of_ble_eq_true rfl⟩ ?_
  refine r_aload_n C dX4_light_8 rfl rfl ?_
  refine r_get C flX4_10 dX4_light_9 (by omega) xput_0 rfl ?_
  refine r_iload_n C dX4_light_12 rfl rfl ?_
  refine r_iload_n C dX4_light_13 rfl rfl ?_
  refine r_cV C cwX4_53 (liftXs (c_X3_canLight (by omega) hs (by omega) (by omega))) dX4_light_14 rfl (by omega) xput_st rfl rfl rfl (Nat.le_of_ble_eq_true rfl) ⟨Nat.le_of_ble_eq_true rfl, Nat.le_of_ble_eq_true rfl⟩ ⟨Nat.le_of_ble_eq_true rfl, Nat.le_of_ble_eq_true rfl⟩ ?_
  refine r_ifb_ne (tgt := 30) C dX4_light_17 (by decide) (fun h17 => ?_) (fun h17 => ?_)
  · refine r_aload_n C dX4_light_30 rfl rfl ?_
    refine r_get C flX4_19 dX4_light_31 (by omega) xput_0 rfl ?_
    refine r_aload_n C dX4_light_34 rfl rfl ?_
    refine r_get C flX4_10 dX4_light_35 (by omega) xput_0 rfl ?_
    refine r_cVv C cwX4_45 (liftXv (c_X2_push (s := s) (by omega) (by omega) (by omega) (by omega) hs (xput_s s))) dX4_light_38 rfl (by omega) xput_sv rfl rfl rfl (Nat.le_of_ble_eq_true rfl) ⟨Nat.le_of_ble_eq_true rfl, Nat.le_of_ble_eq_true rfl⟩ ⟨Nat.le_of_ble_eq_true rfl, Nat.le_of_ble_eq_true rfl⟩ ?_
    refine r_aload_n C dX4_light_41 rfl rfl ?_
    refine r_get C flX4_10 dX4_light_42 (by omega) xput_0 rfl ?_
    refine r_iload_n C dX4_light_45 rfl rfl ?_
    refine r_cV C cwX4_49 (liftXs (c_X3_kindle (by omega) (by omega))) dX4_light_46 rfl (by omega) xput_st rfl rfl rfl (Nat.le_of_ble_eq_true rfl) ⟨Nat.le_of_ble_eq_true rfl, Nat.le_of_ble_eq_true rfl⟩ ⟨Nat.le_of_ble_eq_true rfl, Nat.le_of_ble_eq_true rfl⟩ ?_
    exact r_iretD C dX4_light_49 rfl rfl
  · exact absurd hm h17

set_option maxRecDepth 100000 in
set_option maxHeartbeats 4000000 in
theorem c_X4_fresh {l : Launch} {D : va_G} {ty : Nat → ClassId} {ad : Int → Nat} {N : Int} {σ : Int → va_E} {x n k len : Int} {u : Int → Int → Int} {s tx : Int → Int} {r : Int} (hx : 0 ≤ x ∧ x + 145 ≤ N) (ho : okX s n u len tx) (hr : 0 ≤ r ∧ r < 6) (hm : 0 < s 1) : gM0 l yX4_fresh cX4_fresh 2 (some .int) 7 220 [.ref (ad x), .int (gI r)] D ty ad N (xput ad ty σ x s n k u len tx) (some (.int (gI (s 1 - 1)))) (xput ad ty σ x (renew s r) (pshN n) (pshK n k) (pshU n k u s) (len) (tx)) := by
  refine gMet_of [some (.ref (ad x)), some (.int (gI r))] (by decide +kernel) rfl (Nat.le_of_ble_eq_true rfl) rfl ?_
  intro X hl hD hty C hini
  subst hl hD hty
  have hs := ho.1
  have hn := ho.2.1
  have ht := ho.2.2.2
  have hlen := ht.1
  refine r_iload_n C dX4_fresh_0 rfl rfl ?_
  refine r_cSv C cwX4_30 (c_X4_requireRoom (by omega)) dX4_fresh_1 rfl rfl rfl (Nat.le_of_ble_eq_true rfl) ⟨Nat.le_of_ble_eq_true rfl, Nat.le_of_ble_eq_true rfl⟩ ⟨Nat.le_of_ble_eq_true rfl, Nat.le_of_ble_eq_true rfl⟩ ?_
  refine r_aload_n C dX4_fresh_4 rfl rfl ?_
  refine r_get C flX4_10 dX4_fresh_5 (by omega) xput_0 rfl ?_
  refine r_cV C cwX4_59 (liftXs (c_X3_hasNewCandle (by omega) hs)) dX4_fresh_8 rfl (by omega) xput_st rfl rfl rfl (Nat.le_of_ble_eq_true rfl) ⟨Nat.le_of_ble_eq_true rfl, Nat.le_of_ble_eq_true rfl⟩ ⟨Nat.le_of_ble_eq_true rfl, Nat.le_of_ble_eq_true rfl⟩ ?_
  refine r_ifb_ne (tgt := 24) C dX4_fresh_11 (by decide) (fun h11 => ?_) (fun h11 => ?_)
  · refine r_aload_n C dX4_fresh_24 rfl rfl ?_
    refine r_get C flX4_19 dX4_fresh_25 (by omega) xput_0 rfl ?_
    refine r_aload_n C dX4_fresh_28 rfl rfl ?_
    refine r_get C flX4_10 dX4_fresh_29 (by omega) xput_0 rfl ?_
    refine r_cVv C cwX4_45 (liftXv (c_X2_push (s := s) (by omega) (by omega) (by omega) (by omega) hs (xput_s s))) dX4_fresh_32 rfl (by omega) xput_sv rfl rfl rfl (Nat.le_of_ble_eq_true rfl) ⟨Nat.le_of_ble_eq_true rfl, Nat.le_of_ble_eq_true rfl⟩ ⟨Nat.le_of_ble_eq_true rfl, Nat.le_of_ble_eq_true rfl⟩ ?_
    refine r_aload_n C dX4_fresh_35 rfl rfl ?_
    refine r_get C flX4_10 dX4_fresh_36 (by omega) xput_0 rfl ?_
    refine r_iload_n C dX4_fresh_39 rfl rfl ?_
    refine r_cV C cwX4_65 (liftXs (c_X3_putNewCandle (by omega) (by omega))) dX4_fresh_40 rfl (by omega) xput_st rfl rfl rfl (Nat.le_of_ble_eq_true rfl) ⟨Nat.le_of_ble_eq_true rfl, Nat.le_of_ble_eq_true rfl⟩ ⟨Nat.le_of_ble_eq_true rfl, Nat.le_of_ble_eq_true rfl⟩ ?_
    exact r_iretD C dX4_fresh_43 rfl rfl
  · exact absurd hm h11

set_option maxRecDepth 100000 in
set_option maxHeartbeats 4000000 in
theorem c_X4_door {l : Launch} {D : va_G} {ty : Nat → ClassId} {ad : Int → Nat} {N : Int} {σ : Int → va_E} {x n k len : Int} {u : Int → Int → Int} {s tx : Int → Int} {r z : Int} (hx : 0 ≤ x ∧ x + 145 ≤ N) (ho : okX s n u len tx) (hr : 0 ≤ r ∧ r < 6) (hz : z = 0 ∨ z = 1) : gM0 l yX4_door cX4_door 5 (some .int) 6 200 [.ref (ad x), .int (gI r), .int (gI z)] D ty ad N (xput ad ty σ x s n k u len tx) (some (.int (gI (rm s r 5)))) (xput ad ty σ x (up s (9 + 15 * r + 5) z) (pshN n) (pshK n k) (pshU n k u s) (len) (tx)) := by
  refine gMet_of [some (.ref (ad x)), some (.int (gI r)), some (.int (gI z)), none, none] (by decide +kernel) rfl (Nat.le_of_ble_eq_true rfl) rfl ?_
  intro X hl hD hty C hini
  subst hl hD hty
  have hs := ho.1
  have hn := ho.2.1
  have ht := ho.2.2.2
  have hlen := ht.1
  have hqd := (hs.rm hr).door
  have hrr : 0 ≤ r ∧ r < 6 := hr
  refine r_iload_n C dX4_door_0 rfl rfl ?_
  refine r_cS C cwX4_68 (c_X4_isRoom (by omega)) dX4_door_1 rfl rfl rfl (Nat.le_of_ble_eq_true rfl) ⟨Nat.le_of_ble_eq_true rfl, Nat.le_of_ble_eq_true rfl⟩ ⟨Nat.le_of_ble_eq_true rfl, Nat.le_of_ble_eq_true rfl⟩ ?_
  refine r_ifb_ne (tgt := 17) C dX4_door_4 (by decide) (fun h4 => ?_) (fun h4 => ?_)
  · refine r_aload_n C dX4_door_17 rfl rfl ?_
    refine r_get C flX4_19 dX4_door_18 (by omega) xput_0 rfl ?_
    refine r_aload_n C dX4_door_21 rfl rfl ?_
    refine r_get C flX4_10 dX4_door_22 (by omega) xput_0 rfl ?_
    refine r_cVv C cwX4_45 (liftXv (c_X2_push (s := s) (by omega) (by omega) (by omega) (by omega) hs (xput_s s))) dX4_door_25 rfl (by omega) xput_sv rfl rfl rfl (Nat.le_of_ble_eq_true rfl) ⟨Nat.le_of_ble_eq_true rfl, Nat.le_of_ble_eq_true rfl⟩ ⟨Nat.le_of_ble_eq_true rfl, Nat.le_of_ble_eq_true rfl⟩ ?_
    refine r_aload_n C dX4_door_28 rfl rfl ?_
    refine r_get C flX4_10 dX4_door_29 (by omega) xput_0 rfl ?_
    refine r_iload_n C dX4_door_32 rfl rfl ?_
    refine r_cV C cwX4_76 (liftXs (c_X3_roomAt0 (by omega) (by omega))) dX4_door_33 rfl (by omega) xput_st rfl rfl rfl (Nat.le_of_ble_eq_true rfl) ⟨Nat.le_of_ble_eq_true rfl, Nat.le_of_ble_eq_true rfl⟩ ⟨Nat.le_of_ble_eq_true rfl, Nat.le_of_ble_eq_true rfl⟩ ?_
    refine r_astore_n C dX4_door_36 rfl (Nat.le_of_ble_eq_true rfl) rfl ?_
    dsimp only [List.set]
    refine r_aload_n C dX4_door_37 rfl rfl ?_
    refine r_get C flX4_80 dX4_door_38 (by omega) (xput_rm (by omega)) rfl ?_
    refine r_istore C dX4_door_41 (Nat.le_of_ble_eq_true rfl) rfl ?_
    dsimp only [List.set]
    refine r_aload_n C dX4_door_43 rfl rfl ?_
    refine r_iload_n C dX4_door_44 rfl rfl ?_
    refine V_xs ?_
    refine sr_put (j := 5) C flX4_80 dX4_door_45 (by omega) (by omega) (by decide) rfl (by decide) rfl (gI_z (by omega)) (gI_f (by omega)) ?_
    refine V_xr ?_
    refine r_iload C dX4_door_48 rfl ?_
    refine r_cS C cwX4_86 (c_X4_asNumber (by omega)) dX4_door_50 rfl rfl rfl (Nat.le_of_ble_eq_true rfl) ⟨Nat.le_of_ble_eq_true rfl, Nat.le_of_ble_eq_true rfl⟩ ⟨Nat.le_of_ble_eq_true rfl, Nat.le_of_ble_eq_true rfl⟩ ?_
    exact r_iretD C dX4_door_53 rfl rfl
  · exact absurd hrr h4

set_option maxRecDepth 100000 in
set_option maxHeartbeats 4000000 in
theorem c_X4_shield {l : Launch} {D : va_G} {ty : Nat → ClassId} {ad : Int → Nat} {N : Int} {σ : Int → va_E} {x n k len : Int} {u : Int → Int → Int} {s tx : Int → Int} {r z : Int} (hx : 0 ≤ x ∧ x + 145 ≤ N) (ho : okX s n u len tx) (hr : 0 ≤ r ∧ r < 6) (hz : z = 0 ∨ z = 1) : gM0 l yX4_shield cX4_shield 5 (some .int) 7 220 [.ref (ad x), .int (gI r), .int (gI z)] D ty ad N (xput ad ty σ x s n k u len tx) (some (.int (gI (rm s r 3)))) (xput ad ty σ x (up s (9 + 15 * r + 3) z) (pshN n) (pshK n k) (pshU n k u s) (len) (tx)) := by
  refine gMet_of [some (.ref (ad x)), some (.int (gI r)), some (.int (gI z)), none, none] (by decide +kernel) rfl (Nat.le_of_ble_eq_true rfl) rfl ?_
  intro X hl hD hty C hini
  subst hl hD hty
  have hs := ho.1
  have hn := ho.2.1
  have ht := ho.2.2.2
  have hlen := ht.1
  have hqs := (hs.rm hr).shi
  refine r_iload_n C dX4_shield_0 rfl rfl ?_
  refine r_cSv C cwX4_30 (c_X4_requireRoom (by omega)) dX4_shield_1 rfl rfl rfl (Nat.le_of_ble_eq_true rfl) ⟨Nat.le_of_ble_eq_true rfl, Nat.le_of_ble_eq_true rfl⟩ ⟨Nat.le_of_ble_eq_true rfl, Nat.le_of_ble_eq_true rfl⟩ ?_
  refine r_aload_n C dX4_shield_4 rfl rfl ?_
  refine r_get C flX4_19 dX4_shield_5 (by omega) xput_0 rfl ?_
  refine r_aload_n C dX4_shield_8 rfl rfl ?_
  refine r_get C flX4_10 dX4_shield_9 (by omega) xput_0 rfl ?_
  refine r_cVv C cwX4_45 (liftXv (c_X2_push (s := s) (by omega) (by omega) (by omega) (by omega) hs (xput_s s))) dX4_shield_12 rfl (by omega) xput_sv rfl rfl rfl (Nat.le_of_ble_eq_true rfl) ⟨Nat.le_of_ble_eq_true rfl, Nat.le_of_ble_eq_true rfl⟩ ⟨Nat.le_of_ble_eq_true rfl, Nat.le_of_ble_eq_true rfl⟩ ?_
  refine r_aload_n C dX4_shield_15 rfl rfl ?_
  refine r_get C flX4_10 dX4_shield_16 (by omega) xput_0 rfl ?_
  refine r_iload_n C dX4_shield_19 rfl rfl ?_
  refine r_cV C cwX4_76 (liftXs (c_X3_roomAt0 (by omega) (by omega))) dX4_shield_20 rfl (by omega) xput_st rfl rfl rfl (Nat.le_of_ble_eq_true rfl) ⟨Nat.le_of_ble_eq_true rfl, Nat.le_of_ble_eq_true rfl⟩ ⟨Nat.le_of_ble_eq_true rfl, Nat.le_of_ble_eq_true rfl⟩ ?_
  refine r_astore_n C dX4_shield_23 rfl (Nat.le_of_ble_eq_true rfl) rfl ?_
  dsimp only [List.set]
  refine r_aload_n C dX4_shield_24 rfl rfl ?_
  refine r_get C flX4_90 dX4_shield_25 (by omega) (xput_rm (by omega)) rfl ?_
  refine r_istore C dX4_shield_28 (Nat.le_of_ble_eq_true rfl) rfl ?_
  dsimp only [List.set]
  refine r_aload_n C dX4_shield_30 rfl rfl ?_
  refine r_iload_n C dX4_shield_31 rfl rfl ?_
  refine V_xs ?_
  refine sr_put (j := 3) C flX4_90 dX4_shield_32 (by omega) (by omega) (by decide) rfl (by decide) rfl (gI_z (by omega)) (gI_f (by omega)) ?_
  refine V_xr ?_
  refine r_iload C dX4_shield_35 rfl ?_
  refine r_cS C cwX4_86 (c_X4_asNumber (by omega)) dX4_shield_37 rfl rfl rfl (Nat.le_of_ble_eq_true rfl) ⟨Nat.le_of_ble_eq_true rfl, Nat.le_of_ble_eq_true rfl⟩ ⟨Nat.le_of_ble_eq_true rfl, Nat.le_of_ble_eq_true rfl⟩ ?_
  exact r_iretD C dX4_shield_40 rfl rfl

set_option maxRecDepth 100000 in
set_option maxHeartbeats 4000000 in
theorem c_X4_draught {l : Launch} {D : va_G} {ty : Nat → ClassId} {ad : Int → Nat} {N : Int} {σ : Int → va_E} {x n k len : Int} {u : Int → Int → Int} {s tx : Int → Int} {r t : Int} (hx : 0 ≤ x ∧ x + 145 ≤ N) (ho : okX s n u len tx) (hr : 0 ≤ r ∧ r < 6) (ht2 : 1 ≤ t ∧ t ≤ 6) : gM0 l yX4_draught cX4_draught 3 (some .int) 7 220 [.ref (ad x), .int (gI r), .int (gI t)] D ty ad N (xput ad ty σ x s n k u len tx) (some (.int (gI (cbF (draS s r t) r (blown (draS s r t)))))) (xput ad ty σ x (draS s r t) (pshN n) (pshK n k) (pshU n k u s) (len) (tx)) := by
  refine gMet_of [some (.ref (ad x)), some (.int (gI r)), some (.int (gI t))] (by decide +kernel) rfl (Nat.le_of_ble_eq_true rfl) rfl ?_
  intro X hl hD hty C hini
  subst hl hD hty
  have hs := ho.1
  have hn := ho.2.1
  have ht := ho.2.2.2
  have hlen := ht.1
  refine r_iload_n C dX4_draught_0 rfl rfl ?_
  refine r_cSv C cwX4_30 (c_X4_requireRoom (by omega)) dX4_draught_1 rfl rfl rfl (Nat.le_of_ble_eq_true rfl) ⟨Nat.le_of_ble_eq_true rfl, Nat.le_of_ble_eq_true rfl⟩ ⟨Nat.le_of_ble_eq_true rfl, Nat.le_of_ble_eq_true rfl⟩ ?_
  refine r_iload_n C dX4_draught_4 rfl rfl ?_
  refine r_iconst C dX4_draught_5 ?_
  refine r_icmp_lt (tgt := 15) C dX4_draught_6 (by decide) (by omega) (by omega) (fun h6 => ?_) (fun h6 => ?_)
  · exact absurd h6 (by omega)
  · refine r_iload_n C dX4_draught_9 rfl rfl ?_
    refine r_bipush C dX4_draught_10 (by decide) ?_
    refine r_icmp_le (tgt := 25) C dX4_draught_12 (by decide) (by omega) (by omega) (fun h12 => ?_) (fun h12 => ?_)
    · refine r_aload_n C dX4_draught_25 rfl rfl ?_
      refine r_get C flX4_19 dX4_draught_26 (by omega) xput_0 rfl ?_
      refine r_aload_n C dX4_draught_29 rfl rfl ?_
      refine r_get C flX4_10 dX4_draught_30 (by omega) xput_0 rfl ?_
      refine r_cVv C cwX4_45 (liftXv (c_X2_push (s := s) (by omega) (by omega) (by omega) (by omega) hs (xput_s s))) dX4_draught_33 rfl (by omega) xput_sv rfl rfl rfl (Nat.le_of_ble_eq_true rfl) ⟨Nat.le_of_ble_eq_true rfl, Nat.le_of_ble_eq_true rfl⟩ ⟨Nat.le_of_ble_eq_true rfl, Nat.le_of_ble_eq_true rfl⟩ ?_
      refine r_aload_n C dX4_draught_36 rfl rfl ?_
      refine r_get C flX4_10 dX4_draught_37 (by omega) xput_0 rfl ?_
      refine r_iload_n C dX4_draught_40 rfl rfl ?_
      refine r_iload_n C dX4_draught_41 rfl rfl ?_
      refine r_cV C cwX4_98 (liftXs (c_X3_beginDraught (by omega) hs (by omega) (by omega))) dX4_draught_42 rfl (by omega) xput_st rfl rfl rfl (Nat.le_of_ble_eq_true rfl) ⟨Nat.le_of_ble_eq_true rfl, Nat.le_of_ble_eq_true rfl⟩ ⟨Nat.le_of_ble_eq_true rfl, Nat.le_of_ble_eq_true rfl⟩ ?_
      exact r_iretD C dX4_draught_45 rfl rfl
    · exact absurd h12 (by omega)

set_option maxRecDepth 100000 in
set_option maxHeartbeats 4000000 in
theorem c_X4_set {l : Launch} {D : va_G} {ty : Nat → ClassId} {ad : Int → Nat} {N : Int} {σ : Int → va_E} {x n k len : Int} {u : Int → Int → Int} {s tx : Int → Int} {z : Int} (hx : 0 ≤ x ∧ x + 145 ≤ N) (ho : okX s n u len tx) (hz : 1 ≤ z ∧ z ≤ 50) : gM0 l yX4_set cX4_set 3 (some .int) 6 200 [.ref (ad x), .int (gI z)] D ty ad N (xput ad ty σ x s n k u len tx) (some (.int (gI (s 0)))) (xput ad ty σ x (up s 0 z) (pshN n) (pshK n k) (pshU n k u s) (len) (tx)) := by
  refine gMet_of [some (.ref (ad x)), some (.int (gI z)), none] (by decide +kernel) rfl (Nat.le_of_ble_eq_true rfl) rfl ?_
  intro X hl hD hty C hini
  subst hl hD hty
  have hs := ho.1
  have hn := ho.2.1
  have ht := ho.2.2.2
  have hlen := ht.1
  refine r_iload_n C dX4_set_0 rfl rfl ?_
  refine r_iconst C dX4_set_1 ?_
  refine r_icmp_lt (tgt := 11) C dX4_set_2 (by decide) (by omega) (by omega) (fun h2 => ?_) (fun h2 => ?_)
  · exact absurd h2 (by omega)
  · refine r_iload_n C dX4_set_5 rfl rfl ?_
    refine r_bipush C dX4_set_6 (by decide) ?_
    refine r_icmp_le (tgt := 21) C dX4_set_8 (by decide) (by omega) (by omega) (fun h8 => ?_) (fun h8 => ?_)
    · refine r_aload_n C dX4_set_21 rfl rfl ?_
      refine r_get C flX4_19 dX4_set_22 (by omega) xput_0 rfl ?_
      refine r_aload_n C dX4_set_25 rfl rfl ?_
      refine r_get C flX4_10 dX4_set_26 (by omega) xput_0 rfl ?_
      refine r_cVv C cwX4_45 (liftXv (c_X2_push (s := s) (by omega) (by omega) (by omega) (by omega) hs (xput_s s))) dX4_set_29 rfl (by omega) xput_sv rfl rfl rfl (Nat.le_of_ble_eq_true rfl) ⟨Nat.le_of_ble_eq_true rfl, Nat.le_of_ble_eq_true rfl⟩ ⟨Nat.le_of_ble_eq_true rfl, Nat.le_of_ble_eq_true rfl⟩ ?_
      refine r_aload_n C dX4_set_32 rfl rfl ?_
      refine r_get C flX4_10 dX4_set_33 (by omega) xput_0 rfl ?_
      refine r_get C flX4_104 dX4_set_36 (by omega) xput_st rfl ?_
      refine r_istore_n C dX4_set_39 rfl (Nat.le_of_ble_eq_true rfl) rfl ?_
      dsimp only [List.set]
      refine r_aload_n C dX4_set_40 rfl rfl ?_
      refine r_get C flX4_10 dX4_set_41 (by omega) xput_0 rfl ?_
      refine r_iload_n C dX4_set_44 rfl rfl ?_
      refine V_xs ?_
      refine ss_put (j := 0) C flX4_104 dX4_set_45 (by omega) (by decide) rfl rfl rfl rfl ?_
      refine V_xr ?_
      refine r_iload_n C dX4_set_48 rfl rfl ?_
      exact r_iretD C dX4_set_49 rfl rfl
    · exact absurd h8 (by omega)

set_option maxRecDepth 100000 in
set_option maxHeartbeats 4000000 in
theorem c_X4_keep {l : Launch} {D : va_G} {ty : Nat → ClassId} {ad : Int → Nat} {N : Int} {σ : Int → va_E} {x n k len : Int} {u : Int → Int → Int} {s tx : Int → Int} {r key : Int} (hx : 0 ≤ x ∧ x + 145 ≤ N) (ho : okX s n u len tx) (hr : 0 ≤ r ∧ r < 6) (hk : 0 ≤ key ∧ key < 100) (hm : mayK s r key) : gM0 l yX4_keep cX4_keep 3 (some .int) 7 220 [.ref (ad x), .int (gI r), .int (gI key)] D ty ad N (xput ad ty σ x s n k u len tx) (some (.int (gI (rm s r 6 + 1)))) (xput ad ty σ x (keepS s r key) (pshN n) (pshK n k) (pshU n k u s) (len) (tx)) := by
  refine gMet_of [some (.ref (ad x)), some (.int (gI r)), some (.int (gI key))] (by decide +kernel) rfl (Nat.le_of_ble_eq_true rfl) rfl ?_
  intro X hl hD hty C hini
  subst hl hD hty
  have hs := ho.1
  have hn := ho.2.1
  have ht := ho.2.2.2
  have hlen := ht.1
  have hqm := (hs.rm hr).many
  have hm2 := hm.2
  refine r_iload_n C dX4_keep_0 rfl rfl ?_
  refine r_cSv C cwX4_30 (c_X4_requireRoom (by omega)) dX4_keep_1 rfl rfl rfl (Nat.le_of_ble_eq_true rfl) ⟨Nat.le_of_ble_eq_true rfl, Nat.le_of_ble_eq_true rfl⟩ ⟨Nat.le_of_ble_eq_true rfl, Nat.le_of_ble_eq_true rfl⟩ ?_
  refine r_iload_n C dX4_keep_4 rfl rfl ?_
  refine r_cSv C cwX4_108 (c_X4_requireKey (by omega)) dX4_keep_5 rfl rfl rfl (Nat.le_of_ble_eq_true rfl) ⟨Nat.le_of_ble_eq_true rfl, Nat.le_of_ble_eq_true rfl⟩ ⟨Nat.le_of_ble_eq_true rfl, Nat.le_of_ble_eq_true rfl⟩ ?_
  refine r_aload_n C dX4_keep_8 rfl rfl ?_
  refine r_get C flX4_10 dX4_keep_9 (by omega) xput_0 rfl ?_
  refine r_iload_n C dX4_keep_12 rfl rfl ?_
  refine r_iload_n C dX4_keep_13 rfl rfl ?_
  refine r_cV C cwX4_111 (liftXs (c_X3_canKeep (by omega) hs (by omega) (by omega))) dX4_keep_14 rfl (by omega) xput_st rfl rfl rfl (Nat.le_of_ble_eq_true rfl) ⟨Nat.le_of_ble_eq_true rfl, Nat.le_of_ble_eq_true rfl⟩ ⟨Nat.le_of_ble_eq_true rfl, Nat.le_of_ble_eq_true rfl⟩ ?_
  refine r_ifb_ne (tgt := 30) C dX4_keep_17 (by decide) (fun h17 => ?_) (fun h17 => ?_)
  · refine r_aload_n C dX4_keep_30 rfl rfl ?_
    refine r_get C flX4_19 dX4_keep_31 (by omega) xput_0 rfl ?_
    refine r_aload_n C dX4_keep_34 rfl rfl ?_
    refine r_get C flX4_10 dX4_keep_35 (by omega) xput_0 rfl ?_
    refine r_cVv C cwX4_45 (liftXv (c_X2_push (s := s) (by omega) (by omega) (by omega) (by omega) hs (xput_s s))) dX4_keep_38 rfl (by omega) xput_sv rfl rfl rfl (Nat.le_of_ble_eq_true rfl) ⟨Nat.le_of_ble_eq_true rfl, Nat.le_of_ble_eq_true rfl⟩ ⟨Nat.le_of_ble_eq_true rfl, Nat.le_of_ble_eq_true rfl⟩ ?_
    refine r_aload_n C dX4_keep_41 rfl rfl ?_
    refine r_get C flX4_10 dX4_keep_42 (by omega) xput_0 rfl ?_
    refine r_iload_n C dX4_keep_45 rfl rfl ?_
    refine r_iload_n C dX4_keep_46 rfl rfl ?_
    refine r_cV C cwX4_116 (liftXs (c_X3_putThing (by omega) (by omega) (by omega))) dX4_keep_47 rfl (by omega) xput_st rfl rfl rfl (Nat.le_of_ble_eq_true rfl) ⟨Nat.le_of_ble_eq_true rfl, Nat.le_of_ble_eq_true rfl⟩ ⟨Nat.le_of_ble_eq_true rfl, Nat.le_of_ble_eq_true rfl⟩ ?_
    exact r_iretD C dX4_keep_50 rfl rfl
  · exact absurd hm h17

set_option maxRecDepth 100000 in
set_option maxHeartbeats 4000000 in
theorem c_X4_read {l : Launch} {D : va_G} {ty : Nat → ClassId} {ad : Int → Nat} {N : Int} {σ : Int → va_E} {x n k len : Int} {u : Int → Int → Int} {s tx : Int → Int} {key : Int} (hx : 0 ≤ x ∧ x + 145 ≤ N) (ho : okX s n u len tx) (hk : 0 ≤ key ∧ key < 100) : gM0 l yX4_read cX4_read 2 (some .int) 7 220 [.ref (ad x), .int (gI key)] D ty ad N (xput ad ty σ x s n k u len tx) (some (.int (gI (rof s key)))) (xput ad ty σ x (rdS s key) (pshN n) (pshK n k) (pshU n k u s) (len) (tx)) := by
  refine gMet_of [some (.ref (ad x)), some (.int (gI key))] (by decide +kernel) rfl (Nat.le_of_ble_eq_true rfl) rfl ?_
  intro X hl hD hty C hini
  subst hl hD hty
  have hs := ho.1
  have hn := ho.2.1
  have ht := ho.2.2.2
  have hlen := ht.1
  refine r_iload_n C dX4_read_0 rfl rfl ?_
  refine r_cSv C cwX4_108 (c_X4_requireKey (by omega)) dX4_read_1 rfl rfl rfl (Nat.le_of_ble_eq_true rfl) ⟨Nat.le_of_ble_eq_true rfl, Nat.le_of_ble_eq_true rfl⟩ ⟨Nat.le_of_ble_eq_true rfl, Nat.le_of_ble_eq_true rfl⟩ ?_
  refine r_aload_n C dX4_read_4 rfl rfl ?_
  refine r_get C flX4_19 dX4_read_5 (by omega) xput_0 rfl ?_
  refine r_aload_n C dX4_read_8 rfl rfl ?_
  refine r_get C flX4_10 dX4_read_9 (by omega) xput_0 rfl ?_
  refine r_cVv C cwX4_45 (liftXv (c_X2_push (s := s) (by omega) (by omega) (by omega) (by omega) hs (xput_s s))) dX4_read_12 rfl (by omega) xput_sv rfl rfl rfl (Nat.le_of_ble_eq_true rfl) ⟨Nat.le_of_ble_eq_true rfl, Nat.le_of_ble_eq_true rfl⟩ ⟨Nat.le_of_ble_eq_true rfl, Nat.le_of_ble_eq_true rfl⟩ ?_
  refine r_aload_n C dX4_read_15 rfl rfl ?_
  refine r_get C flX4_10 dX4_read_16 (by omega) xput_0 rfl ?_
  refine r_iload_n C dX4_read_19 rfl rfl ?_
  refine r_cV C cwX4_119 (liftXs (c_X3_readThing (by omega) hs (by omega))) dX4_read_20 rfl (by omega) xput_st rfl rfl rfl (Nat.le_of_ble_eq_true rfl) ⟨Nat.le_of_ble_eq_true rfl, Nat.le_of_ble_eq_true rfl⟩ ⟨Nat.le_of_ble_eq_true rfl, Nat.le_of_ble_eq_true rfl⟩ ?_
  exact r_iretD C dX4_read_23 rfl rfl

set_option maxRecDepth 100000 in
set_option maxHeartbeats 4000000 in
theorem c_X4_pass {l : Launch} {D : va_G} {ty : Nat → ClassId} {ad : Int → Nat} {N : Int} {σ : Int → va_E} {x n k len : Int} {u : Int → Int → Int} {s tx : Int → Int} {z : Int} (hx : 0 ≤ x ∧ x + 145 ≤ N) (ho : okX s n u len tx) (hz : 1 ≤ z ∧ z ≤ 60) : gM0 l yX4_pass cX4_pass 2 (some .int) 6 200 [.ref (ad x), .int (gI z)] D ty ad N (xput ad ty σ x s n k u len tx) (some (.int (gI (bts z.toNat s 0).2))) (xput ad ty σ x ((bts z.toNat s 0).1) (pshN n) (pshK n k) (pshU n k u s) (len) (tx)) := by
  refine gMet_of [some (.ref (ad x)), some (.int (gI z))] (by decide +kernel) rfl (Nat.le_of_ble_eq_true rfl) rfl ?_
  intro X hl hD hty C hini
  subst hl hD hty
  have hs := ho.1
  have hn := ho.2.1
  have ht := ho.2.2.2
  have hlen := ht.1
  refine r_iload_n C dX4_pass_0 rfl rfl ?_
  refine r_iconst C dX4_pass_1 ?_
  refine r_icmp_lt (tgt := 11) C dX4_pass_2 (by decide) (by omega) (by omega) (fun h2 => ?_) (fun h2 => ?_)
  · exact absurd h2 (by omega)
  · refine r_iload_n C dX4_pass_5 rfl rfl ?_
    refine r_bipush C dX4_pass_6 (by decide) ?_
    refine r_icmp_le (tgt := 21) C dX4_pass_8 (by decide) (by omega) (by omega) (fun h8 => ?_) (fun h8 => ?_)
    · refine r_aload_n C dX4_pass_21 rfl rfl ?_
      refine r_get C flX4_19 dX4_pass_22 (by omega) xput_0 rfl ?_
      refine r_aload_n C dX4_pass_25 rfl rfl ?_
      refine r_get C flX4_10 dX4_pass_26 (by omega) xput_0 rfl ?_
      refine r_cVv C cwX4_45 (liftXv (c_X2_push (s := s) (by omega) (by omega) (by omega) (by omega) hs (xput_s s))) dX4_pass_29 rfl (by omega) xput_sv rfl rfl rfl (Nat.le_of_ble_eq_true rfl) ⟨Nat.le_of_ble_eq_true rfl, Nat.le_of_ble_eq_true rfl⟩ ⟨Nat.le_of_ble_eq_true rfl, Nat.le_of_ble_eq_true rfl⟩ ?_
      refine r_aload_n C dX4_pass_32 rfl rfl ?_
      refine r_get C flX4_10 dX4_pass_33 (by omega) xput_0 rfl ?_
      refine r_iload_n C dX4_pass_36 rfl rfl ?_
      refine r_cV C cwX4_124 (liftXs (c_X3_passBeats (by omega) hs (by omega))) dX4_pass_37 rfl (by omega) xput_st rfl rfl rfl (Nat.le_of_ble_eq_true rfl) ⟨Nat.le_of_ble_eq_true rfl, Nat.le_of_ble_eq_true rfl⟩ ⟨Nat.le_of_ble_eq_true rfl, Nat.le_of_ble_eq_true rfl⟩ ?_
      exact r_iretD C dX4_pass_40 rfl rfl
    · exact absurd h8 (by omega)

set_option maxRecDepth 100000 in
set_option maxHeartbeats 4000000 in
theorem c_X4_undo {l : Launch} {D : va_G} {ty : Nat → ClassId} {ad : Int → Nat} {N : Int} {σ : Int → va_E} {x n k len : Int} {u : Int → Int → Int} {s tx : Int → Int} (hx : 0 ≤ x ∧ x + 145 ≤ N) (ho : okX s n u len tx) (hn1 : 1 ≤ n) : gM0 l yX4_undo cX4_undo 1 (some .int) 6 200 [.ref (ad x)] D ty ad N (xput ad ty σ x s n k u len tx) (some (.int (gI (n - 1)))) (xput ad ty σ x (u ((n - 1 + k) % 6)) (n - 1) k u len tx) := by
  refine gMet_of [some (.ref (ad x))] (by decide +kernel) rfl (Nat.le_of_ble_eq_true rfl) rfl ?_
  intro X hl hD hty C hini
  subst hl hD hty
  have hs := ho.1
  have hn := ho.2.1
  have ht := ho.2.2.2
  have hlen := ht.1
  have hu := ho.2.2.1 ((n - 1 + k) % 6) (by omega) (by omega)
  refine r_aload_n C dX4_undo_0 rfl rfl ?_
  refine r_get C flX4_19 dX4_undo_1 (by omega) xput_0 rfl ?_
  refine r_get C flX4_153 dX4_undo_4 (by omega) xput_sv rfl ?_
  refine r_if_ne (tgt := 20) C dX4_undo_7 (by decide) (by omega) (fun h7 => ?_) (fun h7 => ?_)
  · refine r_aload_n C dX4_undo_20 rfl rfl ?_
    refine r_get C flX4_19 dX4_undo_21 (by omega) xput_0 rfl ?_
    refine r_aload_n C dX4_undo_24 rfl rfl ?_
    refine r_get C flX4_10 dX4_undo_25 (by omega) xput_0 rfl ?_
    refine r_cV C cwX4_158 (liftXp (c_X2_popInto (by omega) (by omega) (by omega) (by omega) hu)) dX4_undo_28 rfl (by omega) xput_sv rfl rfl rfl (Nat.le_of_ble_eq_true rfl) ⟨Nat.le_of_ble_eq_true rfl, Nat.le_of_ble_eq_true rfl⟩ ⟨Nat.le_of_ble_eq_true rfl, Nat.le_of_ble_eq_true rfl⟩ ?_
    exact r_iretD C dX4_undo_31 rfl rfl
  · exact absurd h7 (by omega)

set_option maxRecDepth 100000 in
set_option maxHeartbeats 4000000 in
theorem c_X4_room {l : Launch} {D : va_G} {ty : Nat → ClassId} {ad : Int → Nat} {N : Int} {σ : Int → va_E} {x n k len : Int} {u : Int → Int → Int} {s tx : Int → Int} {r w : Int} (hx : 0 ≤ x ∧ x + 145 ≤ N) (ho : okX s n u len tx) (hr : 0 ≤ r ∧ r < 6) (hw : 0 ≤ w ∧ w < 8) : gM0 l yX4_room cX4_room 3 (some .int) 7 221 [.ref (ad x), .int (gI r), .int (gI w)] D ty ad N (xput ad ty σ x s n k u len tx) (some (.int (gI (numR (rm s r) w)))) (xput ad ty σ x s n k u len tx) := by
  refine gMet_of [some (.ref (ad x)), some (.int (gI r)), some (.int (gI w))] (by decide +kernel) rfl (Nat.le_of_ble_eq_true rfl) rfl ?_
  intro X hl hD hty C hini
  subst hl hD hty
  have hs := ho.1
  have hn := ho.2.1
  have ht := ho.2.2.2
  have hlen := ht.1
  have hq := hs.rm hr
  have hqm := hq.many
  refine r_iload_n C dX4_room_0 rfl rfl ?_
  refine r_cSv C cwX4_30 (c_X4_requireRoom (by omega)) dX4_room_1 rfl rfl rfl (Nat.le_of_ble_eq_true rfl) ⟨Nat.le_of_ble_eq_true rfl, Nat.le_of_ble_eq_true rfl⟩ ⟨Nat.le_of_ble_eq_true rfl, Nat.le_of_ble_eq_true rfl⟩ ?_
  refine r_iload_n C dX4_room_4 rfl rfl ?_
  refine r_bipush C dX4_room_5 (by decide) ?_
  refine r_cSv C cwX4_162 (c_X4_requireNumber (by omega) (by omega)) dX4_room_7 rfl rfl rfl (Nat.le_of_ble_eq_true rfl) ⟨Nat.le_of_ble_eq_true rfl, Nat.le_of_ble_eq_true rfl⟩ ⟨Nat.le_of_ble_eq_true rfl, Nat.le_of_ble_eq_true rfl⟩ ?_
  refine r_aload_n C dX4_room_10 rfl rfl ?_
  refine r_get C flX4_10 dX4_room_11 (by omega) xput_0 rfl ?_
  refine r_iload_n C dX4_room_14 rfl rfl ?_
  refine r_cV C cwX4_76 (liftXs (c_X3_roomAt0 (by omega) (by omega))) dX4_room_15 rfl (by omega) xput_st rfl rfl rfl (Nat.le_of_ble_eq_true rfl) ⟨Nat.le_of_ble_eq_true rfl, Nat.le_of_ble_eq_true rfl⟩ ⟨Nat.le_of_ble_eq_true rfl, Nat.le_of_ble_eq_true rfl⟩ ?_
  refine r_iload_n C dX4_room_18 rfl rfl ?_
  refine r_cV C cwX4_166 (liftXs (lift0 hr (c_X1_number (by omega) hw hqm hq.bur hq.shi hq.door))) dX4_room_19 rfl (by omega) (xput_rm (by omega)) rfl rfl rfl (Nat.le_of_ble_eq_true rfl) ⟨Nat.le_of_ble_eq_true rfl, Nat.le_of_ble_eq_true rfl⟩ ⟨Nat.le_of_ble_eq_true rfl, Nat.le_of_ble_eq_true rfl⟩ ?_
  exact r_iretD C dX4_room_22 rfl rfl

set_option maxRecDepth 100000 in
set_option maxHeartbeats 4000000 in
theorem c_X4_thing {l : Launch} {D : va_G} {ty : Nat → ClassId} {ad : Int → Nat} {N : Int} {σ : Int → va_E} {x n k len : Int} {u : Int → Int → Int} {s tx : Int → Int} {key w : Int} (hx : 0 ≤ x ∧ x + 145 ≤ N) (ho : okX s n u len tx) (hk : 0 ≤ key ∧ key < 100) (hw : 0 ≤ w ∧ w < 3) : gM0 l yX4_thing cX4_thing 3 (some .int) 7 221 [.ref (ad x), .int (gI key), .int (gI w)] D ty ad N (xput ad ty σ x s n k u len tx) (some (.int (gI (thn s key w)))) (xput ad ty σ x s n k u len tx) := by
  refine gMet_of [some (.ref (ad x)), some (.int (gI key)), some (.int (gI w))] (by decide +kernel) rfl (Nat.le_of_ble_eq_true rfl) rfl ?_
  intro X hl hD hty C hini
  subst hl hD hty
  have hs := ho.1
  have hn := ho.2.1
  have ht := ho.2.2.2
  have hlen := ht.1
  refine r_iload_n C dX4_thing_0 rfl rfl ?_
  refine r_cSv C cwX4_108 (c_X4_requireKey (by omega)) dX4_thing_1 rfl rfl rfl (Nat.le_of_ble_eq_true rfl) ⟨Nat.le_of_ble_eq_true rfl, Nat.le_of_ble_eq_true rfl⟩ ⟨Nat.le_of_ble_eq_true rfl, Nat.le_of_ble_eq_true rfl⟩ ?_
  refine r_iload_n C dX4_thing_4 rfl rfl ?_
  refine r_iconst C dX4_thing_5 ?_
  refine r_cSv C cwX4_162 (c_X4_requireNumber (by omega) (by omega)) dX4_thing_6 rfl rfl rfl (Nat.le_of_ble_eq_true rfl) ⟨Nat.le_of_ble_eq_true rfl, Nat.le_of_ble_eq_true rfl⟩ ⟨Nat.le_of_ble_eq_true rfl, Nat.le_of_ble_eq_true rfl⟩ ?_
  refine r_aload_n C dX4_thing_9 rfl rfl ?_
  refine r_get C flX4_10 dX4_thing_10 (by omega) xput_0 rfl ?_
  refine r_iload_n C dX4_thing_13 rfl rfl ?_
  refine r_iload_n C dX4_thing_14 rfl rfl ?_
  refine r_cV C cwX4_169 (liftXs (c_X3_thingNumber (by omega) hs (by omega) (by omega))) dX4_thing_15 rfl (by omega) xput_st rfl rfl rfl (Nat.le_of_ble_eq_true rfl) ⟨Nat.le_of_ble_eq_true rfl, Nat.le_of_ble_eq_true rfl⟩ ⟨Nat.le_of_ble_eq_true rfl, Nat.le_of_ble_eq_true rfl⟩ ?_
  exact r_iretD C dX4_thing_18 rfl rfl

def cntX (s : Int → Int) (n w : Int) : Int := if w = 0 then s 2 else if w = 1 then s 1 else if w = 2 then cb s else if w = 3 then thg s else if w = 4 then s 3 else if w = 5 then s 4 else if w = 6 then s 5 else if w = 7 then s 6 else if w = 8 then s 7 else if w = 9 then s 8 else if w = 10 then s 0 else n
set_option maxRecDepth 100000 in
set_option maxHeartbeats 4000000 in
theorem c_X4_countNumber {l : Launch} {D : va_G} {ty : Nat → ClassId} {ad : Int → Nat} {N : Int} {σ : Int → va_E} {x n k len : Int} {u : Int → Int → Int} {s tx : Int → Int} {w : Int} (hx : 0 ≤ x ∧ x + 145 ≤ N) (ho : okX s n u len tx) (hw0 : 0 ≤ w ∧ w < 12) : gM0 l yX4_countNumber cX4_countNumber 2 (some .int) 2 42 [.ref (ad x), .int (gI w)] D ty ad N (xput ad ty σ x s n k u len tx) (some (.int (gI (cntX s n w)))) (xput ad ty σ x s n k u len tx) := by
  refine gMet_of [some (.ref (ad x)), some (.int (gI w))] (by decide +kernel) rfl (Nat.le_of_ble_eq_true rfl) rfl ?_
  intro X hl hD hty C hini
  subst hl hD hty
  have hs := ho.1
  have hn := ho.2.1
  have ht := ho.2.2.2
  have hlen := ht.1
  refine r_iload_n C dX4_countNumber_0 rfl rfl ?_
  rcases (show (w = 0 ∨ w = 1 ∨ w = 2 ∨ w = 3 ∨ w = 4 ∨ w = 5 ∨ w = 6 ∨ w = 7 ∨ w = 8 ∨ w = 9 ∨ w = 10) ∨ (w < 0 ∨ 10 < w) by omega) with (hw | hw | hw | hw | hw | hw | hw | hw | hw | hw | hw) | hw
  · refine r_tabIn (tgt := 60) C dX4_countNumber_1 (by omega) (by omega) (by omega) (by rw [hw]; rfl) (by decide) ?_
    refine r_aload_n C dX4_countNumber_60 rfl rfl ?_
    refine r_get C flX4_10 dX4_countNumber_61 (by omega) xput_0 rfl ?_
    refine r_get C flX4_220 dX4_countNumber_64 (by omega) xput_st rfl ?_
    exact r_iretD C dX4_countNumber_67 (by first | (subst hw; rfl) | (rw [show w = 11 by omega]; rfl)) rfl
  · refine r_tabIn (tgt := 68) C dX4_countNumber_1 (by omega) (by omega) (by omega) (by rw [hw]; rfl) (by decide) ?_
    refine r_aload_n C dX4_countNumber_68 rfl rfl ?_
    refine r_get C flX4_10 dX4_countNumber_69 (by omega) xput_0 rfl ?_
    refine r_get C flX4_223 dX4_countNumber_72 (by omega) xput_st rfl ?_
    exact r_iretD C dX4_countNumber_75 (by first | (subst hw; rfl) | (rw [show w = 11 by omega]; rfl)) rfl
  · refine r_tabIn (tgt := 76) C dX4_countNumber_1 (by omega) (by omega) (by omega) (by rw [hw]; rfl) (by decide) ?_
    refine r_aload_n C dX4_countNumber_76 rfl rfl ?_
    refine r_get C flX4_10 dX4_countNumber_77 (by omega) xput_0 rfl ?_
    refine r_cV C cwX4_226 (liftXs (c_X3_candlesBurning (by omega) hs)) dX4_countNumber_80 rfl (by omega) xput_st rfl rfl rfl (Nat.le_of_ble_eq_true rfl) ⟨Nat.le_of_ble_eq_true rfl, Nat.le_of_ble_eq_true rfl⟩ ⟨Nat.le_of_ble_eq_true rfl, Nat.le_of_ble_eq_true rfl⟩ ?_
    exact r_iretD C dX4_countNumber_83 (by first | (subst hw; rfl) | (rw [show w = 11 by omega]; rfl)) rfl
  · refine r_tabIn (tgt := 84) C dX4_countNumber_1 (by omega) (by omega) (by omega) (by rw [hw]; rfl) (by decide) ?_
    refine r_aload_n C dX4_countNumber_84 rfl rfl ?_
    refine r_get C flX4_10 dX4_countNumber_85 (by omega) xput_0 rfl ?_
    refine r_cV C cwX4_229 (liftXs (c_X3_thingsInAll (by omega) hs)) dX4_countNumber_88 rfl (by omega) xput_st rfl rfl rfl (Nat.le_of_ble_eq_true rfl) ⟨Nat.le_of_ble_eq_true rfl, Nat.le_of_ble_eq_true rfl⟩ ⟨Nat.le_of_ble_eq_true rfl, Nat.le_of_ble_eq_true rfl⟩ ?_
    exact r_iretD C dX4_countNumber_91 (by first | (subst hw; rfl) | (rw [show w = 11 by omega]; rfl)) rfl
  · refine r_tabIn (tgt := 92) C dX4_countNumber_1 (by omega) (by omega) (by omega) (by rw [hw]; rfl) (by decide) ?_
    refine r_aload_n C dX4_countNumber_92 rfl rfl ?_
    refine r_get C flX4_10 dX4_countNumber_93 (by omega) xput_0 rfl ?_
    refine r_get C flX4_232 dX4_countNumber_96 (by omega) xput_st rfl ?_
    exact r_iretD C dX4_countNumber_99 (by first | (subst hw; rfl) | (rw [show w = 11 by omega]; rfl)) rfl
  · refine r_tabIn (tgt := 100) C dX4_countNumber_1 (by omega) (by omega) (by omega) (by rw [hw]; rfl) (by decide) ?_
    refine r_aload_n C dX4_countNumber_100 rfl rfl ?_
    refine r_get C flX4_10 dX4_countNumber_101 (by omega) xput_0 rfl ?_
    refine r_get C flX4_235 dX4_countNumber_104 (by omega) xput_st rfl ?_
    exact r_iretD C dX4_countNumber_107 (by first | (subst hw; rfl) | (rw [show w = 11 by omega]; rfl)) rfl
  · refine r_tabIn (tgt := 108) C dX4_countNumber_1 (by omega) (by omega) (by omega) (by rw [hw]; rfl) (by decide) ?_
    refine r_aload_n C dX4_countNumber_108 rfl rfl ?_
    refine r_get C flX4_10 dX4_countNumber_109 (by omega) xput_0 rfl ?_
    refine r_get C flX4_238 dX4_countNumber_112 (by omega) xput_st rfl ?_
    exact r_iretD C dX4_countNumber_115 (by first | (subst hw; rfl) | (rw [show w = 11 by omega]; rfl)) rfl
  · refine r_tabIn (tgt := 116) C dX4_countNumber_1 (by omega) (by omega) (by omega) (by rw [hw]; rfl) (by decide) ?_
    refine r_aload_n C dX4_countNumber_116 rfl rfl ?_
    refine r_get C flX4_10 dX4_countNumber_117 (by omega) xput_0 rfl ?_
    refine r_get C flX4_241 dX4_countNumber_120 (by omega) xput_st rfl ?_
    exact r_iretD C dX4_countNumber_123 (by first | (subst hw; rfl) | (rw [show w = 11 by omega]; rfl)) rfl
  · refine r_tabIn (tgt := 124) C dX4_countNumber_1 (by omega) (by omega) (by omega) (by rw [hw]; rfl) (by decide) ?_
    refine r_aload_n C dX4_countNumber_124 rfl rfl ?_
    refine r_get C flX4_10 dX4_countNumber_125 (by omega) xput_0 rfl ?_
    refine r_get C flX4_244 dX4_countNumber_128 (by omega) xput_st rfl ?_
    exact r_iretD C dX4_countNumber_131 (by first | (subst hw; rfl) | (rw [show w = 11 by omega]; rfl)) rfl
  · refine r_tabIn (tgt := 132) C dX4_countNumber_1 (by omega) (by omega) (by omega) (by rw [hw]; rfl) (by decide) ?_
    refine r_aload_n C dX4_countNumber_132 rfl rfl ?_
    refine r_get C flX4_10 dX4_countNumber_133 (by omega) xput_0 rfl ?_
    refine r_get C flX4_247 dX4_countNumber_136 (by omega) xput_st rfl ?_
    exact r_iretD C dX4_countNumber_139 (by first | (subst hw; rfl) | (rw [show w = 11 by omega]; rfl)) rfl
  · refine r_tabIn (tgt := 140) C dX4_countNumber_1 (by omega) (by omega) (by omega) (by rw [hw]; rfl) (by decide) ?_
    refine r_aload_n C dX4_countNumber_140 rfl rfl ?_
    refine r_get C flX4_10 dX4_countNumber_141 (by omega) xput_0 rfl ?_
    refine r_get C flX4_104 dX4_countNumber_144 (by omega) xput_st rfl ?_
    exact r_iretD C dX4_countNumber_147 (by first | (subst hw; rfl) | (rw [show w = 11 by omega]; rfl)) rfl
  · refine r_tabOut (tgt := 148) C dX4_countNumber_1 (by omega) hw (by decide) ?_
    refine r_aload_n C dX4_countNumber_148 rfl rfl ?_
    refine r_get C flX4_19 dX4_countNumber_149 (by omega) xput_0 rfl ?_
    refine r_get C flX4_153 dX4_countNumber_152 (by omega) xput_sv rfl ?_
    exact r_iretD C dX4_countNumber_155 (by first | (subst hw; rfl) | (rw [show w = 11 by omega]; rfl)) rfl

set_option maxRecDepth 100000 in
set_option maxHeartbeats 4000000 in
theorem c_X4_count {l : Launch} {D : va_G} {ty : Nat → ClassId} {ad : Int → Nat} {N : Int} {σ : Int → va_E} {x n k len : Int} {u : Int → Int → Int} {s tx : Int → Int} {w : Int} (hx : 0 ≤ x ∧ x + 145 ≤ N) (ho : okX s n u len tx) (hw0 : 0 ≤ w ∧ w < 12) : gM0 l yX4_count cX4_count 2 (some .int) 7 221 [.ref (ad x), .int (gI w)] D ty ad N (xput ad ty σ x s n k u len tx) (some (.int (gI (cntX s n w)))) (xput ad ty σ x s n k u len tx) := by
  refine gMet_of [some (.ref (ad x)), some (.int (gI w))] (by decide +kernel) rfl (Nat.le_of_ble_eq_true rfl) rfl ?_
  intro X hl hD hty C hini
  subst hl hD hty
  have hs := ho.1
  have hn := ho.2.1
  have ht := ho.2.2.2
  have hlen := ht.1
  refine r_iload_n C dX4_count_0 rfl rfl ?_
  refine r_bipush C dX4_count_1 (by decide) ?_
  refine r_cSv C cwX4_162 (c_X4_requireNumber (by omega) (by omega)) dX4_count_3 rfl rfl rfl (Nat.le_of_ble_eq_true rfl) ⟨Nat.le_of_ble_eq_true rfl, Nat.le_of_ble_eq_true rfl⟩ ⟨Nat.le_of_ble_eq_true rfl, Nat.le_of_ble_eq_true rfl⟩ ?_
  refine r_aload_n C dX4_count_6 rfl rfl ?_
  refine r_iload_n C dX4_count_7 rfl rfl ?_
  refine r_cV C cwX4_172 (c_X4_countNumber (by omega) ho (by omega)) dX4_count_8 rfl (by omega) xput_0 rfl rfl rfl (Nat.le_of_ble_eq_true rfl) ⟨Nat.le_of_ble_eq_true rfl, Nat.le_of_ble_eq_true rfl⟩ ⟨Nat.le_of_ble_eq_true rfl, Nat.le_of_ble_eq_true rfl⟩ ?_
  exact r_iretD C dX4_count_11 rfl rfl

set_option maxRecDepth 100000 in
set_option maxHeartbeats 4000000 in
theorem c_X4_lasts {l : Launch} {D : va_G} {ty : Nat → ClassId} {ad : Int → Nat} {N : Int} {σ : Int → va_E} {x n k len : Int} {u : Int → Int → Int} {s tx : Int → Int} {r : Int} (hx : 0 ≤ x ∧ x + 145 ≤ N) (ho : okX s n u len tx) (hr : 0 ≤ r ∧ r < 6) : gM0 l yX4_lasts cX4_lasts 2 (some .int) 7 220 [.ref (ad x), .int (gI r)] D ty ad N (xput ad ty σ x s n k u len tx) (some (.int (gI (blit s r)))) (xput ad ty σ x s n k u len tx) := by
  refine gMet_of [some (.ref (ad x)), some (.int (gI r))] (by decide +kernel) rfl (Nat.le_of_ble_eq_true rfl) rfl ?_
  intro X hl hD hty C hini
  subst hl hD hty
  have hs := ho.1
  have hn := ho.2.1
  have ht := ho.2.2.2
  have hlen := ht.1
  refine r_iload_n C dX4_lasts_0 rfl rfl ?_
  refine r_cSv C cwX4_30 (c_X4_requireRoom (by omega)) dX4_lasts_1 rfl rfl rfl (Nat.le_of_ble_eq_true rfl) ⟨Nat.le_of_ble_eq_true rfl, Nat.le_of_ble_eq_true rfl⟩ ⟨Nat.le_of_ble_eq_true rfl, Nat.le_of_ble_eq_true rfl⟩ ?_
  refine r_aload_n C dX4_lasts_4 rfl rfl ?_
  refine r_get C flX4_10 dX4_lasts_5 (by omega) xput_0 rfl ?_
  refine r_iload_n C dX4_lasts_8 rfl rfl ?_
  refine r_cV C cwX4_175 (liftXs (c_X3_beatsLit (by omega) hs (by omega))) dX4_lasts_9 rfl (by omega) xput_st rfl rfl rfl (Nat.le_of_ble_eq_true rfl) ⟨Nat.le_of_ble_eq_true rfl, Nat.le_of_ble_eq_true rfl⟩ ⟨Nat.le_of_ble_eq_true rfl, Nat.le_of_ble_eq_true rfl⟩ ?_
  exact r_iretD C dX4_lasts_12 rfl rfl

set_option maxRecDepth 100000 in
set_option maxHeartbeats 4000000 in
theorem c_X4_nextForgotten {l : Launch} {D : va_G} {ty : Nat → ClassId} {ad : Int → Nat} {N : Int} {σ : Int → va_E} {x n k len : Int} {u : Int → Int → Int} {s tx : Int → Int} (hx : 0 ≤ x ∧ x + 145 ≤ N) (ho : okX s n u len tx) : gM0 l yX4_nextForgotten cX4_nextForgotten 1 (some .int) 6 131 [.ref (ad x)] D ty ad N (xput ad ty σ x s n k u len tx) (some (.int (gI (nextF s)))) (xput ad ty σ x s n k u len tx) := by
  refine gMet_of [some (.ref (ad x))] (by decide +kernel) rfl (Nat.le_of_ble_eq_true rfl) rfl ?_
  intro X hl hD hty C hini
  subst hl hD hty
  have hs := ho.1
  have hn := ho.2.1
  have ht := ho.2.2.2
  have hlen := ht.1
  refine r_aload_n C dX4_nextForgotten_0 rfl rfl ?_
  refine r_get C flX4_10 dX4_nextForgotten_1 (by omega) xput_0 rfl ?_
  refine r_cV C cwX4_178 (liftXs (c_X3_beatsToForgetting (by omega) hs)) dX4_nextForgotten_4 rfl (by omega) xput_st rfl rfl rfl (Nat.le_of_ble_eq_true rfl) ⟨Nat.le_of_ble_eq_true rfl, Nat.le_of_ble_eq_true rfl⟩ ⟨Nat.le_of_ble_eq_true rfl, Nat.le_of_ble_eq_true rfl⟩ ?_
  exact r_iretD C dX4_nextForgotten_7 rfl rfl

set_option maxRecDepth 100000 in
set_option maxHeartbeats 4000000 in
theorem c_X4_carried {l : Launch} {D : va_G} {ty : Nat → ClassId} {ad : Int → Nat} {N : Int} {σ : Int → va_E} {x n k len : Int} {u : Int → Int → Int} {s tx : Int → Int} {r : Int} (hx : 0 ≤ x ∧ x + 145 ≤ N) (ho : okX s n u len tx) (hr : 0 ≤ r ∧ r < 6) : gM0 l yX4_carried cX4_carried 2 (some .int) 7 220 [.ref (ad x), .int (gI r)] D ty ad N (xput ad ty σ x s n k u len tx) (some (.int (gI (toL s r)))) (xput ad ty σ x s n k u len tx) := by
  refine gMet_of [some (.ref (ad x)), some (.int (gI r))] (by decide +kernel) rfl (Nat.le_of_ble_eq_true rfl) rfl ?_
  intro X hl hD hty C hini
  subst hl hD hty
  have hs := ho.1
  have hn := ho.2.1
  have ht := ho.2.2.2
  have hlen := ht.1
  refine r_iload_n C dX4_carried_0 rfl rfl ?_
  refine r_cSv C cwX4_30 (c_X4_requireRoom (by omega)) dX4_carried_1 rfl rfl rfl (Nat.le_of_ble_eq_true rfl) ⟨Nat.le_of_ble_eq_true rfl, Nat.le_of_ble_eq_true rfl⟩ ⟨Nat.le_of_ble_eq_true rfl, Nat.le_of_ble_eq_true rfl⟩ ?_
  refine r_aload_n C dX4_carried_4 rfl rfl ?_
  refine r_get C flX4_10 dX4_carried_5 (by omega) xput_0 rfl ?_
  refine r_iload_n C dX4_carried_8 rfl rfl ?_
  refine r_cV C cwX4_181 (liftXs (c_X3_candlesToLight (by omega) hs (by omega))) dX4_carried_9 rfl (by omega) xput_st rfl rfl rfl (Nat.le_of_ble_eq_true rfl) ⟨Nat.le_of_ble_eq_true rfl, Nat.le_of_ble_eq_true rfl⟩ ⟨Nat.le_of_ble_eq_true rfl, Nat.le_of_ble_eq_true rfl⟩ ?_
  exact r_iretD C dX4_carried_12 rfl rfl

set_option maxRecDepth 100000 in
set_option maxHeartbeats 4000000 in
theorem c_X4_needy {l : Launch} {D : va_G} {ty : Nat → ClassId} {ad : Int → Nat} {N : Int} {σ : Int → va_E} {x n k len : Int} {u : Int → Int → Int} {s tx : Int → Int} (hx : 0 ≤ x ∧ x + 145 ≤ N) (ho : okX s n u len tx) : gM0 l yX4_needy cX4_needy 1 (some .int) 4 89 [.ref (ad x)] D ty ad N (xput ad ty σ x s n k u len tx) (some (.int (gI (needS s)))) (xput ad ty σ x s n k u len tx) := by
  refine gMet_of [some (.ref (ad x))] (by decide +kernel) rfl (Nat.le_of_ble_eq_true rfl) rfl ?_
  intro X hl hD hty C hini
  subst hl hD hty
  have hs := ho.1
  have hn := ho.2.1
  have ht := ho.2.2.2
  have hlen := ht.1
  refine r_aload_n C dX4_needy_0 rfl rfl ?_
  refine r_get C flX4_10 dX4_needy_1 (by omega) xput_0 rfl ?_
  refine r_cV C cwX4_184 (liftXs (c_X3_neediest (by omega) hs)) dX4_needy_4 rfl (by omega) xput_st rfl rfl rfl (Nat.le_of_ble_eq_true rfl) ⟨Nat.le_of_ble_eq_true rfl, Nat.le_of_ble_eq_true rfl⟩ ⟨Nat.le_of_ble_eq_true rfl, Nat.le_of_ble_eq_true rfl⟩ ?_
  exact r_iretD C dX4_needy_7 rfl rfl

set_option maxRecDepth 100000 in
set_option maxHeartbeats 4000000 in
theorem c_X4_saves {l : Launch} {D : va_G} {ty : Nat → ClassId} {ad : Int → Nat} {N : Int} {σ : Int → va_E} {x n k len : Int} {u : Int → Int → Int} {s tx : Int → Int} {r : Int} (hx : 0 ≤ x ∧ x + 145 ≤ N) (ho : okX s n u len tx) (hr : 0 ≤ r ∧ r < 6) : gM0 l yX4_saves cX4_saves 2 (some .int) 7 220 [.ref (ad x), .int (gI r)] D ty ad N (xput ad ty σ x s n k u len tx) (some (.int (gI (savR (rm s r))))) (xput ad ty σ x s n k u len tx) := by
  refine gMet_of [some (.ref (ad x)), some (.int (gI r))] (by decide +kernel) rfl (Nat.le_of_ble_eq_true rfl) rfl ?_
  intro X hl hD hty C hini
  subst hl hD hty
  have hs := ho.1
  have hn := ho.2.1
  have ht := ho.2.2.2
  have hlen := ht.1
  have hq := hs.rm hr
  refine r_iload_n C dX4_saves_0 rfl rfl ?_
  refine r_cSv C cwX4_30 (c_X4_requireRoom (by omega)) dX4_saves_1 rfl rfl rfl (Nat.le_of_ble_eq_true rfl) ⟨Nat.le_of_ble_eq_true rfl, Nat.le_of_ble_eq_true rfl⟩ ⟨Nat.le_of_ble_eq_true rfl, Nat.le_of_ble_eq_true rfl⟩ ?_
  refine r_aload_n C dX4_saves_4 rfl rfl ?_
  refine r_get C flX4_10 dX4_saves_5 (by omega) xput_0 rfl ?_
  refine r_iload_n C dX4_saves_8 rfl rfl ?_
  refine r_cV C cwX4_76 (liftXs (c_X3_roomAt0 (by omega) (by omega))) dX4_saves_9 rfl (by omega) xput_st rfl rfl rfl (Nat.le_of_ble_eq_true rfl) ⟨Nat.le_of_ble_eq_true rfl, Nat.le_of_ble_eq_true rfl⟩ ⟨Nat.le_of_ble_eq_true rfl, Nat.le_of_ble_eq_true rfl⟩ ?_
  refine r_cV C cwX4_187 (liftXs (lift0 hr (c_X1_beatsSaved (by omega) hq.len hq.bur hq.wick))) dX4_saves_12 rfl (by omega) (xput_rm (by omega)) rfl rfl rfl (Nat.le_of_ble_eq_true rfl) ⟨Nat.le_of_ble_eq_true rfl, Nat.le_of_ble_eq_true rfl⟩ ⟨Nat.le_of_ble_eq_true rfl, Nat.le_of_ble_eq_true rfl⟩ ?_
  exact r_iretD C dX4_saves_15 rfl rfl

set_option maxRecDepth 100000 in
set_option maxHeartbeats 4000000 in
theorem c_X4_lit {l : Launch} {D : va_G} {ty : Nat → ClassId} {ad : Int → Nat} {N : Int} {σ : Int → va_E} {x n k len : Int} {u : Int → Int → Int} {s tx : Int → Int} (hx : 0 ≤ x ∧ x + 145 ≤ N) (ho : okX s n u len tx) : gM0 l yX4_lit cX4_lit 1 (some .double) 2 45 [.ref (ad x)] D ty ad N (xput ad ty σ x s n k u len tx) (some (.double (share s))) (xput ad ty σ x s n k u len tx) := by
  refine gMet_of [some (.ref (ad x))] (by decide +kernel) rfl (Nat.le_of_ble_eq_true rfl) rfl ?_
  intro X hl hD hty C hini
  subst hl hD hty
  have hs := ho.1
  have hn := ho.2.1
  have ht := ho.2.2.2
  have hlen := ht.1
  refine r_aload_n C dX4_lit_0 rfl rfl ?_
  refine r_get C flX4_10 dX4_lit_1 (by omega) xput_0 rfl ?_
  refine r_cV C cwX4_190 (liftXs (c_X3_shareInLight (by omega) hs)) dX4_lit_4 rfl (by omega) xput_st rfl rfl rfl (Nat.le_of_ble_eq_true rfl) ⟨Nat.le_of_ble_eq_true rfl, Nat.le_of_ble_eq_true rfl⟩ ⟨Nat.le_of_ble_eq_true rfl, Nat.le_of_ble_eq_true rfl⟩ ?_
  exact r_dretD C dX4_lit_7 rfl rfl
end
section
/-! the deeds as a text, played; the hash -/

theorem okS_light {s : Int → Int} (hs : okS s) {r : Int} (hr : 0 ≤ r ∧ r < 6) (h : 0 < rm s r 0) : okS (light1 s r) := by
  unfold light1
  rw [← srm_up s r (by omega)]
  refine okS_room hs hr ?_ (can_up (can_rm s r) (by omega) _)
  obtain ⟨h0, h1, h2, h3, h5, h6, h7, h8, h9⟩ := hs.rm hr
  refine ⟨?_, ?_, ?_, ?_, ?_, ?_, fun i a b => ?_, fun i a b => ?_, ?_⟩
  · simp only [up_ap, Int.reduceEq, reduceIte]; omega
  · rw [up_s]; exact Or.inr rfl
  · simp only [up_ap, Int.reduceEq, reduceIte]; omega
  · simp only [up_ap, Int.reduceEq, reduceIte]; omega
  · simp only [up_ap, Int.reduceEq, reduceIte]; omega
  · simp only [up_ap, Int.reduceEq, reduceIte]; omega
  · rw [up_n (by omega)]; exact h7 i a b
  · rw [up_n (by omega)]; exact h8 i a b
  · intro _; rw [up_n (by omega)]; exact h
theorem okS_one {s : Int → Int} (hs : okS s) {z : Int} (hz : 0 ≤ z ∧ z ≤ 12) : okS (up s 1 z) := by
  refine ⟨?_, ?_, ?_, fun r h1 h2 => ?_⟩
  · rw [up_n (by omega)]; exact hs.set
  · rw [up_s]; exact hz
  · rw [up_n (by omega), up_n (by omega)]; exact hs.dra
  · rw [rm_up_lo (by omega)]; exact hs.rm ⟨h1, h2⟩
theorem okS_set {s : Int → Int} (hs : okS s) {z : Int} (hz : 1 ≤ z ∧ z ≤ 50) : okS (up s 0 z) := by
  refine ⟨?_, ?_, ?_, fun r h1 h2 => ?_⟩
  · rw [up_s]; exact hz
  · rw [up_n (by omega)]; exact hs.box
  · rw [up_n (by omega), up_n (by omega)]; exact hs.dra
  · rw [rm_up_lo (by omega)]; exact hs.rm ⟨h1, h2⟩
theorem okS_renew {s : Int → Int} (hs : okS s) {r : Int} (hr : 0 ≤ r ∧ r < 6) (h : 0 < s 1) : okS (renew s r) := by
  unfold renew
  refine okS_one (okS_room hs hr ?_ (can_up (can_up (can_up (can_rm s r) (by omega) _) (by omega) _) (by omega) _)) (by have := hs.box; omega)
  obtain ⟨h0, h1, h2, h3, h5, h6, h7, h8, h9⟩ := hs.rm hr
  refine ⟨?_, ?_, ?_, ?_, ?_, ?_, fun i a b => ?_, fun i a b => ?_, ?_⟩
  · first | (simp only [up_ap, Int.reduceEq, reduceIte]; omega) | (simp [up_ap]; done)
  · exact Or.inl (by rw [up_s])
  · first | (simp only [up_ap, Int.reduceEq, reduceIte]; omega) | (simp [up_ap]; done)
  · simp only [up_ap, Int.reduceEq, reduceIte]; omega
  · simp only [up_ap, Int.reduceEq, reduceIte]; omega
  · simp only [up_ap, Int.reduceEq, reduceIte]; omega
  · rw [up_n (by omega), up_n (by omega), up_n (by omega)]; exact h7 i a b
  · rw [up_n (by omega), up_n (by omega), up_n (by omega)]; exact h8 i a b
  · intro h; rw [up_s] at h; omega
theorem okS_keep {s : Int → Int} (hs : okS s) {r key : Int} (hr : 0 ≤ r ∧ r < 6) (hk : 0 ≤ key ∧ key < 100) (h : rm s r 6 < 4) : okS (keepS s r key) := by
  have hq := hs.rm hr
  have hm := hq.many
  unfold keepS addR
  have h1 : okR (up (up (rm s r) (7 + rm s r 6) key) (11 + rm s r 6) 0) := okR_row hq (fun j a b => by rw [up_n (by omega), up_n (by omega)])
    (fun i a b => by
      rw [up_n (by omega)]
      by_cases e : i = rm s r 6
      · rw [e, up_s]; exact hk
      · rw [up_n (by omega)]; exact hq.keys i a b)
    (fun i a b => by
      by_cases e : i = rm s r 6
      · rw [e, up_s]; omega
      · rw [up_n (by omega), up_n (by omega)]; exact hq.dark i a b)
  exact okS_room hs hr (okR_many h1 (by omega)) (can_up (can_up (can_up (can_rm s r) (by omega) _) (by omega) _) (by omega) _)
theorem okS_door {s : Int → Int} (hs : okS s) {r z : Int} (hr : 0 ≤ r ∧ r < 6) (hz : z = 0 ∨ z = 1) : okS (up s (9 + 15 * r + 5) z) := by
  rw [← srm_up s r (by omega)]
  refine okS_room hs hr ?_ (can_up (can_rm s r) (by omega) _)
  obtain ⟨h0, h1, h2, h3, h5, h6, h7, h8, h9⟩ := hs.rm hr
  refine ⟨?_, ?_, ?_, ?_, ?_, ?_, fun i a b => ?_, fun i a b => ?_, ?_⟩
  · simp only [up_ap, Int.reduceEq, reduceIte]; omega
  · simp only [up_ap, Int.reduceEq, reduceIte]; omega
  · simp only [up_ap, Int.reduceEq, reduceIte]; omega
  · simp only [up_ap, Int.reduceEq, reduceIte]; omega
  · rw [up_s]; exact hz
  · simp only [up_ap, Int.reduceEq, reduceIte]; omega
  · rw [up_n (by omega)]; exact h7 i a b
  · rw [up_n (by omega)]; exact h8 i a b
  · simp only [up_ap, Int.reduceEq, reduceIte]; omega
theorem okS_shield {s : Int → Int} (hs : okS s) {r z : Int} (hr : 0 ≤ r ∧ r < 6) (hz : z = 0 ∨ z = 1) : okS (up s (9 + 15 * r + 3) z) := by
  rw [← srm_up s r (by omega)]
  refine okS_room hs hr ?_ (can_up (can_rm s r) (by omega) _)
  obtain ⟨h0, h1, h2, h3, h5, h6, h7, h8, h9⟩ := hs.rm hr
  refine ⟨?_, ?_, ?_, ?_, ?_, ?_, fun i a b => ?_, fun i a b => ?_, ?_⟩
  · simp only [up_ap, Int.reduceEq, reduceIte]; omega
  · simp only [up_ap, Int.reduceEq, reduceIte]; omega
  · simp only [up_ap, Int.reduceEq, reduceIte]; omega
  · rw [up_s]; exact hz
  · simp only [up_ap, Int.reduceEq, reduceIte]; omega
  · simp only [up_ap, Int.reduceEq, reduceIte]; omega
  · rw [up_n (by omega)]; exact h7 i a b
  · rw [up_n (by omega)]; exact h8 i a b
  · simp only [up_ap, Int.reduceEq, reduceIte]; omega
theorem okS_rd {s : Int → Int} (hs : okS s) (key : Int) : okS (rdS s key) := by
  have hrr := rof_rng s key
  unfold rdS
  split
  · exact hs
  · split
    · exact okS_bts _ _ _ (okS_wick (okS_lo hs (by omega)) (by omega))
    · exact okS_bts _ _ _ (okS_lo (okS_lo hs (by omega)) (by omega))
/-- a deed of the text: whether it is possible, and what it does -/
def dOk (s : Int → Int) (r c v : Int) : Int := if c = 42 then gB (mayS s r) else if c = 60 then gB (mayL s r ((r - 1) % 6)) else if c = 62 then gB (mayL s r ((r + 1) % 6)) else if c = 98 then 1 else if c = 110 then gB (0 < s 1) else gB (mayK s r v)
def dS (s : Int → Int) (r c v : Int) : Int → Int := if c = 42 then (if mayS s r then light1 s r else s) else if c = 60 then (if mayL s r ((r - 1) % 6) then light1 s r else s) else if c = 62 then (if mayL s r ((r + 1) % 6) then light1 s r else s) else if c = 98 then draS s r v else if c = 110 then (if 0 < s 1 then renew s r else s) else (if mayK s r v then keepS s r v else s)
theorem dOk_rng (s : Int → Int) (r c v : Int) : dOk s r c v = 0 ∨ dOk s r c v = 1 := by
  have h1 := gB_rng (mayS s r)
  have h2 := gB_rng (mayL s r ((r - 1) % 6))
  have h3 := gB_rng (mayL s r ((r + 1) % 6))
  have h4 := gB_rng (0 < s 1)
  have h5 := gB_rng (mayK s r v)
  unfold dOk
  (repeat' split) <;> omega
theorem dS_0 {s : Int → Int} {r c v : Int} (h : dOk s r c v = 0) : dS s r c v = s := by
  unfold dOk at h
  unfold dS
  by_cases e1 : c = 42
  · rw [if_pos e1] at h ⊢; rw [if_neg ((gB_0 _).mp h)]
  · rw [if_neg e1] at h ⊢
    by_cases e2 : c = 60
    · rw [if_pos e2] at h ⊢; rw [if_neg ((gB_0 _).mp h)]
    · rw [if_neg e2] at h ⊢
      by_cases e3 : c = 62
      · rw [if_pos e3] at h ⊢; rw [if_neg ((gB_0 _).mp h)]
      · rw [if_neg e3] at h ⊢
        by_cases e4 : c = 98
        · rw [if_pos e4] at h; omega
        · rw [if_neg e4] at h ⊢
          by_cases e5 : c = 110
          · rw [if_pos e5] at h ⊢; rw [if_neg ((gB_0 _).mp h)]
          · rw [if_neg e5] at h ⊢; rw [if_neg ((gB_0 _).mp h)]
/-- what a part says is a deed -/
def vD (r c v : Int) : Prop := (0 ≤ r ∧ r < 6) ∧ (c = 98 → 1 ≤ v ∧ v ≤ 6) ∧ (0 ≤ v ∧ v < 100)
theorem okS_dS {s : Int → Int} (hs : okS s) {r c v : Int} (h : vD r c v) : okS (dS s r c v) := by
  obtain ⟨hr, hb, hv⟩ := h
  unfold dS
  split
  · split
    · rename_i h2; exact okS_light hs hr h2.2
    · exact hs
  · split
    · split
      · rename_i h2; exact okS_light hs hr h2.2.1
      · exact hs
    · split
      · split
        · rename_i h2; exact okS_light hs hr h2.2.1
        · exact hs
      · split
        · rename_i h2; exact okS_dra hs hr (hb h2)
        · split
          · split
            · rename_i h2; exact okS_renew hs hr h2
            · exact hs
          · split
            · rename_i h2; exact okS_keep hs hr hv h2.2
            · exact hs
def plN (len : Int) (tx : Int → Int) : Nat → Int → Int → (Int → Int) → (Int → Int) × Int
  | 0, _, d, s => (s, d)
  | n + 1, p, d, s => if stP len tx p then (if dOk s (dgAt len tx p) (cAt len tx (p + 1)) (nuAt len tx (p + 2)) = 1 then plN len tx n (p + 1) (d + 1) (dS s (dgAt len tx p) (cAt len tx (p + 1)) (nuAt len tx (p + 2))) else (s, d)) else plN len tx n (p + 1) d s
def vT (len : Int) (tx : Int → Int) : Prop := ∀ p, 0 ≤ p → p < len → stP len tx p → vD (dgAt len tx p) (cAt len tx (p + 1)) (nuAt len tx (p + 2))
theorem okS_plN {len : Int} {tx : Int → Int} (hv : vT len tx) : ∀ (n : Nat) (p d : Int) (s : Int → Int), 0 ≤ p → p + n ≤ len → okS s → okS (plN len tx n p d s).1
  | 0, _, _, s, _, _, hs => hs
  | n + 1, p, d, s, hp, hn, hs => by
    unfold plN
    split
    · rename_i h
      split
      · exact okS_plN hv n (p + 1) _ _ (by omega) (by omega) (okS_dS hs (hv p hp (by omega) h))
      · exact hs
    · exact okS_plN hv n (p + 1) d s (by omega) (by omega) hs
theorem okX.s {s : Int → Int} {n : Int} {u : Int → Int → Int} {len : Int} {tx : Int → Int} (h : okX s n u len tx) {s' : Int → Int} (h' : okS s') : okX s' n u len tx := ⟨h', h.2⟩

theorem pshN_rng {n : Int} (hn : 0 ≤ n ∧ n ≤ 6) : 0 ≤ pshN n ∧ pshN n ≤ 6 := by unfold pshN; split <;> omega
theorem okU_push {n k : Int} {u : Int → Int → Int} {s : Int → Int} (hn : 0 ≤ n ∧ n ≤ 6) (hs : okS s) (hu : ∀ i, 0 ≤ i → i < 6 → okS (u i)) : ∀ i, 0 ≤ i → i < 6 → okS (pshU n k u s i) := by
  intro i h1 h2
  unfold pshU
  by_cases e : i = (pshN n - 1 + pshK n k) % 6
  · rw [e, up_s]; exact hs
  · rw [up_n e]; exact hu i h1 h2
end
section
/-! constructors: a room, a text, a store -/
/-- behind a constructor: n places more, the old ones where they were -/
def gMk (N n : Int) (ad : Int → Nat) (F : (Int → Nat) → (Int → va_E)) : gPost := fun rv ad' N' σ' => rv = none ∧ N' = N + n ∧ (∀ j : Int, j < N → ad' j = ad j) ∧ σ' = F ad'
section ADDR
variable {X : gT} {cc : ByteArray} {nL : Nat} {own : String} {R : Room} {ret : Option FieldType} {kc kn : Nat} {Q : State → Prop} {pc : Nat} {L : List (Option Value)} {st : List Value} {ad : Int → Nat} {N : Int} {σ : Int → va_E}
theorem ra_get (C : gOk X cc nL own R ret) {idx ci f n : Nat} {CN : String} {T : u_T} {ty : Nat → FieldType} (fl : gFL own idx ci f CN T n ty) (hd : decode cc pc = .ok (.getfield idx, 3)) {a : Int} {h0 : Nat} (he : ad a = h0) (ha : 0 ≤ a ∧ a < N) {fs : List Value} {v : Value} (hσ : σ a = .inr (ci, fs)) (hv : fs[f]? = some v)
    (k : V X kc kn Q (pc + 3) L (v :: st) ad N σ) : V X kc kn Q pc L (.ref h0 :: st) ad N σ := by subst he; exact r_get C fl hd ha hσ hv k
theorem ra_put (C : gOk X cc nL own R ret) {idx ci f n : Nat} {CN : String} {T : u_T} {ty : Nat → FieldType} (fl : gFL own idx ci f CN T n ty) (hd : decode cc pc = .ok (.putfield idx, 3)) {a : Int} {h0 : Nat} (he : ad a = h0) (ha : 0 ≤ a ∧ a < N) {fs : List Value} {v : Value} (hσ : σ a = .inr (ci, fs)) (hfin : (T f).2.2.2 = false) (hn : narrow (ty f) v = v) (hfit : fits (ty f) v = true) (hlen : f < fs.length)
    (k : V X kc kn Q (pc + 3) L st ad N (up σ a (.inr (ci, fs.set f v)))) : V X kc kn Q pc L (v :: .ref h0 :: st) ad N σ := by subst he; exact r_put C fl hd ha hσ hfin hn hfit hlen k
theorem ra_putF (C : gOk X cc nL own R ret) (hini : (gme X).name = "<init>") {idx ci f n : Nat} {CN : String} {T : u_T} {ty : Nat → FieldType} (fl : gFL own idx ci f CN T n ty) (hd : decode cc pc = .ok (.putfield idx, 3)) {a : Int} {h0 : Nat} (he : ad a = h0) (ha : 0 ≤ a ∧ a < N) {fs : List Value} {v : Value} (hσ : σ a = .inr (ci, fs)) (hfin : (T f).2.2.2 = true) (hdecl : (T f).1 = own) (hn : narrow (ty f) v = v) (hfit : fits (ty f) v = true) (hlen : f < fs.length)
    (k : V X kc kn Q (pc + 3) L st ad N (up σ a (.inr (ci, fs.set f v)))) : V X kc kn Q pc L (v :: .ref h0 :: st) ad N σ := by subst he; exact r_putF C hini fl hd ha hσ hfin hdecl hn hfit hlen k
theorem ra_aast (C : gOk X cc nL own R ret) (hd : decode cc pc = .ok (.aastore, 1)) {a b i : Int} {h0 h1 : Nat} (he : ad a = h0) (he1 : ad b = h1) {n t ci : Nat} {f : Nat → Option Nat} {c : ClassId} {r : vw_C} {vs : List Value} (ha : 0 ≤ a ∧ a < N) (hσ : σ a = gRA c n f) (ht : (gtys (gty X))[t]? = some (c, .object r.1)) (hi : 0 ≤ i ∧ i < n) (hn : n < 2147483648) (hb : 0 ≤ b ∧ b < N) (hσb : σ b = .inr (ci, vs)) (hci : vwCl[ci]? = some r)
    (k : V X kc kn Q (pc + 1) L st ad N (up σ a (gRA c n (va_up f i.toNat (some h1))))) : V X kc kn Q pc L (.ref h1 :: .int (gI i) :: .ref h0 :: st) ad N σ := by subst he; subst he1; exact r_aast C hd ha hσ ht hi hn hb hσb hci k
theorem ra_iast (C : gOk X cc nL own R ret) (hd : decode cc pc = .ok (.iastore, 1)) {a i z : Int} {h0 : Nat} (he : ad a = h0) {n : Nat} {g : Int → Int} (ha : 0 ≤ a ∧ a < N) (hσ : σ a = gAr (gty X 0) n g) (hi : 0 ≤ i ∧ i < n) (hn : n < 2147483648)
    (k : V X kc kn Q (pc + 1) L st ad N (up σ a (gAr (gty X 0) n (up g i z)))) : V X kc kn Q pc L (.int (gI z) :: .int (gI i) :: .ref h0 :: st) ad N σ := by subst he; exact r_iast C hd ha hσ hi hn k
end ADDR
def zF1 : List Value := [.null, .null, .int 0, .int 0, .int 0, .int 0, .int 0, .int 0, .int 0]
def roomZ : Int → Int := fun j => if j = 0 then 10 else if j = 5 then 1 else 0
set_option maxRecDepth 100000 in
set_option maxHeartbeats 4000000 in
theorem c_X1_init {l : Launch} {D : va_G} {ty : Nat → ClassId} {ad : Int → Nat} {N : Int} {σ : Int → va_E} {k : Int} {h0 : Nat} (hk : 0 ≤ k ∧ k + 1 = N) (he : ad k = h0) (hσ : σ k = .inr (1, zF1)) : gMet l yX1_init cX1_init 1 none { frames := 1, cells := 2, slots := 8, locals := 20 } [.ref h0] D ty ad N σ (gMk N 2 ad (fun ad' => rput ad' ty σ k roomZ)) := by
  refine gMet_of [some (.ref h0)] (by decide +kernel) rfl (Nat.le_of_ble_eq_true rfl) rfl ?_
  intro X hl hD hty C hini
  subst hl hD hty
  refine r_aload_n C dX1_init_0 rfl rfl ?_
  refine r_objInit C koX1_3 dX1_init_1 rfl (by decide) ?_
  refine r_aload_n C dX1_init_4 rfl rfl ?_
  refine r_iconst C dX1_init_5 ?_
  refine r_newI (n := 4) C kar_int dX1_init_6 (by decide) (by omega) ⟨Nat.le_of_ble_eq_true rfl, Nat.le_of_ble_eq_true rfl⟩ (fun q1 => ?_)
  refine ra_putF (a := k) C hini flX1_9 dX1_init_8 ((up_n (by omega)).trans he) (by omega) ((up_n (by omega)).trans hσ) rfl rfl rfl rfl (Nat.le_of_ble_eq_true rfl) ?_
  refine r_aload_n C dX1_init_11 rfl rfl ?_
  refine r_iconst C dX1_init_12 ?_
  refine r_newI (n := 4) C kar_int dX1_init_13 (by decide) (by omega) ⟨Nat.le_of_ble_eq_true rfl, Nat.le_of_ble_eq_true rfl⟩ (fun q2 => ?_)
  have he2 : up (up ad N q1) (N + 1) q2 k = h0 := (up_n (by omega)).trans ((up_n (by omega)).trans he)
  refine ra_putF (a := k) C hini flX1_15 dX1_init_15 he2 (by omega) ((up_n (by omega)).trans (up_s _ _ _)) rfl rfl rfl rfl (Nat.le_of_ble_eq_true rfl) ?_
  refine r_aload_n C dX1_init_18 rfl rfl ?_
  refine r_bipush C dX1_init_19 (by decide) ?_
  refine ra_put (a := k) C flX1_18 dX1_init_21 he2 (by omega) (up_s _ _ _) rfl rfl rfl (Nat.le_of_ble_eq_true rfl) ?_
  refine r_aload_n C dX1_init_24 rfl rfl ?_
  refine r_iconst C dX1_init_25 ?_
  refine ra_put (a := k) C flX1_22 dX1_init_26 he2 (by omega) (up_s _ _ _) rfl rfl rfl (Nat.le_of_ble_eq_true rfl) ?_
  refine r_vret C dX1_init_29 ⟨rfl, by omega, fun j hj => by rw [up_n (by omega), up_n (by omega)], ?_⟩ (Nat.le_of_ble_eq_true rfl) (Nat.le_of_ble_eq_true rfl)
  show _ = rput (up (up ad N q1) (N + 1) q2) (gty X) σ k roomZ
  funext q
  by_cases h1 : q = k
  · subst h1
    rw [up_s, rput_0]
    have e1 : up (up ad N q1) (N + 1) q2 (q + 1) = q1 := by rw [up_n (by omega), show q + 1 = N by omega, up_s]
    have e2 : up (up ad N q1) (N + 1) q2 (q + 2) = q2 := by rw [show q + 2 = N + 1 by omega, up_s]
    unfold rF
    rw [e1, e2]
    simp [zF1, roomZ, gI_0]
  · by_cases h2 : q = k + 1
    · subst h2
      rw [rput_1, up_n (by omega), up_n (by omega), up_n (by omega), up_n (by omega), up_n (by omega), show k + 1 = N by omega, up_s]
      refine gAr_ext fun j h1 h2 => ?_
      unfold roomZ; rw [if_neg (by omega), if_neg (by omega)]
    · by_cases h3 : q = k + 2
      · subst h3
        rw [rput_2, up_n (by omega), up_n (by omega), up_n (by omega), show k + 2 = N + 1 by omega, up_s]
        refine gAr_ext fun j h1 h2 => ?_
        unfold roomZ; rw [if_neg (by omega), if_neg (by omega)]
      · rw [rput_x (by omega), up_n (by omega), up_n (by omega), up_n (by omega), up_n (by omega), up_n (by omega), up_n (by omega)]
set_option maxRecDepth 100000 in
set_option maxHeartbeats 4000000 in
theorem c_X0_init {l : Launch} {D : va_G} {ty : Nat → ClassId} {ad : Int → Nat} {N : Int} {σ : Int → va_E} {k : Int} {h0 : Nat} (hk : 0 ≤ k ∧ k + 1 = N) (he : ad k = h0) (hσ : σ k = .inr (0, [.null, .int 0])) : gMet l yX0_init cX0_init 1 none { frames := 1, cells := 1, slots := 60, locals := 20 } [.ref h0] D ty ad N σ (gMk N 1 ad (fun ad' => dput ad' ty σ k 0 (fun _ => 0))) := by
  refine gMet_of [some (.ref h0)] (by decide +kernel) rfl (Nat.le_of_ble_eq_true rfl) rfl ?_
  intro X hl hD hty C hini
  subst hl hD hty
  refine r_aload_n C dX0_init_0 rfl rfl ?_
  refine r_objInit C koX0_3 dX0_init_1 rfl (by decide) ?_
  refine r_aload_n C dX0_init_4 rfl rfl ?_
  refine r_bipush C dX0_init_5 (by decide) ?_
  refine r_newC (n := 60) C kar_char dX0_init_7 (by decide) (by omega) ⟨Nat.le_of_ble_eq_true rfl, Nat.le_of_ble_eq_true rfl⟩ (fun q1 => ?_)
  refine ra_putF (a := k) C hini flX0_9 dX0_init_9 ((up_n (by omega)).trans he) (by omega) ((up_n (by omega)).trans hσ) rfl rfl rfl rfl (Nat.le_of_ble_eq_true rfl) ?_
  refine r_vret C dX0_init_12 ⟨rfl, rfl, fun j hj => by rw [up_n (by omega)], ?_⟩ (Nat.le_of_ble_eq_true rfl) (Nat.le_of_ble_eq_true rfl)
  show _ = dput (up ad N q1) (gty X) σ k 0 (fun _ => 0)
  funext q
  unfold dput
  by_cases h1 : q = k
  · subst h1
    rw [up_s, if_pos rfl, show q + 1 = N by omega, up_s]
    simp [gI_0]
  · by_cases h2 : q = k + 1
    · subst h2
      rw [if_neg (by omega), if_pos rfl, up_n (by omega), show k + 1 = N by omega, up_s]
    · rw [if_neg h1, if_neg h2, up_n (by omega), up_n (by omega)]
def zF3 : List Value := [.null, .int 0, .int 0, .int 0, .int 0, .int 0, .int 0, .int 0, .int 0, .int 0]
def rooms0 : Int → Int := fun j => if 9 ≤ j ∧ j < 99 ∧ (j - 9) % 15 = 0 then 10 else if 9 ≤ j ∧ j < 99 ∧ (j - 9) % 15 = 5 then 1 else 0
def store0 : Int → Int := up (up (up rooms0 1 12) 7 (-1)) 0 12
theorem rm_rooms0 {r : Int} (hr : 0 ≤ r ∧ r < 6) : rm rooms0 r = roomZ := by
  funext j
  unfold rm rooms0 roomZ
  by_cases h : 0 ≤ j ∧ j < 15
  · rw [if_pos h]
    by_cases h0 : j = 0
    · rw [if_pos (by omega), if_pos h0]
    · rw [if_neg (by omega), if_neg h0]
      by_cases h5 : j = 5
      · rw [if_pos (by omega), if_pos h5]
      · rw [if_neg (by omega), if_neg h5]
  · rw [if_neg h, if_neg (by omega), if_neg (by omega)]
/-- a store whose first r rooms are made -/
def spart (ad : Int → Nat) (ty : Nat → ClassId) (σ : Int → va_E) (b r : Int) : Int → va_E := fun q =>
  if q = b then .inr (3, .ref (ad (b + 1)) :: zF3.tail) else if q = b + 1 then gRA (ty 3) 6 (fun j => if (j : Int) < r then some (ad (b + 2 + 3 * (j : Int))) else none) else
  if b + 2 ≤ q ∧ q < b + 2 + 3 * r then rcell ad ty (b + 2 + 3 * ((q - b - 2) / 3)) roomZ ((q - b - 2) % 3) else σ q
theorem rcell_ad {ad ad' : Int → Nat} {ty : Nat → ClassId} {k m : Int} {ρ : Int → Int} (h1 : ad (k + 1) = ad' (k + 1)) (h2 : ad (k + 2) = ad' (k + 2)) : rcell ad ty k ρ m = rcell ad' ty k ρ m := by
  unfold rcell rF; rw [h1, h2]
theorem rcell_adG {ad ad' : Int → Nat} {ty : Nat → ClassId} {k m : Int} {ρ : Int → Int} (h1 : ad (k + 1) = ad' (k + 1)) (h2 : ad (k + 2) = ad' (k + 2)) : rcell ad ty k ρ m = rcell ad' ty k ρ m := rcell_ad h1 h2
theorem spart_6 {ad : Int → Nat} {ty : Nat → ClassId} {σ : Int → va_E} {b : Int} : spart ad ty σ b 6 = sput ad ty σ b rooms0 := by
  funext q
  unfold spart sput
  split
  · unfold sF rooms0; simp [zF3, gI_0]
  · split
    · unfold rmA
      congr 1
      funext j
      by_cases h : j < 6
      · rw [if_pos h, if_pos (by omega)]
      · rw [if_neg h, if_neg (by omega)]
    · by_cases h : b + 2 ≤ q ∧ q < b + 20
      · rw [if_pos h, if_pos (by omega), rm_rooms0 (by omega)]
      · rw [if_neg h, if_neg (by omega)]
theorem spart_s {ad ad' : Int → Nat} {ty : Nat → ClassId} {σ : Int → va_E} {b r : Int} {e : va_E} (hr : 0 ≤ r ∧ r < 6) (ha : ∀ j, j < b + 2 + 3 * r → ad' j = ad j) :
    up (rput ad' ty (up (spart ad ty σ b r) (b + 2 + 3 * r) e) (b + 2 + 3 * r) roomZ) (b + 1) (gRA (ty 3) 6 (va_up (fun j => if (j : Int) < r then some (ad (b + 2 + 3 * (j : Int))) else none) r.toNat (some (ad' (b + 2 + 3 * r))))) = spart ad' ty σ b (r + 1) := by
  funext q
  by_cases h1 : q = b + 1
  · subst h1
    rw [up_s]
    unfold spart
    rw [if_neg (by omega), if_pos rfl]
    congr 1
    funext j
    unfold va_up
    by_cases h : j = r.toNat
    · rw [if_pos h, if_pos (by omega), show (j : Int) = r by omega]
    · rw [if_neg h]
      dsimp only
      by_cases h2 : (j : Int) < r
      · rw [if_pos h2, if_pos (by omega), ha _ (by omega)]
      · rw [if_neg h2, if_neg (by omega)]
  · rw [up_n h1]
    by_cases h : b + 2 + 3 * r ≤ q ∧ q < b + 2 + 3 * r + 3
    · unfold spart
      rw [if_neg (by omega), if_neg h1, if_pos (by omega), show (q - b - 2) / 3 = r by omega, show (q - b - 2) % 3 = q - (b + 2 + 3 * r) by omega]
      unfold rput rcell
      by_cases h0 : q = b + 2 + 3 * r
      · rw [if_pos h0, if_pos (show q - (b + 2 + 3 * r) = 0 by omega)]
      · by_cases h2 : q = b + 2 + 3 * r + 1
        · rw [if_neg h0, if_pos h2, if_neg (show ¬ q - (b + 2 + 3 * r) = 0 by omega), if_pos (show q - (b + 2 + 3 * r) = 1 by omega)]
        · rw [if_neg h0, if_neg h2, if_pos (show q = b + 2 + 3 * r + 2 by omega), if_neg (show ¬ q - (b + 2 + 3 * r) = 0 by omega), if_neg (show ¬ q - (b + 2 + 3 * r) = 1 by omega)]
    · rw [rput_x (by omega), up_n (by omega)]
      unfold spart
      by_cases h0 : q = b
      · rw [if_pos h0, if_pos h0, ha _ (by omega)]
      · rw [if_neg h0, if_neg h0, if_neg h1, if_neg h1]
        by_cases h2 : b + 2 ≤ q ∧ q < b + 2 + 3 * r
        · rw [if_pos h2, if_pos (by omega)]
          exact rcell_ad (ha _ (by omega)).symm (ha _ (by omega)).symm
        · rw [if_neg h2, if_neg (by omega)]
set_option maxRecDepth 100000 in
set_option maxHeartbeats 4000000 in
theorem c_X3_init {l : Launch} {D : va_G} {ty : Nat → ClassId} {ad : Int → Nat} {N : Int} {σ : Int → va_E} {b : Int} {h0 : Nat} (hb : 0 ≤ b ∧ b + 1 = N) (he : ad b = h0) (hσ : σ b = .inr (3, zF3)) : gMet l yX3_init cX3_init 2 none { frames := 2, cells := 19, slots := 108, locals := 60 } [.ref h0] D ty ad N σ (gMk N 19 ad (fun ad' => sput ad' ty σ b store0)) := by
  refine gMet_of [some (.ref h0), none] (by decide +kernel) rfl (Nat.le_of_ble_eq_true rfl) rfl ?_
  intro X hl hD hty C hini
  subst hl hD hty
  refine r_aload_n C dX3_init_0 rfl rfl ?_
  refine r_objInit C koX3_3 dX3_init_1 rfl (by decide) ?_
  refine r_aload_n C dX3_init_4 rfl rfl ?_
  refine r_bipush C dX3_init_5 (by decide) ?_
  refine r_newRooms (n := 6) C knX3_9.1 dX3_init_7 (by decide) (by omega) ⟨Nat.le_of_ble_eq_true rfl, Nat.le_of_ble_eq_true rfl⟩ (fun q1 => ?_)
  refine ra_putF (a := b) C hini flX3_11 dX3_init_10 ((up_n (by omega)).trans he) (by omega) ((up_n (by omega)).trans hσ) rfl rfl rfl rfl (Nat.le_of_ble_eq_true rfl) ?_
  refine r_iconst C dX3_init_13 ?_
  refine r_istore_n C dX3_init_14 rfl (Nat.le_of_ble_eq_true rfl) rfl ?_
  dsimp only [List.set]
  have lp : ∀ (n : Nat) (r : Int) (ad1 : Int → Nat) (kc kn : Nat), (0 ≤ r) → (r + n = 6) → (∀ j, j < N → ad1 j = ad j) → (kc + 3 * n = 19) → (kn + 17 * n = 108) → V X kc kn (gQ X (gMk N 19 ad (fun ad' => sput ad' (gty X) σ b store0)) 19 108) 15 [some (.ref h0), some (.int (gI r))] [] ad1 (b + 2 + 3 * r) (spart ad1 (gty X) σ b r) := by
    intro n
    induction n with
    | zero =>
      intro r ad1 kc kn hr hrn ha hkc hkn
      have hr6 : r = 6 := by omega
      subst hr6
      refine r_iload_n C dX3_init_15 rfl rfl ?_
      refine r_bipush C dX3_init_16 (by decide) ?_
      refine r_icmp_ge (tgt := 40) C dX3_init_18 (by decide) (by omega) (by omega) (fun h18 => ?_) (fun h18 => ?_)
      · rw [spart_6]
        have he1 : ad1 b = h0 := (ha b (by omega)).trans he
        subst he1
        refine r_aload_n C dX3_init_40 rfl rfl ?_
        refine r_bipush C dX3_init_41 (by decide) ?_
        refine ss_put (j := 1) C flX3_18 dX3_init_43 (by omega) (by decide) rfl rfl rfl rfl ?_
        refine r_aload_n C dX3_init_46 rfl rfl ?_
        refine r_iconst C dX3_init_47 ?_
        refine ss_put (j := 7) C flX3_22 dX3_init_48 (by omega) (by decide) rfl rfl rfl rfl ?_
        refine r_aload_n C dX3_init_51 rfl rfl ?_
        refine r_bipush C dX3_init_52 (by decide) ?_
        refine ss_put (j := 0) C flX3_25 dX3_init_54 (by omega) (by decide) rfl rfl rfl rfl ?_
        exact r_vret C dX3_init_57 ⟨rfl, by omega, ha, rfl⟩ (by omega) (by omega)
      · exact absurd h18 (by omega)
    | succ n ih =>
      intro r ad1 kc kn hr hrn ha hkc hkn
      have he1 : ad1 b = h0 := (ha b (by omega)).trans he
      refine r_iload_n C dX3_init_15 rfl rfl ?_
      refine r_bipush C dX3_init_16 (by decide) ?_
      refine r_icmp_ge (tgt := 40) C dX3_init_18 (by decide) (by omega) (by omega) (fun h18 => ?_) (fun h18 => ?_)
      · exact absurd h18 (by omega)
      · refine r_aload_n C dX3_init_21 rfl rfl ?_
        refine ra_get (a := b) C flX3_11 dX3_init_22 he1 (by omega) (if_pos rfl) rfl ?_
        refine r_iload_n C dX3_init_25 rfl rfl ?_
        refine r_new (ci := 1) (fs := zF1) C inW1 tyX1_ok knX3_9 rfl dX3_init_26 (fun j hj => by rcases (show j = 0 ∨ j = 1 ∨ j = 2 ∨ j = 3 ∨ j = 4 ∨ j = 5 ∨ j = 6 ∨ j = 7 ∨ j = 8 by omega) with rfl | rfl | rfl | rfl | rfl | rfl | rfl | rfl | rfl <;> rfl) (by omega) ⟨(show kc + 1 ≤ 19 by omega), (show kn + 9 ≤ 108 by omega)⟩ (fun q2 => ?_)
        refine r_dup C dX3_init_29 rfl ?_
        refine r_callI (RY := { frames := 1, cells := 2, slots := 8, locals := 20 }) C cwX3_17 (c_X1_init (k := b + 2 + 3 * r) (by omega) (up_s _ _ _) (up_s _ _ _)) dX3_init_30 rfl rfl rfl (Nat.le_of_ble_eq_true rfl) ⟨Nat.le_of_ble_eq_true rfl, Nat.le_of_ble_eq_true rfl⟩ ⟨(show kc + 1 + 2 ≤ 19 by omega), (show kn + 9 + 8 ≤ 108 by omega)⟩ (fun rv ad2 N2 σ2 hp => ?_)
        obtain ⟨rfl, rfl, ha2, hs2⟩ := hp
        dsimp only at hs2
        subst hs2
        have ha3 : ∀ j, j < b + 2 + 3 * r → ad2 j = ad1 j := fun j hj => (ha2 j (by omega)).trans (up_n (by omega))
        have hq2 : ad2 (b + 2 + 3 * r) = q2 := (ha2 _ (by omega)).trans (up_s _ _ _)
        refine ra_aast (a := b + 1) (b := b + 2 + 3 * r) (t := 3) C dX3_init_33 (ha3 _ (by omega)) hq2 (by omega) (f := fun j => if (j : Int) < r then some (ad1 (b + 2 + 3 * (j : Int))) else none) (c := gty X 3) (n := 6) (r := (RX1, TX1, 9)) ?_ rfl (by omega) (by decide) (by omega) rput_0 rfl ?_
        · rw [rput_x (by omega), up_n (by omega)]
          unfold spart
          rw [if_neg (by omega), if_pos rfl]
        · rw [← hq2, spart_s (by omega) ha3]
          refine r_iinc C dX3_init_34 rfl rfl ?_
          dsimp only [List.set]
          refine r_goto (tgt := 15) C dX3_init_37 (by decide) ?_
          rw [show b + 2 + 3 * r + 1 + 2 = b + 2 + 3 * (r + 1) by omega]
          exact ih (r + 1) ad2 _ _ (by omega) (by omega) (fun j hj => (ha3 j (by omega)).trans (ha j hj)) (by omega) (by omega)
  have h1 := lp 6 0 (up ad N q1) 1 6 (by omega) (by omega) (fun j hj => up_n (by omega)) (by omega) (by omega)
  have e : up (up σ N (gRA (gty X 3) 6 (fun _ => none))) b (.inr (3, zF3.set 0 (.ref q1))) = spart (up ad N q1) (gty X) σ b 0 := by
    funext q
    unfold spart
    by_cases h1 : q = b
    · subst h1
      rw [up_s, if_pos rfl, show q + 1 = N by omega, up_s]
      all_goals rfl
    · rw [up_n h1, if_neg h1]
      by_cases h2 : q = b + 1
      · subst h2
        rw [if_pos rfl, show b + 1 = N by omega, up_s]
        all_goals (congr 1 <;> (funext j; rw [if_neg (by omega)]))
      · rw [if_neg h2, if_neg (by omega), up_n (by omega)]
  rw [show b + 2 + 3 * 0 = N + 1 by omega, ← e] at h1
  exact h1
end
section
/-! constructors: the saved stores, the whole object -/
theorem sput_ad {ad ad' : Int → Nat} {ty : Nat → ClassId} {σ : Int → va_E} {b q : Int} {s : Int → Int} (h : ∀ j : Int, b ≤ j → j < b + 20 → ad j = ad' j) : sput ad ty σ b s q = sput ad' ty σ b s q := by
  unfold sput
  split
  · unfold sF; rw [h (b + 1) (by omega) (by omega)]
  · split
    · congr 1
      funext j
      unfold rmA
      by_cases hj : j < 6
      · rw [if_pos hj, if_pos hj, h (b + 2 + 3 * (j : Int)) (by omega) (by omega)]
      · rw [if_neg hj, if_neg hj]
    · split
      · exact rcell_adG (h _ (by omega) (by omega)) (h _ (by omega) (by omega))
      · rfl
theorem vputF_ad {ad ad' : Int → Nat} {ty : Nat → ClassId} {σ : Int → va_E} {v n k q : Int} {u : Int → Int → Int} (h : ∀ j : Int, v ≤ j → j < v + 122 → ad j = ad' j) : vputF ad ty σ v n (vrow ad v k) u q = vputF ad' ty σ v n (vrow ad' v k) u q := by
  unfold vputF
  split
  · rw [h (v + 1) (by omega) (by omega)]
  · split
    · congr 1
      funext j
      unfold vrow
      by_cases hj : j < 6
      · rw [if_pos hj, if_pos hj, h (v + 2 + 20 * (((j : Int) + k) % 6)) (by omega) (by omega)]
      · rw [if_neg hj, if_neg hj]
    · split
      · exact sput_ad fun j h1 h2 => h j (by omega) (by omega)
      · rfl
def vpart (ad : Int → Nat) (ty : Nat → ClassId) (σ : Int → va_E) (v r : Int) : Int → va_E := fun q =>
  if q = v then .inr (2, [.ref (ad (v + 1)), .int 0]) else if q = v + 1 then gRA (ty 4) 6 (fun j => if (j : Int) < r then some (ad (v + 2 + 20 * (j : Int))) else none) else
  if v + 2 ≤ q ∧ q < v + 2 + 20 * r then sput ad ty σ (v + 2 + 20 * ((q - v - 2) / 20)) store0 q else σ q
theorem vpart_6 {ad : Int → Nat} {ty : Nat → ClassId} {σ : Int → va_E} {v : Int} : vpart ad ty σ v 6 = vputF ad ty σ v 0 (vrow ad v 0) (fun _ => store0) := by
  funext q
  unfold vpart vputF
  split
  · simp [gI_0]
  · split
    · congr 1
      funext j
      unfold vrow
      by_cases h : j < 6
      · rw [if_pos h, if_pos (by omega), show ((j : Int) + 0) % 6 = (j : Int) by omega]
      · rw [if_neg h, if_neg (by omega)]
    · by_cases h : v + 2 ≤ q ∧ q < v + 122
      · rw [if_pos h, if_pos (by omega)]
      · rw [if_neg h, if_neg (by omega)]
theorem vpart_s {ad ad' : Int → Nat} {ty : Nat → ClassId} {σ : Int → va_E} {v r : Int} {e : va_E} (hr : 0 ≤ r ∧ r < 6) (ha : ∀ j, j < v + 2 + 20 * r → ad' j = ad j) :
    up (sput ad' ty (up (vpart ad ty σ v r) (v + 2 + 20 * r) e) (v + 2 + 20 * r) store0) (v + 1) (gRA (ty 4) 6 (va_up (fun j => if (j : Int) < r then some (ad (v + 2 + 20 * (j : Int))) else none) r.toNat (some (ad' (v + 2 + 20 * r))))) = vpart ad' ty σ v (r + 1) := by
  funext q
  by_cases h1 : q = v + 1
  · subst h1
    rw [up_s]
    unfold vpart
    rw [if_neg (by omega), if_pos rfl]
    congr 1
    funext j
    unfold va_up
    by_cases h : j = r.toNat
    · rw [if_pos h, if_pos (by omega), show (j : Int) = r by omega]
    · rw [if_neg h]
      dsimp only
      by_cases h2 : (j : Int) < r
      · rw [if_pos h2, if_pos (by omega), ha _ (by omega)]
      · rw [if_neg h2, if_neg (by omega)]
  · rw [up_n h1]
    by_cases h : v + 2 + 20 * r ≤ q ∧ q < v + 2 + 20 * r + 20
    · rw [sput_in (σ' := σ) (by omega)]
      unfold vpart
      rw [if_neg (by omega), if_neg h1, if_pos (by omega), show (q - v - 2) / 20 = r by omega]
    · rw [sput_x (by omega), up_n (by omega)]
      unfold vpart
      by_cases h0 : q = v
      · rw [if_pos h0, if_pos h0, ha _ (by omega)]
      · rw [if_neg h0, if_neg h0, if_neg h1, if_neg h1]
        by_cases h2 : v + 2 ≤ q ∧ q < v + 2 + 20 * r
        · rw [if_pos h2, if_pos (by omega)]
          exact sput_ad fun j h1 h2 => (ha j (by omega)).symm
        · rw [if_neg h2, if_neg (by omega)]
set_option maxRecDepth 100000 in
set_option maxHeartbeats 4000000 in
theorem c_X2_init {l : Launch} {D : va_G} {ty : Nat → ClassId} {ad : Int → Nat} {N : Int} {σ : Int → va_E} {v : Int} {h0 : Nat} (hv : 0 ≤ v ∧ v + 1 = N) (he : ad v = h0) (hσ : σ v = .inr (2, [.null, .int 0])) : gMet l yX2_init cX2_init 2 none { frames := 3, cells := 121, slots := 714, locals := 90 } [.ref h0] D ty ad N σ (gMk N 121 ad (fun ad' => vputF ad' ty σ v 0 (vrow ad' v 0) (fun _ => store0))) := by
  refine gMet_of [some (.ref h0), none] (by decide +kernel) rfl (Nat.le_of_ble_eq_true rfl) rfl ?_
  intro X hl hD hty C hini
  subst hl hD hty
  refine r_aload_n C dX2_init_0 rfl rfl ?_
  refine r_objInit C koX2_3 dX2_init_1 rfl (by decide) ?_
  refine r_aload_n C dX2_init_4 rfl rfl ?_
  refine r_bipush C dX2_init_5 (by decide) ?_
  refine r_newStores (n := 6) C knX2_9.1 dX2_init_7 (by decide) (by omega) ⟨Nat.le_of_ble_eq_true rfl, Nat.le_of_ble_eq_true rfl⟩ (fun q1 => ?_)
  refine ra_putF (a := v) C hini flX2_11 dX2_init_10 ((up_n (by omega)).trans he) (by omega) ((up_n (by omega)).trans hσ) rfl rfl rfl rfl (Nat.le_of_ble_eq_true rfl) ?_
  refine r_iconst C dX2_init_13 ?_
  refine r_istore_n C dX2_init_14 rfl (Nat.le_of_ble_eq_true rfl) rfl ?_
  dsimp only [List.set]
  have lp : ∀ (n : Nat) (r : Int) (ad1 : Int → Nat) (kc kn : Nat), (0 ≤ r) → (r + n = 6) → (∀ j, j < N → ad1 j = ad j) → (kc + 20 * n = 121) → (kn + 118 * n = 714) → V X kc kn (gQ X (gMk N 121 ad (fun ad' => vputF ad' (gty X) σ v 0 (vrow ad' v 0) (fun _ => store0))) 121 714) 15 [some (.ref h0), some (.int (gI r))] [] ad1 (v + 2 + 20 * r) (vpart ad1 (gty X) σ v r) := by
    intro n
    induction n with
    | zero =>
      intro r ad1 kc kn hr hrn ha hkc hkn
      have hr6 : r = 6 := by omega
      subst hr6
      refine r_iload_n C dX2_init_15 rfl rfl ?_
      refine r_bipush C dX2_init_16 (by decide) ?_
      refine r_icmp_ge (tgt := 40) C dX2_init_18 (by decide) (by omega) (by omega) (fun h18 => ?_) (fun h18 => ?_)
      · rw [vpart_6]
        exact r_vret C dX2_init_40 ⟨rfl, by omega, ha, rfl⟩ (by omega) (by omega)
      · exact absurd h18 (by omega)
    | succ n ih =>
      intro r ad1 kc kn hr hrn ha hkc hkn
      have he1 : ad1 v = h0 := (ha v (by omega)).trans he
      refine r_iload_n C dX2_init_15 rfl rfl ?_
      refine r_bipush C dX2_init_16 (by decide) ?_
      refine r_icmp_ge (tgt := 40) C dX2_init_18 (by decide) (by omega) (by omega) (fun h18 => ?_) (fun h18 => ?_)
      · exact absurd h18 (by omega)
      · refine r_aload_n C dX2_init_21 rfl rfl ?_
        refine ra_get (a := v) C flX2_11 dX2_init_22 he1 (by omega) (if_pos rfl) rfl ?_
        refine r_iload_n C dX2_init_25 rfl rfl ?_
        refine r_new (ci := 3) (fs := zF3) C inW3 tyX3_ok knX2_9 rfl dX2_init_26 (fun j hj => by rcases (show j = 0 ∨ j = 1 ∨ j = 2 ∨ j = 3 ∨ j = 4 ∨ j = 5 ∨ j = 6 ∨ j = 7 ∨ j = 8 ∨ j = 9 by omega) with rfl | rfl | rfl | rfl | rfl | rfl | rfl | rfl | rfl | rfl <;> rfl) (by omega) ⟨(show kc + 1 ≤ 121 by omega), (show kn + 10 ≤ 714 by omega)⟩ (fun q2 => ?_)
        refine r_dup C dX2_init_29 rfl ?_
        refine r_callI (RY := { frames := 2, cells := 19, slots := 108, locals := 60 }) C cwX2_17 (c_X3_init (b := v + 2 + 20 * r) (by omega) (up_s _ _ _) (up_s _ _ _)) dX2_init_30 rfl rfl rfl (Nat.le_of_ble_eq_true rfl) ⟨Nat.le_of_ble_eq_true rfl, Nat.le_of_ble_eq_true rfl⟩ ⟨(show kc + 1 + 19 ≤ 121 by omega), (show kn + 10 + 108 ≤ 714 by omega)⟩ (fun rv ad2 N2 σ2 hp => ?_)
        obtain ⟨rfl, rfl, ha2, hs2⟩ := hp
        dsimp only at hs2
        subst hs2
        have ha3 : ∀ j, j < v + 2 + 20 * r → ad2 j = ad1 j := fun j hj => (ha2 j (by omega)).trans (up_n (by omega))
        have hq2 : ad2 (v + 2 + 20 * r) = q2 := (ha2 _ (by omega)).trans (up_s _ _ _)
        refine ra_aast (a := v + 1) (b := v + 2 + 20 * r) (t := 4) C dX2_init_33 (ha3 _ (by omega)) hq2 (by omega) (f := fun j => if (j : Int) < r then some (ad1 (v + 2 + 20 * (j : Int))) else none) (c := gty X 4) (n := 6) (r := (RX3, TX3, 10)) ?_ rfl (by omega) (by decide) (by omega) sput_0 rfl ?_
        · rw [sput_x (by omega), up_n (by omega)]
          unfold vpart
          rw [if_neg (by omega), if_pos rfl]
        · rw [← hq2, vpart_s (by omega) ha3]
          refine r_iinc C dX2_init_34 rfl rfl ?_
          dsimp only [List.set]
          refine r_goto (tgt := 15) C dX2_init_37 (by decide) ?_
          rw [show v + 2 + 20 * r + 1 + 19 = v + 2 + 20 * (r + 1) by omega]
          exact ih (r + 1) ad2 _ _ (by omega) (by omega) (fun j hj => (ha3 j (by omega)).trans (ha j hj)) (by omega) (by omega)
  have h1 := lp 6 0 (up ad N q1) 1 6 (by omega) (by omega) (fun j hj => up_n (by omega)) (by omega) (by omega)
  have e : up (up σ N (gRA (gty X 4) 6 (fun _ => none))) v (.inr (2, [.null, .int 0].set 0 (.ref q1))) = vpart (up ad N q1) (gty X) σ v 0 := by
    funext q
    unfold vpart
    by_cases h1 : q = v
    · subst h1
      rw [up_s, if_pos rfl, show q + 1 = N by omega, up_s]
      all_goals rfl
    · rw [up_n h1, if_neg h1]
      by_cases h2 : q = v + 1
      · subst h2
        rw [if_pos rfl, show v + 1 = N by omega, up_s]
        all_goals (congr 1 <;> (funext j; rw [if_neg (by omega)]))
      · rw [if_neg h2, if_neg (by omega), up_n (by omega)]
  rw [show v + 2 + 20 * 0 = N + 1 by omega, ← e] at h1
  exact h1
set_option maxRecDepth 100000 in
set_option maxHeartbeats 4000000 in
theorem c_X4_init {l : Launch} {D : va_G} {ty : Nat → ClassId} {ad : Int → Nat} {N : Int} {σ : Int → va_E} {x : Int} {h0 : Nat} (hx : 0 ≤ x ∧ x + 1 = N) (he : ad x = h0) (hσ : σ x = .inr (4, [.null, .null, .null])) : gMet l yX4_init cX4_init 1 none { frames := 4, cells := 144, slots := 896, locals := 120 } [.ref h0] D ty ad N σ (gMk N 144 ad (fun ad' => xput ad' ty σ x store0 0 0 (fun _ => store0) 0 (fun _ => 0))) := by
  refine gMet_of [some (.ref h0)] (by decide +kernel) rfl (Nat.le_of_ble_eq_true rfl) rfl ?_
  intro X hl hD hty C hini
  subst hl hD hty
  obtain ⟨hx0, rfl⟩ := hx
  refine r_aload_n C dX4_init_0 rfl rfl ?_
  refine r_objInit C koX4_1 dX4_init_1 rfl (by decide) ?_
  refine r_aload_n C dX4_init_4 rfl rfl ?_
  refine r_new (ci := 3) (fs := zF3) C inW3 tyX3_ok knX4_7 rfl dX4_init_5 (fun j hj => by rcases (show j = 0 ∨ j = 1 ∨ j = 2 ∨ j = 3 ∨ j = 4 ∨ j = 5 ∨ j = 6 ∨ j = 7 ∨ j = 8 ∨ j = 9 by omega) with rfl | rfl | rfl | rfl | rfl | rfl | rfl | rfl | rfl | rfl <;> rfl) (by omega) ⟨Nat.le_of_ble_eq_true rfl, Nat.le_of_ble_eq_true rfl⟩ (fun q1 => ?_)
  refine r_dup C dX4_init_8 rfl ?_
  refine r_callI (RY := { frames := 2, cells := 19, slots := 108, locals := 60 }) C cwX4_9 (c_X3_init (b := x + 1) (by omega) (up_s _ _ _) (up_s _ _ _)) dX4_init_9 rfl rfl rfl (Nat.le_of_ble_eq_true rfl) ⟨Nat.le_of_ble_eq_true rfl, Nat.le_of_ble_eq_true rfl⟩ ⟨Nat.le_of_ble_eq_true rfl, Nat.le_of_ble_eq_true rfl⟩ (fun rv ad1 N1 σ1 hp => ?_)
  obtain ⟨rfl, rfl, ha1, hs2⟩ := hp
  dsimp only at hs2
  subst hs2
  rw [show x + 1 + 1 + 19 = x + 21 by omega]
  have hj1 : ∀ j, j < x + 1 → ad1 j = ad j := fun j hj => (ha1 j (by omega)).trans (up_n (by omega))
  have hq1 : ad1 (x + 1) = q1 := (ha1 _ (by omega)).trans (up_s _ _ _)
  refine ra_putF (a := x) C hini flX4_10 dX4_init_12 ((hj1 x (by omega)).trans he) (by omega) ((sput_x (by omega)).trans ((up_n (by omega)).trans hσ)) rfl rfl rfl rfl (Nat.le_of_ble_eq_true rfl) ?_
  refine r_aload_n C dX4_init_15 rfl rfl ?_
  refine r_new (ci := 2) (fs := [.null, .int 0]) C inW2 tyX2_ok knX4_16 rfl dX4_init_16 (fun j hj => by rcases (show j = 0 ∨ j = 1 by omega) with rfl | rfl <;> rfl) (by omega) ⟨Nat.le_of_ble_eq_true rfl, Nat.le_of_ble_eq_true rfl⟩ (fun q2 => ?_)
  refine r_dup C dX4_init_19 rfl ?_
  refine r_callI (RY := { frames := 3, cells := 121, slots := 714, locals := 90 }) C cwX4_18 (c_X2_init (v := x + 21) (by omega) (up_s _ _ _) (up_s _ _ _)) dX4_init_20 rfl rfl rfl (Nat.le_of_ble_eq_true rfl) ⟨Nat.le_of_ble_eq_true rfl, Nat.le_of_ble_eq_true rfl⟩ ⟨Nat.le_of_ble_eq_true rfl, Nat.le_of_ble_eq_true rfl⟩ (fun rv ad2 N2 σ2 hp => ?_)
  obtain ⟨rfl, rfl, ha2, hs2⟩ := hp
  dsimp only at hs2
  subst hs2
  rw [show x + 21 + 1 + 121 = x + 143 by omega]
  have hj2 : ∀ j, j < x + 21 → ad2 j = ad1 j := fun j hj => (ha2 j (by omega)).trans (up_n (by omega))
  have hq2 : ad2 (x + 21) = q2 := (ha2 _ (by omega)).trans (up_s _ _ _)
  refine ra_putF (a := x) C hini flX4_19 dX4_init_23 ((hj2 x (by omega)).trans ((hj1 x (by omega)).trans he)) (by omega) ((vputF_x (by omega)).trans ((up_n (by omega)).trans (up_s _ _ _))) rfl rfl rfl rfl (Nat.le_of_ble_eq_true rfl) ?_
  refine r_aload_n C dX4_init_26 rfl rfl ?_
  refine r_new (ci := 0) (fs := [.null, .int 0]) C inW0 tyX0_ok knX4_23 rfl dX4_init_27 (fun j hj => by rcases (show j = 0 ∨ j = 1 by omega) with rfl | rfl <;> rfl) (by omega) ⟨Nat.le_of_ble_eq_true rfl, Nat.le_of_ble_eq_true rfl⟩ (fun q3 => ?_)
  refine r_dup C dX4_init_30 rfl ?_
  refine r_callI (RY := { frames := 1, cells := 1, slots := 60, locals := 20 }) C cwX4_25 (c_X0_init (k := x + 143) (by omega) (up_s _ _ _) (up_s _ _ _)) dX4_init_31 rfl rfl rfl (Nat.le_of_ble_eq_true rfl) ⟨Nat.le_of_ble_eq_true rfl, Nat.le_of_ble_eq_true rfl⟩ ⟨Nat.le_of_ble_eq_true rfl, Nat.le_of_ble_eq_true rfl⟩ (fun rv ad3 N3 σ3 hp => ?_)
  obtain ⟨rfl, rfl, ha3, hs2⟩ := hp
  dsimp only at hs2
  subst hs2
  have hj3 : ∀ j, j < x + 143 → ad3 j = ad2 j := fun j hj => (ha3 j (by omega)).trans (up_n (by omega))
  have hq3 : ad3 (x + 143) = q3 := (ha3 _ (by omega)).trans (up_s _ _ _)
  refine ra_putF (a := x) C hini flX4_26 dX4_init_34 ((hj3 x (by omega)).trans ((hj2 x (by omega)).trans ((hj1 x (by omega)).trans he))) (by omega) ((dput_x (by omega)).trans ((up_n (by omega)).trans (up_s _ _ _))) rfl rfl rfl rfl (Nat.le_of_ble_eq_true rfl) ?_
  refine r_vret C dX4_init_37 ⟨rfl, by omega, fun j hj => (hj3 j (by omega)).trans ((hj2 j (by omega)).trans (hj1 j hj)), ?_⟩ (Nat.le_of_ble_eq_true rfl) (Nat.le_of_ble_eq_true rfl)
  show _ = xput ad3 (gty X) σ x store0 0 0 (fun _ => store0) 0 (fun _ => 0)
  funext q
  by_cases h1 : q = x
  · subst h1
    rw [up_s, xput_0, ← hq1, ← hq2, ← hq3, ← hj2 (q + 1) (by omega), ← hj3 (q + 1) (by omega), ← hj3 (q + 21) (by omega)]
    rfl
  · rw [up_n h1]
    by_cases h2 : x + 143 ≤ q ∧ q < x + 145
    · rw [dput_in (σ' := σ) (by omega)]
      unfold xput
      rw [if_neg h1, if_neg (by omega), if_neg (by omega), if_pos h2]
    · rw [dput_x (by omega), up_n (by omega), up_n h1]
      by_cases h3 : x + 21 ≤ q ∧ q < x + 143
      · rw [vputF_in (σ' := σ) (by omega), vputF_ad (ad' := ad3) (fun j h1 h2 => (hj3 j (by omega)).symm)]
        unfold xput
        rw [if_neg h1, if_neg (by omega), if_pos h3]
      · rw [vputF_x (by omega), up_n (by omega), up_n h1]
        by_cases h4 : x + 1 ≤ q ∧ q < x + 21
        · rw [sput_in (σ' := σ) (by omega), sput_ad (ad' := ad3) (fun j h1 h2 => ((hj3 j (by omega)).trans (hj2 j (by omega))).symm)]
          unfold xput
          rw [if_neg h1, if_pos h4]
        · rw [sput_x (by omega), up_n (by omega), xput_x (by omega)]
end
section
/-! exceptions: what throwing needs of the world, contracts that throw, rows -/
def eI : String := "java/lang/IndexOutOfBoundsException"
def eA : String := "java/lang/IllegalArgumentException"
def eS : String := "java/lang/IllegalStateException"
def eNs : List String := ["java/lang/RuntimeException", "java/lang/Exception"]
def gStr : List (Nat × String) := [(214, "there is no such room"), (40, "some candle burns, or this one is burnt down"), (57, "this candle cannot be lit from that one"), (63, "the box is empty"), (73, "there is no such door"), (95, "strength is 1 to 6"), (102, "the setting is 1 to 50"), (216, "a key is 0 to 99"), (114, "a thing has this key, or the room is full"), (122, "1 to 60 beats pass"), (156, "no state is saved"), (218, "there is no such number")]
def gDcl : List MethodName := [⟨"java/lang/RuntimeException", "<init>", "(Ljava/lang/String;)V"⟩, ⟨"java/lang/Exception", "<init>", "(Ljava/lang/String;)V"⟩, ⟨"java/lang/Throwable", "<init>", "(Ljava/lang/String;)V"⟩]
def gE (A : Nat → Prop) (U : State) (H : Heap) : Prop :=
  (vx_Zq Bundle.tN "UNASSIGNED_STACK" Bundle.steD A U H ∧ vx_Zq Bundle.tN "SUPPRESSED_SENTINEL" Bundle.listD A U H) ∧ (va_Nw (.castable eI eI) U ∧ va_Nw (.castable eA eA) U ∧ va_Nw (.castable eS eS) U) ∧ (va_Nc eI eS U ∧ va_Nc eA eS U ∧ va_Nc eA eS U) ∧ (∀ q ∈ gStr, ∃ sa : Nat, vk_R RX4 q.1 q.2 sa U) ∧ ∀ y ∈ gDcl, va_Nw (.declares y) U
theorem gE.warm {A : Nat → Prop} {s U : State} {H : Heap} (hW : s.WarmedH U.vm) (h : gE A s H) : gE A U H :=
  ⟨⟨h.1.1.moved hW.alike, h.1.2.moved hW.alike⟩, ⟨va_Nw.warmC hW h.2.1.1, va_Nw.warmC hW h.2.1.2.1, va_Nw.warmC hW h.2.1.2.2⟩, ⟨h.2.2.1.1.moved hW.alike, h.2.2.1.2.1.moved hW.alike, h.2.2.1.2.2.moved hW.alike⟩, fun q hq => by obtain ⟨sa, h9⟩ := h.2.2.2.1 q hq; exact ⟨sa, vk_R.warm hW h9⟩, fun y hy => va_Nw.warmD hW (h.2.2.2.2 y hy)⟩
theorem gE.same {A : Nat → Prop} {s U : State} {H : Heap} (e : U.vm = s.vm) (h : gE A s H) : gE A U H := by
  have hal : s.vm.Alike U.vm := by rw [e]; exact Vm.Alike.refl _
  exact ⟨⟨h.1.1.moved hal, h.1.2.moved hal⟩, ⟨va_Nw.same rfl e.symm h.2.1.1, va_Nw.same rfl e.symm h.2.1.2.1, va_Nw.same rfl e.symm h.2.1.2.2⟩, ⟨h.2.2.1.1.moved hal, h.2.2.1.2.1.moved hal, h.2.2.1.2.2.moved hal⟩, fun q hq => by obtain ⟨sa, h9⟩ := h.2.2.2.1 q hq; exact ⟨sa, vk_R.same e h9⟩, fun y hy => va_Nw.same rfl e.symm (h.2.2.2.2 y hy)⟩
theorem gE.kept {A : Nat → Prop} {s : State} {H H1 : Heap} (h : gE A s H) (hq : ∀ a : Nat, a < H.size → ¬ A a → H1[a]? = H[a]?) : gE A s H1 := ⟨⟨h.1.1.kept hq, h.1.2.kept hq⟩, h.2⟩
theorem gE.narrow {A B : Nat → Prop} {s : State} {H : Heap} (h : gE A s H) (hAB : ∀ q, B q → A q) : gE B s H := ⟨⟨h.1.1.narrow hAB, h.1.2.narrow hAB⟩, h.2⟩
/-- what a throw leaves -/
def gXC (D : va_G) (ad : Int → Nat) (N : Int) (σ : Int → va_E) (A : Nat → Prop) (E : String) : String → State → State → Prop := vx_X (fun _ : Unit => True) (fun E' _ t => E' = E ∧ va_P D vwCl (gl ad N σ) t.heap) A
def gNo : Array Value → State → Outcome → State → Prop := fun _ _ _ _ => False
/-- the contract of a method that throws E and changes nothing -/
def gThr (l : Launch) (y : MethodName) (cc : ByteArray) (nL : Nat) (ret : Option FieldType) (f lo : Nat) (av : List Value) (D : va_G) (ty : Nat → ClassId) (ad : Int → Nat) (N : Int) (σ : Int → va_E) (E : String) : Prop :=
  ∀ sz : Nat, vx_Met l y (.code y cc nL ret :: WS) { frames := f, cells := 1, slots := 6, locals := lo } (va_Pc av (fun U => U.heap.size = sz ∧ gw D ty ad N σ U ∧ gE (gA ad N sz) U U.heap)) gNo (gXC D ad N σ (gA ad N sz) E) 1 6 (gA ad N sz)
def gXQ (X : gT) (E : String) (ad : Int → Nat) (N : Int) (σ : Int → va_E) : State → Prop := vx_MQ (gbl X) gNo (gXC (gDD X) ad N σ (gAA X) E) (gar X) (gst X) 1 6 (gAA X)
/-- what a walk that throws knows besides -/
def gXk (X : gT) : Prop := (gln X).stackTraces = false ∧ gE (gAA X) (gst X) (gst X).heap
def gXt (X : gT) : Prop := ∀ x ∈ (gco X).exceptionTable.toList, False
theorem gThr_of {l : Launch} {y : MethodName} {cc : ByteArray} {nL : Nat} {ret : Option FieldType} {f lo : Nat} {av : List Value} {D : va_G} {ty : Nat → ClassId} {ad : Int → Nat} {N : Int} {σ : Int → va_E} {E : String} (L : List (Option Value)) (hst : l.stackTraces = false)
    (hy : plainName y.cls = true) (hL : gent av ++ List.replicate (nL - (gent av).length) none = L) (hn : (lg_sl av).length ≤ nL) (hn2 : L.length = nL)
    (body : ∀ X : gT, gln X = l → gDD X = D → gty X = ty → gOk X cc nL y.cls { frames := f, cells := 1, slots := 6, locals := lo } ret → gXk X → gXt X → V X 0 0 (gXQ X E ad N σ) 0 L [] ad N σ) : gThr l y cc nL ret f lo av D ty ad N σ E := by
  intro sz
  refine vx_ofW (cc := cc) (maxL := nL) (ret := ret) hy rfl ?_
  intro p e s m args below meth c s₁ B hml htab hv
  obtain ⟨rfl, hsz, ⟨hP, hK, hD0, hO1, hO3, hNs⟩, hE⟩ := hv
  have hts := atoms_spec (ws := .code y cc nL ret :: WS) B.pre
  subst hsz
  have hb := body (p, l, e, { frames := f, cells := 1, slots := 6, locals := lo }, s, m, av.toArray, below, meth, c, D, ty, gA ad N s.heap.size) rfl rfl rfl
    ⟨B.exec, B.bytes, hml, findClass_of_methodNamed B.named, fun w hw => hts w (List.mem_cons_of_mem _ hw), B.notSynchronized, B.returns, rfl, hK, fun q h => Or.inr h, hO1, hO3, hNs⟩ ⟨hst, hE⟩ htab
  have hl := lv_entry av (n := nL) hn
  rw [lg_entry_eq]
  generalize (lg_sl av ++ List.replicate (nL - (lg_sl av).length) Slot.unset).toArray = ls at hl ⊢
  refine hb ls s.heap [] ?_ ⟨hP, ⟨hD0.1, fun k q hq => ?_⟩, va_S.rf⟩
  · rw [← hL, gent_args, hL, hn2]; exact hl
  · obtain ⟨h1, h2⟩ := gl_of hq
    exact Or.inl ⟨k, h1, by rw [h2]⟩
theorem thw_I : ∀ w ∈ vx_atS RX4 75 eI eNs, w ∈ WS ∨ w ∈ Cond.castable eI eI :: gDcl.map Cond.declares := by
  have h : ∀ w ∈ vx_atS RX4 75 eI eNs, (w ∈ lw_tbl ∧ goodWord w = true) ∨ w ∈ Cond.castable eI eI :: gDcl.map Cond.declares := by decide +kernel
  exact fun w hw => (h w hw).imp (fun z => List.mem_filter.mpr z) id
theorem thw_A : ∀ w ∈ vx_atS RX4 97 eA eNs, w ∈ WS ∨ w ∈ Cond.castable eA eA :: gDcl.map Cond.declares := by
  have h : ∀ w ∈ vx_atS RX4 97 eA eNs, (w ∈ lw_tbl ∧ goodWord w = true) ∨ w ∈ Cond.castable eA eA :: gDcl.map Cond.declares := by decide +kernel
  exact fun w hw => (h w hw).imp (fun z => List.mem_filter.mpr z) id
theorem thw_S : ∀ w ∈ vx_atS RX4 42 eS eNs, w ∈ WS ∨ w ∈ Cond.castable eS eS :: gDcl.map Cond.declares := by
  have h : ∀ w ∈ vx_atS RX4 42 eS eNs, (w ∈ lw_tbl ∧ goodWord w = true) ∨ w ∈ Cond.castable eS eS :: gDcl.map Cond.declares := by decide +kernel
  exact fun w hw => (h w hw).imp (fun z => List.mem_filter.mpr z) id
/-- what 'throw new E(text)' needs of the tables -/
def gTW (E : String) (ik ic : Nat) : Prop := Cond.classLink RX4 ik E ∈ WS ∧ Cond.initialized E ∈ WS ∧ (∀ w ∈ vx_atS RX4 ic E eNs, w ∈ WS ∨ w ∈ Cond.castable E E :: gDcl.map Cond.declares) ∧ (∀ w ∈ Cond.classLink RX4 ik E :: Cond.initialized E :: vx_atS RX4 ic E eNs, vx_ot w = true) ∧ Bundle.fit E = true ∧ (E = eI ∨ E = eA ∨ E = eS)
theorem gTW_I : gTW eI 71 75 := ⟨gws 303 (by decide +kernel) (by decide +kernel), kiIndexOutOfBoundsException, thw_I, by decide +kernel, by decide +kernel, Or.inl rfl⟩
theorem gTW_A : gTW eA 93 97 := ⟨gws 158 (by decide +kernel) (by decide +kernel), kiIllegalArgumentException, thw_A, by decide +kernel, by decide +kernel, Or.inr (Or.inl rfl)⟩
theorem gTW_S : gTW eS 38 42 := ⟨gws 475 (by decide +kernel) (by decide +kernel), kiIllegalStateException, thw_S, by decide +kernel, by decide +kernel, Or.inr (Or.inr rfl)⟩
section EXC
variable {X : gT} {cc : ByteArray} {nL : Nat} {own : String} {R : Room} {ret : Option FieldType} {kc kn : Nat} {Q : State → Prop} {pc : Nat} {L : List (Option Value)} {st : List Value} {ad : Int → Nat} {N : Int} {σ : Int → va_E} {E : String}
theorem r_throw (C : gOk X cc nL RX4 R ret) (hX : gXk X) (hT : gXt X) {text : String} {ik is ic : Nat} (w : gTW E ik ic) (hs : (is, text) ∈ gStr) (d0 : decode cc pc = .ok (.new ik, 3)) (d3 : decode cc (pc + 3) = .ok (.dup, 1)) (d4 : decode cc (pc + 4) = .ok (.ldc is, 2)) (d6 : decode cc (pc + 6) = .ok (.invokespecial ic, 3)) (d9 : decode cc (pc + 9) = .ok (.athrow, 1)) (hL : L.length = nL) (hR : 5 < R.frames ∧ (st.map fun v => v.category).sum + 82 ≤ R.locals ∧ 1 ≤ R.cells ∧ 6 ≤ R.slots) : V X 0 0 (gXQ X E ad N σ) pc L st ad N σ := fun ls H locs hl hw => by
  obtain ⟨w1, w2, w3, w4, w5, w6⟩ := w
  obtain ⟨sa, hsa⟩ := hX.2.2.2.2.1 (is, text) hs
  have hR' := C.2.2.2.2.2.2.2.1
  have hts := C.2.2.2.2.1
  have hcs : (Cond.castable E E).before (gar X) (gst X) = true := by
    rcases w6 with rfl | rfl | rfl
    · exact va_Nw.use rfl hX.2.2.1.1
    · exact va_Nw.use rfl hX.2.2.1.2.1
    · exact va_Nw.use rfl hX.2.2.1.2.2
  refine vx_throwS C.1 C.2.1 hX.1 (names := eNs) (text := text) (sa := sa) (A := gAA X) C.2.2.2.1 w5 (by decide +kernel) (hts _ w1) (hts _ w2) hsa (fun w hw => (w3 w hw).elim (hts w) (fun e => (List.mem_cons.mp e).elim (fun e => by rw [e]; exact hcs) (fun e => by obtain ⟨y, hy, rfl⟩ := List.mem_map.mp e; exact va_Nw.use rfl (hX.2.2.2.2.2 y hy)))) w4 hX.2.1.1 hX.2.1.2 hw.2.2 (by rw [C.2.2.1, hl.1, hL]) d0 d3 d4 d6 d9 (fun x hx => (hT x hx).elim) (by rw [hR']; exact hR.1) (by rw [hR']; exact hR.2.1) (by rw [hR']; exact hR.2.2.1) (by rw [hR']; exact hR.2.2.2) C.2.2.2.2.2.1 (fun t hvm hz hk => ?_) hw.2.2.2.2 (Nat.le_refl _) (Nat.le_refl _)
  exact ⟨(), trivial, ⟨rfl, hw.1.kept fun k q hk9 => hk q.1 (vx_lt hw.1 hk9)⟩, Nat.le_trans hw.2.2.1 hz, fun q h1 h2 => by rw [hk q (Nat.lt_of_lt_of_le h1 hw.2.2.1)]; exact hw.2.2.2.1 q h1 h2⟩
/-- behind a call that throws -/
theorem g_backX (C : gOk X cc nL own R ret) {rest : List Value} {ls : Array Slot} {H : Heap} {locs : List Loc} {Qa : State → Outcome → State → Prop} (hQa : ∀ a b c, ¬ Qa a b c)
    (hr : vx_Run (gpr X) (gln X) (gev X) (gRm X) (gst X) (gmi X) (gar X) (gbl X) (gme X) (gco X) H locs kc kn 1 6 (F0 (gmi X) pc ls st) rest Qa (gXC (gDD X) ad N σ (gA ad N H.size) E) (gA ad N H.size)) (hw : gWd X ad N σ H locs)
    (kx : ∀ (q : Nat) (ce : Cell) (H1 : Heap) (locs1 : List Loc), gWd X ad N σ H1 locs1 → H1[q]? = some ce → ce.vm = .none → (gst X).vm.findClass E = some ce.cls → vx_W (gpr X) (gln X) (gev X) (gRm X) (gst X) (gmi X) (gar X) (gbl X) (gme X) (gco X) H1 locs1 (kc + 1) (kn + 6) Q (F0 (gmi X) pc ls rest) q) : gW X H locs kc kn Q (F0 (gmi X) pc ls st) := by
  intro T hT X0
  rcases hr T hT X0 with ⟨v, st₀, t, T', L1, h0, X', hL, e1, e2, hq, stp⟩ | ⟨q, st₀, t, T', L1, E', ce, h0, X', hL, e1, e2, ⟨u, hp, ⟨rfl, hP⟩, hz, hk⟩, hce, hcv, hcl, stp⟩
  · exact (hQa _ _ _ hq).elim
  · rw [h0] at hz hk
    have hf := gA_free C.2.2.2.2.2.2.2.2.2.1 hw
    obtain ⟨t2, a1, b1⟩ := kx q ce T'.heap (locs ++ L1)
      ⟨by rw [e1]; exact hP, hw.2.1, ⟨Nat.le_trans hw.2.2.1 (by rw [e1]; exact hz), fun q h1 h2 => by rw [e1, hk q (Nat.lt_of_lt_of_le h1 hw.2.2.1) (fun z => h2 (hf q z))]; exact hw.2.2.2.1 q h1 h2, fun q hq => by
        rcases List.mem_append.mp hq with h | h
        · exact hw.2.2.2.2 q h
        · exact hf _ (hL q h)⟩⟩ (by rw [e1]; exact hce) hcv hcl T' rfl X'
    exact ⟨t2, stp.trans a1, b1⟩
theorem gX_blind {av : List Value} {sz : Nat} {D : va_G} {ty : Nat → ClassId} : FrameBlind (va_Pc av (fun U => U.heap.size = sz ∧ gw D ty ad N σ U ∧ gE (gA ad N sz) U U.heap)) := fun a U g mk q => by
  obtain ⟨q0, q1, ⟨qP, qK, qD, qO, qO3, qN⟩, qE⟩ := q
  exact ⟨q0, q1, ⟨qP, va_K.moved (u := U) (U := U.calling g mk a) (Vm.Alike.refl U.vm) qK, qD, qO.moved (U := U.calling g mk a) (Vm.Alike.refl U.vm), qO3.moved (U := U.calling g mk a) (Vm.Alike.refl U.vm), gNs.same (U := U.calling g mk a) rfl qN⟩, gE.same (s := U) (U := U.calling g mk a) rfl qE⟩
theorem gX_pre (C : gOk X cc nL own R ret) (hE : gE (gAA X) (gst X) (gst X).heap) {H : Heap} {locs : List Loc} (hw : gWd X ad N σ H locs) {U : State} (hU : U.heap = H) (hW : (gst X).WarmedH U.vm) : U.heap.size = H.size ∧ gw (gDD X) (gty X) ad N σ U ∧ gE (gA ad N H.size) U U.heap := by
  obtain ⟨h1, h2⟩ := g_pre hw.1 ⟨_, hw.2.1⟩ C.2.2.2.2.2.2.2.2.1 C.2.2.2.2.2.2.2.2.2.2 hU hW
  refine ⟨h1, h2, ?_⟩
  rw [hU]
  exact (gE.warm hW (hE.kept hw.2.2.2.1)).narrow (gA_free C.2.2.2.2.2.2.2.2.2.1 hw)
variable {idx nY np ci f0 lo : Nat} {y : MethodName} {cY : ByteArray} {rY : Option FieldType} {As rest : List Value} {fs : List Value}
/-- it is thrown on -/
theorem r_thrS (C : gOk X cc nL own R ret) (hX : gXk X) (hT : gXt X) (w : gCS own idx y cY nY rY np) (hM : gThr (gln X) y cY nY rY f0 lo As (gDD X) (gty X) ad N σ E) (hd : decode cc pc = .ok (.invokestatic idx, 3)) (hst : st = As.reverse ++ rest) (hn : As.length = np) (hL : L.length = nL) (hW : (rest.map fun v => v.category).sum ≤ 8) (hR : f0 + 1 ≤ R.frames ∧ 8 + (nY + 11) + lo ≤ R.locals) (hc : 1 ≤ R.cells ∧ 6 ≤ R.slots) : V X 0 0 (gXQ X E ad N σ) pc L st ad N σ := fun ls H locs hl hw => by
  have hR' := C.2.2.2.2.2.2.2.1
  have hts := C.2.2.2.2.1
  subst hst
  obtain ⟨w1, w2, w4, w5, w7, w8, w9⟩ := w
  refine g_backX C (E := E) (rest := rest) (fun _ _ _ h => h) (vx_runS (As := As) (rest := rest) ⟨C.1, C.2.1, C.2.2.1, C.2.2.2.1, hts⟩ (hM H.size) ⟨callB_of np hts (g_good w5) rfl rfl rfl (hts _ w4) (hts _ w1) ⟨w7, w8, w9⟩ (by rw [hR']; exact hR), hts _ w2⟩ ⟨gX_blind, fun U hU hW => ⟨rfl, gX_pre C hX.2 hw hU hW⟩⟩ rfl hn (hl.1.trans hL) rfl (lv_room hW) hd (by rw [hR', Nat.zero_add, Nat.zero_add]; exact hc)) hw (fun q ce H1 locs1 hw1 hce hcv hcl => ?_)
  exact vx_out (fun x hx => (hT x hx).elim) C.2.2.2.2.2.1 hce hcv hcl (fun t ht hvm => ⟨(), trivial, ⟨rfl, by rw [ht]; exact hw1.1⟩, by rw [ht]; exact hw1.2.2.1, fun q h1 h2 => by rw [ht]; exact hw1.2.2.2.1 q h1 h2⟩) hw1.2.2.2.2 (Nat.le_refl _) (Nat.le_refl _)
end EXC
end
section
/-! CandleRooms: the methods that throw -/
set_option maxRecDepth 100000 in
set_option maxHeartbeats 4000000 in
theorem t_X4_requireRoom {l : Launch} {D : va_G} {ty : Nat → ClassId} {ad : Int → Nat} {N : Int} {σ : Int → va_E} {z : Int} (hst : l.stackTraces = false) (hz : ¬ (0 ≤ z ∧ z < 6)) (hrz : -2147483648 ≤ z ∧ z < 2147483648) : gThr l yX4_requireRoom cX4_requireRoom 1 none 6 200 [.int (gI z)] D ty ad N (σ) eI := by
  refine gThr_of [some (.int (gI z))] hst (by decide +kernel) rfl (Nat.le_of_ble_eq_true rfl) rfl ?_
  intro X hl hD hty C hX hT
  subst hl hD hty
  refine r_iload_n C dX4_requireRoom_0 rfl rfl ?_
  refine r_cS C cwX4_68 (c_X4_isRoom (by omega)) dX4_requireRoom_1 rfl rfl rfl (Nat.le_of_ble_eq_true rfl) ⟨Nat.le_of_ble_eq_true rfl, Nat.le_of_ble_eq_true rfl⟩ ⟨Nat.le_of_ble_eq_true rfl, Nat.le_of_ble_eq_true rfl⟩ ?_
  refine r_ifb_ne (tgt := 17) C dX4_requireRoom_4 (by decide) (fun h4 => ?_) (fun h4 => ?_)
  · exact absurd h4 hz
  · exact r_throw C hX hT gTW_I (is := 214) (text := "there is no such room") (by decide +kernel) dX4_requireRoom_7 dX4_requireRoom_10 dX4_requireRoom_11 dX4_requireRoom_13 dX4_requireRoom_16 rfl ⟨Nat.le_of_ble_eq_true rfl, Nat.le_of_ble_eq_true rfl, Nat.le_of_ble_eq_true rfl, Nat.le_of_ble_eq_true rfl⟩

set_option maxRecDepth 100000 in
set_option maxHeartbeats 4000000 in
theorem t_X4_requireKey {l : Launch} {D : va_G} {ty : Nat → ClassId} {ad : Int → Nat} {N : Int} {σ : Int → va_E} {z : Int} (hst : l.stackTraces = false) (hz : ¬ (0 ≤ z ∧ z < 100)) (hrz : -2147483648 ≤ z ∧ z < 2147483648) : gThr l yX4_requireKey cX4_requireKey 1 none 6 200 [.int (gI z)] D ty ad N (σ) eA := by
  refine gThr_of [some (.int (gI z))] hst (by decide +kernel) rfl (Nat.le_of_ble_eq_true rfl) rfl ?_
  intro X hl hD hty C hX hT
  subst hl hD hty
  refine r_iload_n C dX4_requireKey_0 rfl rfl ?_
  refine r_if_lt (tgt := 10) C dX4_requireKey_1 (by decide) (by omega) (fun h1 => ?_) (fun h1 => ?_)
  · exact r_throw C hX hT gTW_A (is := 216) (text := "a key is 0 to 99") (by decide +kernel) dX4_requireKey_10 dX4_requireKey_13 dX4_requireKey_14 dX4_requireKey_16 dX4_requireKey_19 rfl ⟨Nat.le_of_ble_eq_true rfl, Nat.le_of_ble_eq_true rfl, Nat.le_of_ble_eq_true rfl, Nat.le_of_ble_eq_true rfl⟩
  · refine r_iload_n C dX4_requireKey_4 rfl rfl ?_
    refine r_bipush C dX4_requireKey_5 (by decide) ?_
    refine r_icmp_lt (tgt := 20) C dX4_requireKey_7 (by decide) (by omega) (by omega) (fun h7 => ?_) (fun h7 => ?_)
    · exact absurd h7 (by omega)
    · exact r_throw C hX hT gTW_A (is := 216) (text := "a key is 0 to 99") (by decide +kernel) dX4_requireKey_10 dX4_requireKey_13 dX4_requireKey_14 dX4_requireKey_16 dX4_requireKey_19 rfl ⟨Nat.le_of_ble_eq_true rfl, Nat.le_of_ble_eq_true rfl, Nat.le_of_ble_eq_true rfl, Nat.le_of_ble_eq_true rfl⟩

set_option maxRecDepth 100000 in
set_option maxHeartbeats 4000000 in
theorem t_X4_requireNumber {l : Launch} {D : va_G} {ty : Nat → ClassId} {ad : Int → Nat} {N : Int} {σ : Int → va_E} {z m : Int} (hst : l.stackTraces = false) (hm : 0 ≤ m ∧ m < 100) (hz : ¬ (0 ≤ z ∧ z < m)) (hrz : -2147483648 ≤ z ∧ z < 2147483648) : gThr l yX4_requireNumber cX4_requireNumber 2 none 6 200 [.int (gI z), .int (gI m)] D ty ad N (σ) eA := by
  refine gThr_of [some (.int (gI z)), some (.int (gI m))] hst (by decide +kernel) rfl (Nat.le_of_ble_eq_true rfl) rfl ?_
  intro X hl hD hty C hX hT
  subst hl hD hty
  refine r_iload_n C dX4_requireNumber_0 rfl rfl ?_
  refine r_if_lt (tgt := 9) C dX4_requireNumber_1 (by decide) (by omega) (fun h1 => ?_) (fun h1 => ?_)
  · exact r_throw C hX hT gTW_A (is := 218) (text := "there is no such number") (by decide +kernel) dX4_requireNumber_9 dX4_requireNumber_12 dX4_requireNumber_13 dX4_requireNumber_15 dX4_requireNumber_18 rfl ⟨Nat.le_of_ble_eq_true rfl, Nat.le_of_ble_eq_true rfl, Nat.le_of_ble_eq_true rfl, Nat.le_of_ble_eq_true rfl⟩
  · refine r_iload_n C dX4_requireNumber_4 rfl rfl ?_
    refine r_iload_n C dX4_requireNumber_5 rfl rfl ?_
    refine r_icmp_lt (tgt := 19) C dX4_requireNumber_6 (by decide) (by omega) (by omega) (fun h6 => ?_) (fun h6 => ?_)
    · exact absurd h6 (by omega)
    · exact r_throw C hX hT gTW_A (is := 218) (text := "there is no such number") (by decide +kernel) dX4_requireNumber_9 dX4_requireNumber_12 dX4_requireNumber_13 dX4_requireNumber_15 dX4_requireNumber_18 rfl ⟨Nat.le_of_ble_eq_true rfl, Nat.le_of_ble_eq_true rfl, Nat.le_of_ble_eq_true rfl, Nat.le_of_ble_eq_true rfl⟩

set_option maxRecDepth 100000 in
set_option maxHeartbeats 4000000 in
theorem t_X4_strike_f1 {l : Launch} {D : va_G} {ty : Nat → ClassId} {ad : Int → Nat} {N : Int} {σ : Int → va_E} {x n k len : Int} {u : Int → Int → Int} {s tx : Int → Int} {r : Int} (hst : l.stackTraces = false) (hx : 0 ≤ x ∧ x + 145 ≤ N) (ho : okX s n u len tx) (hnr : ¬ (0 ≤ r ∧ r < 6)) (hrz : -2147483648 ≤ r ∧ r < 2147483648) : gThr l yX4_strike cX4_strike 2 (some .int) 7 220 [.ref (ad x), .int (gI r)] D ty ad N (xput ad ty σ x s n k u len tx) eI := by
  refine gThr_of [some (.ref (ad x)), some (.int (gI r))] hst (by decide +kernel) rfl (Nat.le_of_ble_eq_true rfl) rfl ?_
  intro X hl hD hty C hX hT
  subst hl hD hty
  have hs := ho.1
  have hn := ho.2.1
  have ht := ho.2.2.2
  have hlen := ht.1
  refine r_iload_n C dX4_strike_0 rfl rfl ?_
  exact r_thrS C hX hT cwX4_30 (t_X4_requireRoom hX.1 hnr hrz) dX4_strike_1 rfl rfl rfl (Nat.le_of_ble_eq_true rfl) ⟨Nat.le_of_ble_eq_true rfl, Nat.le_of_ble_eq_true rfl⟩ ⟨Nat.le_of_ble_eq_true rfl, Nat.le_of_ble_eq_true rfl⟩

set_option maxRecDepth 100000 in
set_option maxHeartbeats 4000000 in
theorem t_X4_fresh_f1 {l : Launch} {D : va_G} {ty : Nat → ClassId} {ad : Int → Nat} {N : Int} {σ : Int → va_E} {x n k len : Int} {u : Int → Int → Int} {s tx : Int → Int} {r : Int} (hst : l.stackTraces = false) (hx : 0 ≤ x ∧ x + 145 ≤ N) (ho : okX s n u len tx) (hnr : ¬ (0 ≤ r ∧ r < 6)) (hrz : -2147483648 ≤ r ∧ r < 2147483648) : gThr l yX4_fresh cX4_fresh 2 (some .int) 7 220 [.ref (ad x), .int (gI r)] D ty ad N (xput ad ty σ x s n k u len tx) eI := by
  refine gThr_of [some (.ref (ad x)), some (.int (gI r))] hst (by decide +kernel) rfl (Nat.le_of_ble_eq_true rfl) rfl ?_
  intro X hl hD hty C hX hT
  subst hl hD hty
  have hs := ho.1
  have hn := ho.2.1
  have ht := ho.2.2.2
  have hlen := ht.1
  refine r_iload_n C dX4_fresh_0 rfl rfl ?_
  exact r_thrS C hX hT cwX4_30 (t_X4_requireRoom hX.1 hnr hrz) dX4_fresh_1 rfl rfl rfl (Nat.le_of_ble_eq_true rfl) ⟨Nat.le_of_ble_eq_true rfl, Nat.le_of_ble_eq_true rfl⟩ ⟨Nat.le_of_ble_eq_true rfl, Nat.le_of_ble_eq_true rfl⟩

set_option maxRecDepth 100000 in
set_option maxHeartbeats 4000000 in
theorem t_X4_lasts_f1 {l : Launch} {D : va_G} {ty : Nat → ClassId} {ad : Int → Nat} {N : Int} {σ : Int → va_E} {x n k len : Int} {u : Int → Int → Int} {s tx : Int → Int} {r : Int} (hst : l.stackTraces = false) (hx : 0 ≤ x ∧ x + 145 ≤ N) (ho : okX s n u len tx) (hnr : ¬ (0 ≤ r ∧ r < 6)) (hrz : -2147483648 ≤ r ∧ r < 2147483648) : gThr l yX4_lasts cX4_lasts 2 (some .int) 7 220 [.ref (ad x), .int (gI r)] D ty ad N (xput ad ty σ x s n k u len tx) eI := by
  refine gThr_of [some (.ref (ad x)), some (.int (gI r))] hst (by decide +kernel) rfl (Nat.le_of_ble_eq_true rfl) rfl ?_
  intro X hl hD hty C hX hT
  subst hl hD hty
  have hs := ho.1
  have hn := ho.2.1
  have ht := ho.2.2.2
  have hlen := ht.1
  refine r_iload_n C dX4_lasts_0 rfl rfl ?_
  exact r_thrS C hX hT cwX4_30 (t_X4_requireRoom hX.1 hnr hrz) dX4_lasts_1 rfl rfl rfl (Nat.le_of_ble_eq_true rfl) ⟨Nat.le_of_ble_eq_true rfl, Nat.le_of_ble_eq_true rfl⟩ ⟨Nat.le_of_ble_eq_true rfl, Nat.le_of_ble_eq_true rfl⟩

set_option maxRecDepth 100000 in
set_option maxHeartbeats 4000000 in
theorem t_X4_carried_f1 {l : Launch} {D : va_G} {ty : Nat → ClassId} {ad : Int → Nat} {N : Int} {σ : Int → va_E} {x n k len : Int} {u : Int → Int → Int} {s tx : Int → Int} {r : Int} (hst : l.stackTraces = false) (hx : 0 ≤ x ∧ x + 145 ≤ N) (ho : okX s n u len tx) (hnr : ¬ (0 ≤ r ∧ r < 6)) (hrz : -2147483648 ≤ r ∧ r < 2147483648) : gThr l yX4_carried cX4_carried 2 (some .int) 7 220 [.ref (ad x), .int (gI r)] D ty ad N (xput ad ty σ x s n k u len tx) eI := by
  refine gThr_of [some (.ref (ad x)), some (.int (gI r))] hst (by decide +kernel) rfl (Nat.le_of_ble_eq_true rfl) rfl ?_
  intro X hl hD hty C hX hT
  subst hl hD hty
  have hs := ho.1
  have hn := ho.2.1
  have ht := ho.2.2.2
  have hlen := ht.1
  refine r_iload_n C dX4_carried_0 rfl rfl ?_
  exact r_thrS C hX hT cwX4_30 (t_X4_requireRoom hX.1 hnr hrz) dX4_carried_1 rfl rfl rfl (Nat.le_of_ble_eq_true rfl) ⟨Nat.le_of_ble_eq_true rfl, Nat.le_of_ble_eq_true rfl⟩ ⟨Nat.le_of_ble_eq_true rfl, Nat.le_of_ble_eq_true rfl⟩

set_option maxRecDepth 100000 in
set_option maxHeartbeats 4000000 in
theorem t_X4_saves_f1 {l : Launch} {D : va_G} {ty : Nat → ClassId} {ad : Int → Nat} {N : Int} {σ : Int → va_E} {x n k len : Int} {u : Int → Int → Int} {s tx : Int → Int} {r : Int} (hst : l.stackTraces = false) (hx : 0 ≤ x ∧ x + 145 ≤ N) (ho : okX s n u len tx) (hnr : ¬ (0 ≤ r ∧ r < 6)) (hrz : -2147483648 ≤ r ∧ r < 2147483648) : gThr l yX4_saves cX4_saves 2 (some .int) 7 220 [.ref (ad x), .int (gI r)] D ty ad N (xput ad ty σ x s n k u len tx) eI := by
  refine gThr_of [some (.ref (ad x)), some (.int (gI r))] hst (by decide +kernel) rfl (Nat.le_of_ble_eq_true rfl) rfl ?_
  intro X hl hD hty C hX hT
  subst hl hD hty
  have hs := ho.1
  have hn := ho.2.1
  have ht := ho.2.2.2
  have hlen := ht.1
  refine r_iload_n C dX4_saves_0 rfl rfl ?_
  exact r_thrS C hX hT cwX4_30 (t_X4_requireRoom hX.1 hnr hrz) dX4_saves_1 rfl rfl rfl (Nat.le_of_ble_eq_true rfl) ⟨Nat.le_of_ble_eq_true rfl, Nat.le_of_ble_eq_true rfl⟩ ⟨Nat.le_of_ble_eq_true rfl, Nat.le_of_ble_eq_true rfl⟩

set_option maxRecDepth 100000 in
set_option maxHeartbeats 4000000 in
theorem t_X4_strike_f2 {l : Launch} {D : va_G} {ty : Nat → ClassId} {ad : Int → Nat} {N : Int} {σ : Int → va_E} {x n k len : Int} {u : Int → Int → Int} {s tx : Int → Int} {r : Int} (hst : l.stackTraces = false) (hx : 0 ≤ x ∧ x + 145 ≤ N) (ho : okX s n u len tx) (hr : 0 ≤ r ∧ r < 6) (hm : ¬ mayS s r) : gThr l yX4_strike cX4_strike 2 (some .int) 7 220 [.ref (ad x), .int (gI r)] D ty ad N (xput ad ty σ x s n k u len tx) eS := by
  refine gThr_of [some (.ref (ad x)), some (.int (gI r))] hst (by decide +kernel) rfl (Nat.le_of_ble_eq_true rfl) rfl ?_
  intro X hl hD hty C hX hT
  subst hl hD hty
  have hs := ho.1
  have hn := ho.2.1
  have ht := ho.2.2.2
  have hlen := ht.1
  refine r_iload_n C dX4_strike_0 rfl rfl ?_
  refine r_cSv C cwX4_30 (c_X4_requireRoom (by omega)) dX4_strike_1 rfl rfl rfl (Nat.le_of_ble_eq_true rfl) ⟨Nat.le_of_ble_eq_true rfl, Nat.le_of_ble_eq_true rfl⟩ ⟨Nat.le_of_ble_eq_true rfl, Nat.le_of_ble_eq_true rfl⟩ ?_
  refine r_aload_n C dX4_strike_4 rfl rfl ?_
  refine r_get C flX4_10 dX4_strike_5 (by omega) xput_0 rfl ?_
  refine r_iload_n C dX4_strike_8 rfl rfl ?_
  refine r_cV C cwX4_34 (liftXs (c_X3_canStrike (by omega) hs (by omega))) dX4_strike_9 rfl (by omega) xput_st rfl rfl rfl (Nat.le_of_ble_eq_true rfl) ⟨Nat.le_of_ble_eq_true rfl, Nat.le_of_ble_eq_true rfl⟩ ⟨Nat.le_of_ble_eq_true rfl, Nat.le_of_ble_eq_true rfl⟩ ?_
  refine r_ifb_ne (tgt := 25) C dX4_strike_12 (by decide) (fun h12 => ?_) (fun h12 => ?_)
  · exact absurd h12 hm
  · exact r_throw C hX hT gTW_S (is := 40) (text := "some candle burns, or this one is burnt down") (by decide +kernel) dX4_strike_15 dX4_strike_18 dX4_strike_19 dX4_strike_21 dX4_strike_24 rfl ⟨Nat.le_of_ble_eq_true rfl, Nat.le_of_ble_eq_true rfl, Nat.le_of_ble_eq_true rfl, Nat.le_of_ble_eq_true rfl⟩

set_option maxRecDepth 100000 in
set_option maxHeartbeats 4000000 in
theorem t_X4_light_f1 {l : Launch} {D : va_G} {ty : Nat → ClassId} {ad : Int → Nat} {N : Int} {σ : Int → va_E} {x n k len : Int} {u : Int → Int → Int} {s tx : Int → Int} {r o : Int} (hst : l.stackTraces = false) (hx : 0 ≤ x ∧ x + 145 ≤ N) (ho : okX s n u len tx) (hnr : ¬ (0 ≤ r ∧ r < 6)) (hrz : -2147483648 ≤ r ∧ r < 2147483648) : gThr l yX4_light cX4_light 3 (some .int) 7 220 [.ref (ad x), .int (gI r), .int (gI o)] D ty ad N (xput ad ty σ x s n k u len tx) eI := by
  refine gThr_of [some (.ref (ad x)), some (.int (gI r)), some (.int (gI o))] hst (by decide +kernel) rfl (Nat.le_of_ble_eq_true rfl) rfl ?_
  intro X hl hD hty C hX hT
  subst hl hD hty
  have hs := ho.1
  have hn := ho.2.1
  have ht := ho.2.2.2
  have hlen := ht.1
  refine r_iload_n C dX4_light_0 rfl rfl ?_
  exact r_thrS C hX hT cwX4_30 (t_X4_requireRoom hX.1 hnr hrz) dX4_light_1 rfl rfl rfl (Nat.le_of_ble_eq_true rfl) ⟨Nat.le_of_ble_eq_true rfl, Nat.le_of_ble_eq_true rfl⟩ ⟨Nat.le_of_ble_eq_true rfl, Nat.le_of_ble_eq_true rfl⟩

set_option maxRecDepth 100000 in
set_option maxHeartbeats 4000000 in
theorem t_X4_light_f1b {l : Launch} {D : va_G} {ty : Nat → ClassId} {ad : Int → Nat} {N : Int} {σ : Int → va_E} {x n k len : Int} {u : Int → Int → Int} {s tx : Int → Int} {r o : Int} (hst : l.stackTraces = false) (hx : 0 ≤ x ∧ x + 145 ≤ N) (ho : okX s n u len tx) (hr : 0 ≤ r ∧ r < 6) (hnr : ¬ (0 ≤ o ∧ o < 6)) (hrz : -2147483648 ≤ o ∧ o < 2147483648) : gThr l yX4_light cX4_light 3 (some .int) 7 220 [.ref (ad x), .int (gI r), .int (gI o)] D ty ad N (xput ad ty σ x s n k u len tx) eI := by
  refine gThr_of [some (.ref (ad x)), some (.int (gI r)), some (.int (gI o))] hst (by decide +kernel) rfl (Nat.le_of_ble_eq_true rfl) rfl ?_
  intro X hl hD hty C hX hT
  subst hl hD hty
  have hs := ho.1
  have hn := ho.2.1
  have ht := ho.2.2.2
  have hlen := ht.1
  refine r_iload_n C dX4_light_0 rfl rfl ?_
  refine r_cSv C cwX4_30 (c_X4_requireRoom (by omega)) dX4_light_1 rfl rfl rfl (Nat.le_of_ble_eq_true rfl) ⟨Nat.le_of_ble_eq_true rfl, Nat.le_of_ble_eq_true rfl⟩ ⟨Nat.le_of_ble_eq_true rfl, Nat.le_of_ble_eq_true rfl⟩ ?_
  refine r_iload_n C dX4_light_4 rfl rfl ?_
  exact r_thrS C hX hT cwX4_30 (t_X4_requireRoom hX.1 hnr hrz) dX4_light_5 rfl rfl rfl (Nat.le_of_ble_eq_true rfl) ⟨Nat.le_of_ble_eq_true rfl, Nat.le_of_ble_eq_true rfl⟩ ⟨Nat.le_of_ble_eq_true rfl, Nat.le_of_ble_eq_true rfl⟩

set_option maxRecDepth 100000 in
set_option maxHeartbeats 4000000 in
theorem t_X4_light_f2 {l : Launch} {D : va_G} {ty : Nat → ClassId} {ad : Int → Nat} {N : Int} {σ : Int → va_E} {x n k len : Int} {u : Int → Int → Int} {s tx : Int → Int} {r o : Int} (hst : l.stackTraces = false) (hx : 0 ≤ x ∧ x + 145 ≤ N) (ho : okX s n u len tx) (hr : 0 ≤ r ∧ r < 6) (ho2 : 0 ≤ o ∧ o < 6) (hm : ¬ mayL s r o) : gThr l yX4_light cX4_light 3 (some .int) 7 220 [.ref (ad x), .int (gI r), .int (gI o)] D ty ad N (xput ad ty σ x s n k u len tx) eS := by
  refine gThr_of [some (.ref (ad x)), some (.int (gI r)), some (.int (gI o))] hst (by decide +kernel) rfl (Nat.le_of_ble_eq_true rfl) rfl ?_
  intro X hl hD hty C hX hT
  subst hl hD hty
  have hs := ho.1
  have hn := ho.2.1
  have ht := ho.2.2.2
  have hlen := ht.1
  refine r_iload_n C dX4_light_0 rfl rfl ?_
  refine r_cSv C cwX4_30 (c_X4_requireRoom (by omega)) dX4_light_1 rfl rfl rfl (Nat.le_of_ble_eq_true rfl) ⟨Nat.le_of_ble_eq_true rfl, Nat.le_of_ble_eq_true rfl⟩ ⟨Nat.le_of_ble_eq_true rfl, Nat.le_of_ble_eq_true rfl⟩ ?_
  refine r_iload_n C dX4_light_4 rfl rfl ?_
  refine r_cSv C cwX4_30 (c_X4_requireRoom (by omega)) dX4_light_5 rfl rfl rfl (Nat.le_of_ble_eq_true rfl) ⟨Nat.le_of_ble_eq_true rfl, Nat.le_of_ble_eq_true rfl⟩ ⟨Nat.le_of_ble_eq_true rfl, Nat.le_of_ble_eq_true rfl⟩ ?_
  refine r_aload_n C dX4_light_8 rfl rfl ?_
  refine r_get C flX4_10 dX4_light_9 (by omega) xput_0 rfl ?_
  refine r_iload_n C dX4_light_12 rfl rfl ?_
  refine r_iload_n C dX4_light_13 rfl rfl ?_
  refine r_cV C cwX4_53 (liftXs (c_X3_canLight (by omega) hs (by omega) (by omega))) dX4_light_14 rfl (by omega) xput_st rfl rfl rfl (Nat.le_of_ble_eq_true rfl) ⟨Nat.le_of_ble_eq_true rfl, Nat.le_of_ble_eq_true rfl⟩ ⟨Nat.le_of_ble_eq_true rfl, Nat.le_of_ble_eq_true rfl⟩ ?_
  refine r_ifb_ne (tgt := 30) C dX4_light_17 (by decide) (fun h17 => ?_) (fun h17 => ?_)
  · exact absurd h17 hm
  · exact r_throw C hX hT gTW_S (is := 57) (text := "this candle cannot be lit from that one") (by decide +kernel) dX4_light_20 dX4_light_23 dX4_light_24 dX4_light_26 dX4_light_29 rfl ⟨Nat.le_of_ble_eq_true rfl, Nat.le_of_ble_eq_true rfl, Nat.le_of_ble_eq_true rfl, Nat.le_of_ble_eq_true rfl⟩

set_option maxRecDepth 100000 in
set_option maxHeartbeats 4000000 in
theorem t_X4_fresh_f2 {l : Launch} {D : va_G} {ty : Nat → ClassId} {ad : Int → Nat} {N : Int} {σ : Int → va_E} {x n k len : Int} {u : Int → Int → Int} {s tx : Int → Int} {r : Int} (hst : l.stackTraces = false) (hx : 0 ≤ x ∧ x + 145 ≤ N) (ho : okX s n u len tx) (hr : 0 ≤ r ∧ r < 6) (hm : ¬ 0 < s 1) : gThr l yX4_fresh cX4_fresh 2 (some .int) 7 220 [.ref (ad x), .int (gI r)] D ty ad N (xput ad ty σ x s n k u len tx) eS := by
  refine gThr_of [some (.ref (ad x)), some (.int (gI r))] hst (by decide +kernel) rfl (Nat.le_of_ble_eq_true rfl) rfl ?_
  intro X hl hD hty C hX hT
  subst hl hD hty
  have hs := ho.1
  have hn := ho.2.1
  have ht := ho.2.2.2
  have hlen := ht.1
  refine r_iload_n C dX4_fresh_0 rfl rfl ?_
  refine r_cSv C cwX4_30 (c_X4_requireRoom (by omega)) dX4_fresh_1 rfl rfl rfl (Nat.le_of_ble_eq_true rfl) ⟨Nat.le_of_ble_eq_true rfl, Nat.le_of_ble_eq_true rfl⟩ ⟨Nat.le_of_ble_eq_true rfl, Nat.le_of_ble_eq_true rfl⟩ ?_
  refine r_aload_n C dX4_fresh_4 rfl rfl ?_
  refine r_get C flX4_10 dX4_fresh_5 (by omega) xput_0 rfl ?_
  refine r_cV C cwX4_59 (liftXs (c_X3_hasNewCandle (by omega) hs)) dX4_fresh_8 rfl (by omega) xput_st rfl rfl rfl (Nat.le_of_ble_eq_true rfl) ⟨Nat.le_of_ble_eq_true rfl, Nat.le_of_ble_eq_true rfl⟩ ⟨Nat.le_of_ble_eq_true rfl, Nat.le_of_ble_eq_true rfl⟩ ?_
  refine r_ifb_ne (tgt := 24) C dX4_fresh_11 (by decide) (fun h11 => ?_) (fun h11 => ?_)
  · exact absurd h11 hm
  · exact r_throw C hX hT gTW_S (is := 63) (text := "the box is empty") (by decide +kernel) dX4_fresh_14 dX4_fresh_17 dX4_fresh_18 dX4_fresh_20 dX4_fresh_23 rfl ⟨Nat.le_of_ble_eq_true rfl, Nat.le_of_ble_eq_true rfl, Nat.le_of_ble_eq_true rfl, Nat.le_of_ble_eq_true rfl⟩

set_option maxRecDepth 100000 in
set_option maxHeartbeats 4000000 in
theorem t_X4_door_f1 {l : Launch} {D : va_G} {ty : Nat → ClassId} {ad : Int → Nat} {N : Int} {σ : Int → va_E} {x n k len : Int} {u : Int → Int → Int} {s tx : Int → Int} {r z : Int} (hst : l.stackTraces = false) (hx : 0 ≤ x ∧ x + 145 ≤ N) (ho : okX s n u len tx) (hnr : ¬ (0 ≤ r ∧ r < 6)) (hrz : -2147483648 ≤ r ∧ r < 2147483648) : gThr l yX4_door cX4_door 5 (some .int) 6 200 [.ref (ad x), .int (gI r), .int (gI z)] D ty ad N (xput ad ty σ x s n k u len tx) eI := by
  refine gThr_of [some (.ref (ad x)), some (.int (gI r)), some (.int (gI z)), none, none] hst (by decide +kernel) rfl (Nat.le_of_ble_eq_true rfl) rfl ?_
  intro X hl hD hty C hX hT
  subst hl hD hty
  have hs := ho.1
  have hn := ho.2.1
  have ht := ho.2.2.2
  have hlen := ht.1
  refine r_iload_n C dX4_door_0 rfl rfl ?_
  refine r_cS C cwX4_68 (c_X4_isRoom (by omega)) dX4_door_1 rfl rfl rfl (Nat.le_of_ble_eq_true rfl) ⟨Nat.le_of_ble_eq_true rfl, Nat.le_of_ble_eq_true rfl⟩ ⟨Nat.le_of_ble_eq_true rfl, Nat.le_of_ble_eq_true rfl⟩ ?_
  refine r_ifb_ne (tgt := 17) C dX4_door_4 (by decide) (fun h4 => ?_) (fun h4 => ?_)
  · exact absurd h4 hnr
  · exact r_throw C hX hT gTW_I (is := 73) (text := "there is no such door") (by decide +kernel) dX4_door_7 dX4_door_10 dX4_door_11 dX4_door_13 dX4_door_16 rfl ⟨Nat.le_of_ble_eq_true rfl, Nat.le_of_ble_eq_true rfl, Nat.le_of_ble_eq_true rfl, Nat.le_of_ble_eq_true rfl⟩

set_option maxRecDepth 100000 in
set_option maxHeartbeats 4000000 in
theorem t_X4_shield_f1 {l : Launch} {D : va_G} {ty : Nat → ClassId} {ad : Int → Nat} {N : Int} {σ : Int → va_E} {x n k len : Int} {u : Int → Int → Int} {s tx : Int → Int} {r z : Int} (hst : l.stackTraces = false) (hx : 0 ≤ x ∧ x + 145 ≤ N) (ho : okX s n u len tx) (hnr : ¬ (0 ≤ r ∧ r < 6)) (hrz : -2147483648 ≤ r ∧ r < 2147483648) : gThr l yX4_shield cX4_shield 5 (some .int) 7 220 [.ref (ad x), .int (gI r), .int (gI z)] D ty ad N (xput ad ty σ x s n k u len tx) eI := by
  refine gThr_of [some (.ref (ad x)), some (.int (gI r)), some (.int (gI z)), none, none] hst (by decide +kernel) rfl (Nat.le_of_ble_eq_true rfl) rfl ?_
  intro X hl hD hty C hX hT
  subst hl hD hty
  have hs := ho.1
  have hn := ho.2.1
  have ht := ho.2.2.2
  have hlen := ht.1
  refine r_iload_n C dX4_shield_0 rfl rfl ?_
  exact r_thrS C hX hT cwX4_30 (t_X4_requireRoom hX.1 hnr hrz) dX4_shield_1 rfl rfl rfl (Nat.le_of_ble_eq_true rfl) ⟨Nat.le_of_ble_eq_true rfl, Nat.le_of_ble_eq_true rfl⟩ ⟨Nat.le_of_ble_eq_true rfl, Nat.le_of_ble_eq_true rfl⟩

set_option maxRecDepth 100000 in
set_option maxHeartbeats 4000000 in
theorem t_X4_draught_f1 {l : Launch} {D : va_G} {ty : Nat → ClassId} {ad : Int → Nat} {N : Int} {σ : Int → va_E} {x n k len : Int} {u : Int → Int → Int} {s tx : Int → Int} {r t : Int} (hst : l.stackTraces = false) (hx : 0 ≤ x ∧ x + 145 ≤ N) (ho : okX s n u len tx) (hnr : ¬ (0 ≤ r ∧ r < 6)) (hrz : -2147483648 ≤ r ∧ r < 2147483648) : gThr l yX4_draught cX4_draught 3 (some .int) 7 220 [.ref (ad x), .int (gI r), .int (gI t)] D ty ad N (xput ad ty σ x s n k u len tx) eI := by
  refine gThr_of [some (.ref (ad x)), some (.int (gI r)), some (.int (gI t))] hst (by decide +kernel) rfl (Nat.le_of_ble_eq_true rfl) rfl ?_
  intro X hl hD hty C hX hT
  subst hl hD hty
  have hs := ho.1
  have hn := ho.2.1
  have ht := ho.2.2.2
  have hlen := ht.1
  refine r_iload_n C dX4_draught_0 rfl rfl ?_
  exact r_thrS C hX hT cwX4_30 (t_X4_requireRoom hX.1 hnr hrz) dX4_draught_1 rfl rfl rfl (Nat.le_of_ble_eq_true rfl) ⟨Nat.le_of_ble_eq_true rfl, Nat.le_of_ble_eq_true rfl⟩ ⟨Nat.le_of_ble_eq_true rfl, Nat.le_of_ble_eq_true rfl⟩

set_option maxRecDepth 100000 in
set_option maxHeartbeats 4000000 in
theorem t_X4_draught_f2 {l : Launch} {D : va_G} {ty : Nat → ClassId} {ad : Int → Nat} {N : Int} {σ : Int → va_E} {x n k len : Int} {u : Int → Int → Int} {s tx : Int → Int} {r t : Int} (hst : l.stackTraces = false) (hx : 0 ≤ x ∧ x + 145 ≤ N) (ho : okX s n u len tx) (hr : 0 ≤ r ∧ r < 6) (hnt : ¬ (1 ≤ t ∧ t ≤ 6)) (hrz : -2147483648 ≤ t ∧ t < 2147483648) : gThr l yX4_draught cX4_draught 3 (some .int) 7 220 [.ref (ad x), .int (gI r), .int (gI t)] D ty ad N (xput ad ty σ x s n k u len tx) eA := by
  refine gThr_of [some (.ref (ad x)), some (.int (gI r)), some (.int (gI t))] hst (by decide +kernel) rfl (Nat.le_of_ble_eq_true rfl) rfl ?_
  intro X hl hD hty C hX hT
  subst hl hD hty
  have hs := ho.1
  have hn := ho.2.1
  have ht := ho.2.2.2
  have hlen := ht.1
  refine r_iload_n C dX4_draught_0 rfl rfl ?_
  refine r_cSv C cwX4_30 (c_X4_requireRoom (by omega)) dX4_draught_1 rfl rfl rfl (Nat.le_of_ble_eq_true rfl) ⟨Nat.le_of_ble_eq_true rfl, Nat.le_of_ble_eq_true rfl⟩ ⟨Nat.le_of_ble_eq_true rfl, Nat.le_of_ble_eq_true rfl⟩ ?_
  refine r_iload_n C dX4_draught_4 rfl rfl ?_
  refine r_iconst C dX4_draught_5 ?_
  refine r_icmp_lt (tgt := 15) C dX4_draught_6 (by decide) (by omega) (by omega) (fun h6 => ?_) (fun h6 => ?_)
  · exact r_throw C hX hT gTW_A (is := 95) (text := "strength is 1 to 6") (by decide +kernel) dX4_draught_15 dX4_draught_18 dX4_draught_19 dX4_draught_21 dX4_draught_24 rfl ⟨Nat.le_of_ble_eq_true rfl, Nat.le_of_ble_eq_true rfl, Nat.le_of_ble_eq_true rfl, Nat.le_of_ble_eq_true rfl⟩
  · refine r_iload_n C dX4_draught_9 rfl rfl ?_
    refine r_bipush C dX4_draught_10 (by decide) ?_
    refine r_icmp_le (tgt := 25) C dX4_draught_12 (by decide) (by omega) (by omega) (fun h12 => ?_) (fun h12 => ?_)
    · exact absurd h12 (by omega)
    · exact r_throw C hX hT gTW_A (is := 95) (text := "strength is 1 to 6") (by decide +kernel) dX4_draught_15 dX4_draught_18 dX4_draught_19 dX4_draught_21 dX4_draught_24 rfl ⟨Nat.le_of_ble_eq_true rfl, Nat.le_of_ble_eq_true rfl, Nat.le_of_ble_eq_true rfl, Nat.le_of_ble_eq_true rfl⟩

set_option maxRecDepth 100000 in
set_option maxHeartbeats 4000000 in
theorem t_X4_set_f1 {l : Launch} {D : va_G} {ty : Nat → ClassId} {ad : Int → Nat} {N : Int} {σ : Int → va_E} {x n k len : Int} {u : Int → Int → Int} {s tx : Int → Int} {z : Int} (hst : l.stackTraces = false) (hx : 0 ≤ x ∧ x + 145 ≤ N) (ho : okX s n u len tx) (hz : ¬ (1 ≤ z ∧ z ≤ 50)) (hrz : -2147483648 ≤ z ∧ z < 2147483648) : gThr l yX4_set cX4_set 3 (some .int) 6 200 [.ref (ad x), .int (gI z)] D ty ad N (xput ad ty σ x s n k u len tx) eA := by
  refine gThr_of [some (.ref (ad x)), some (.int (gI z)), none] hst (by decide +kernel) rfl (Nat.le_of_ble_eq_true rfl) rfl ?_
  intro X hl hD hty C hX hT
  subst hl hD hty
  have hs := ho.1
  have hn := ho.2.1
  have ht := ho.2.2.2
  have hlen := ht.1
  refine r_iload_n C dX4_set_0 rfl rfl ?_
  refine r_iconst C dX4_set_1 ?_
  refine r_icmp_lt (tgt := 11) C dX4_set_2 (by decide) (by omega) (by omega) (fun h2 => ?_) (fun h2 => ?_)
  · exact r_throw C hX hT gTW_A (is := 102) (text := "the setting is 1 to 50") (by decide +kernel) dX4_set_11 dX4_set_14 dX4_set_15 dX4_set_17 dX4_set_20 rfl ⟨Nat.le_of_ble_eq_true rfl, Nat.le_of_ble_eq_true rfl, Nat.le_of_ble_eq_true rfl, Nat.le_of_ble_eq_true rfl⟩
  · refine r_iload_n C dX4_set_5 rfl rfl ?_
    refine r_bipush C dX4_set_6 (by decide) ?_
    refine r_icmp_le (tgt := 21) C dX4_set_8 (by decide) (by omega) (by omega) (fun h8 => ?_) (fun h8 => ?_)
    · exact absurd h8 (by omega)
    · exact r_throw C hX hT gTW_A (is := 102) (text := "the setting is 1 to 50") (by decide +kernel) dX4_set_11 dX4_set_14 dX4_set_15 dX4_set_17 dX4_set_20 rfl ⟨Nat.le_of_ble_eq_true rfl, Nat.le_of_ble_eq_true rfl, Nat.le_of_ble_eq_true rfl, Nat.le_of_ble_eq_true rfl⟩

set_option maxRecDepth 100000 in
set_option maxHeartbeats 4000000 in
theorem t_X4_keep_f1 {l : Launch} {D : va_G} {ty : Nat → ClassId} {ad : Int → Nat} {N : Int} {σ : Int → va_E} {x n k len : Int} {u : Int → Int → Int} {s tx : Int → Int} {r key : Int} (hst : l.stackTraces = false) (hx : 0 ≤ x ∧ x + 145 ≤ N) (ho : okX s n u len tx) (hnr : ¬ (0 ≤ r ∧ r < 6)) (hrz : -2147483648 ≤ r ∧ r < 2147483648) : gThr l yX4_keep cX4_keep 3 (some .int) 7 220 [.ref (ad x), .int (gI r), .int (gI key)] D ty ad N (xput ad ty σ x s n k u len tx) eI := by
  refine gThr_of [some (.ref (ad x)), some (.int (gI r)), some (.int (gI key))] hst (by decide +kernel) rfl (Nat.le_of_ble_eq_true rfl) rfl ?_
  intro X hl hD hty C hX hT
  subst hl hD hty
  have hs := ho.1
  have hn := ho.2.1
  have ht := ho.2.2.2
  have hlen := ht.1
  refine r_iload_n C dX4_keep_0 rfl rfl ?_
  exact r_thrS C hX hT cwX4_30 (t_X4_requireRoom hX.1 hnr hrz) dX4_keep_1 rfl rfl rfl (Nat.le_of_ble_eq_true rfl) ⟨Nat.le_of_ble_eq_true rfl, Nat.le_of_ble_eq_true rfl⟩ ⟨Nat.le_of_ble_eq_true rfl, Nat.le_of_ble_eq_true rfl⟩

set_option maxRecDepth 100000 in
set_option maxHeartbeats 4000000 in
theorem t_X4_keep_f2 {l : Launch} {D : va_G} {ty : Nat → ClassId} {ad : Int → Nat} {N : Int} {σ : Int → va_E} {x n k len : Int} {u : Int → Int → Int} {s tx : Int → Int} {r key : Int} (hst : l.stackTraces = false) (hx : 0 ≤ x ∧ x + 145 ≤ N) (ho : okX s n u len tx) (hr : 0 ≤ r ∧ r < 6) (hnk : ¬ (0 ≤ key ∧ key < 100)) (hrz : -2147483648 ≤ key ∧ key < 2147483648) : gThr l yX4_keep cX4_keep 3 (some .int) 7 220 [.ref (ad x), .int (gI r), .int (gI key)] D ty ad N (xput ad ty σ x s n k u len tx) eA := by
  refine gThr_of [some (.ref (ad x)), some (.int (gI r)), some (.int (gI key))] hst (by decide +kernel) rfl (Nat.le_of_ble_eq_true rfl) rfl ?_
  intro X hl hD hty C hX hT
  subst hl hD hty
  have hs := ho.1
  have hn := ho.2.1
  have ht := ho.2.2.2
  have hlen := ht.1
  refine r_iload_n C dX4_keep_0 rfl rfl ?_
  refine r_cSv C cwX4_30 (c_X4_requireRoom (by omega)) dX4_keep_1 rfl rfl rfl (Nat.le_of_ble_eq_true rfl) ⟨Nat.le_of_ble_eq_true rfl, Nat.le_of_ble_eq_true rfl⟩ ⟨Nat.le_of_ble_eq_true rfl, Nat.le_of_ble_eq_true rfl⟩ ?_
  refine r_iload_n C dX4_keep_4 rfl rfl ?_
  exact r_thrS C hX hT cwX4_108 (t_X4_requireKey hX.1 hnk hrz) dX4_keep_5 rfl rfl rfl (Nat.le_of_ble_eq_true rfl) ⟨Nat.le_of_ble_eq_true rfl, Nat.le_of_ble_eq_true rfl⟩ ⟨Nat.le_of_ble_eq_true rfl, Nat.le_of_ble_eq_true rfl⟩

set_option maxRecDepth 100000 in
set_option maxHeartbeats 4000000 in
theorem t_X4_keep_f3 {l : Launch} {D : va_G} {ty : Nat → ClassId} {ad : Int → Nat} {N : Int} {σ : Int → va_E} {x n k len : Int} {u : Int → Int → Int} {s tx : Int → Int} {r key : Int} (hst : l.stackTraces = false) (hx : 0 ≤ x ∧ x + 145 ≤ N) (ho : okX s n u len tx) (hr : 0 ≤ r ∧ r < 6) (hk : 0 ≤ key ∧ key < 100) (hm : ¬ mayK s r key) : gThr l yX4_keep cX4_keep 3 (some .int) 7 220 [.ref (ad x), .int (gI r), .int (gI key)] D ty ad N (xput ad ty σ x s n k u len tx) eS := by
  refine gThr_of [some (.ref (ad x)), some (.int (gI r)), some (.int (gI key))] hst (by decide +kernel) rfl (Nat.le_of_ble_eq_true rfl) rfl ?_
  intro X hl hD hty C hX hT
  subst hl hD hty
  have hs := ho.1
  have hn := ho.2.1
  have ht := ho.2.2.2
  have hlen := ht.1
  refine r_iload_n C dX4_keep_0 rfl rfl ?_
  refine r_cSv C cwX4_30 (c_X4_requireRoom (by omega)) dX4_keep_1 rfl rfl rfl (Nat.le_of_ble_eq_true rfl) ⟨Nat.le_of_ble_eq_true rfl, Nat.le_of_ble_eq_true rfl⟩ ⟨Nat.le_of_ble_eq_true rfl, Nat.le_of_ble_eq_true rfl⟩ ?_
  refine r_iload_n C dX4_keep_4 rfl rfl ?_
  refine r_cSv C cwX4_108 (c_X4_requireKey (by omega)) dX4_keep_5 rfl rfl rfl (Nat.le_of_ble_eq_true rfl) ⟨Nat.le_of_ble_eq_true rfl, Nat.le_of_ble_eq_true rfl⟩ ⟨Nat.le_of_ble_eq_true rfl, Nat.le_of_ble_eq_true rfl⟩ ?_
  refine r_aload_n C dX4_keep_8 rfl rfl ?_
  refine r_get C flX4_10 dX4_keep_9 (by omega) xput_0 rfl ?_
  refine r_iload_n C dX4_keep_12 rfl rfl ?_
  refine r_iload_n C dX4_keep_13 rfl rfl ?_
  refine r_cV C cwX4_111 (liftXs (c_X3_canKeep (by omega) hs (by omega) (by omega))) dX4_keep_14 rfl (by omega) xput_st rfl rfl rfl (Nat.le_of_ble_eq_true rfl) ⟨Nat.le_of_ble_eq_true rfl, Nat.le_of_ble_eq_true rfl⟩ ⟨Nat.le_of_ble_eq_true rfl, Nat.le_of_ble_eq_true rfl⟩ ?_
  refine r_ifb_ne (tgt := 30) C dX4_keep_17 (by decide) (fun h17 => ?_) (fun h17 => ?_)
  · exact absurd h17 hm
  · exact r_throw C hX hT gTW_S (is := 114) (text := "a thing has this key, or the room is full") (by decide +kernel) dX4_keep_20 dX4_keep_23 dX4_keep_24 dX4_keep_26 dX4_keep_29 rfl ⟨Nat.le_of_ble_eq_true rfl, Nat.le_of_ble_eq_true rfl, Nat.le_of_ble_eq_true rfl, Nat.le_of_ble_eq_true rfl⟩

set_option maxRecDepth 100000 in
set_option maxHeartbeats 4000000 in
theorem t_X4_read_f1 {l : Launch} {D : va_G} {ty : Nat → ClassId} {ad : Int → Nat} {N : Int} {σ : Int → va_E} {x n k len : Int} {u : Int → Int → Int} {s tx : Int → Int} {key : Int} (hst : l.stackTraces = false) (hx : 0 ≤ x ∧ x + 145 ≤ N) (ho : okX s n u len tx) (hnk : ¬ (0 ≤ key ∧ key < 100)) (hrz : -2147483648 ≤ key ∧ key < 2147483648) : gThr l yX4_read cX4_read 2 (some .int) 7 220 [.ref (ad x), .int (gI key)] D ty ad N (xput ad ty σ x s n k u len tx) eA := by
  refine gThr_of [some (.ref (ad x)), some (.int (gI key))] hst (by decide +kernel) rfl (Nat.le_of_ble_eq_true rfl) rfl ?_
  intro X hl hD hty C hX hT
  subst hl hD hty
  have hs := ho.1
  have hn := ho.2.1
  have ht := ho.2.2.2
  have hlen := ht.1
  refine r_iload_n C dX4_read_0 rfl rfl ?_
  exact r_thrS C hX hT cwX4_108 (t_X4_requireKey hX.1 hnk hrz) dX4_read_1 rfl rfl rfl (Nat.le_of_ble_eq_true rfl) ⟨Nat.le_of_ble_eq_true rfl, Nat.le_of_ble_eq_true rfl⟩ ⟨Nat.le_of_ble_eq_true rfl, Nat.le_of_ble_eq_true rfl⟩

set_option maxRecDepth 100000 in
set_option maxHeartbeats 4000000 in
theorem t_X4_pass_f1 {l : Launch} {D : va_G} {ty : Nat → ClassId} {ad : Int → Nat} {N : Int} {σ : Int → va_E} {x n k len : Int} {u : Int → Int → Int} {s tx : Int → Int} {z : Int} (hst : l.stackTraces = false) (hx : 0 ≤ x ∧ x + 145 ≤ N) (ho : okX s n u len tx) (hz : ¬ (1 ≤ z ∧ z ≤ 60)) (hrz : -2147483648 ≤ z ∧ z < 2147483648) : gThr l yX4_pass cX4_pass 2 (some .int) 6 200 [.ref (ad x), .int (gI z)] D ty ad N (xput ad ty σ x s n k u len tx) eA := by
  refine gThr_of [some (.ref (ad x)), some (.int (gI z))] hst (by decide +kernel) rfl (Nat.le_of_ble_eq_true rfl) rfl ?_
  intro X hl hD hty C hX hT
  subst hl hD hty
  have hs := ho.1
  have hn := ho.2.1
  have ht := ho.2.2.2
  have hlen := ht.1
  refine r_iload_n C dX4_pass_0 rfl rfl ?_
  refine r_iconst C dX4_pass_1 ?_
  refine r_icmp_lt (tgt := 11) C dX4_pass_2 (by decide) (by omega) (by omega) (fun h2 => ?_) (fun h2 => ?_)
  · exact r_throw C hX hT gTW_A (is := 122) (text := "1 to 60 beats pass") (by decide +kernel) dX4_pass_11 dX4_pass_14 dX4_pass_15 dX4_pass_17 dX4_pass_20 rfl ⟨Nat.le_of_ble_eq_true rfl, Nat.le_of_ble_eq_true rfl, Nat.le_of_ble_eq_true rfl, Nat.le_of_ble_eq_true rfl⟩
  · refine r_iload_n C dX4_pass_5 rfl rfl ?_
    refine r_bipush C dX4_pass_6 (by decide) ?_
    refine r_icmp_le (tgt := 21) C dX4_pass_8 (by decide) (by omega) (by omega) (fun h8 => ?_) (fun h8 => ?_)
    · exact absurd h8 (by omega)
    · exact r_throw C hX hT gTW_A (is := 122) (text := "1 to 60 beats pass") (by decide +kernel) dX4_pass_11 dX4_pass_14 dX4_pass_15 dX4_pass_17 dX4_pass_20 rfl ⟨Nat.le_of_ble_eq_true rfl, Nat.le_of_ble_eq_true rfl, Nat.le_of_ble_eq_true rfl, Nat.le_of_ble_eq_true rfl⟩

set_option maxRecDepth 100000 in
set_option maxHeartbeats 4000000 in
theorem t_X4_undo_f1 {l : Launch} {D : va_G} {ty : Nat → ClassId} {ad : Int → Nat} {N : Int} {σ : Int → va_E} {x n k len : Int} {u : Int → Int → Int} {s tx : Int → Int} (hst : l.stackTraces = false) (hx : 0 ≤ x ∧ x + 145 ≤ N) (ho : okX s n u len tx) (hn0 : n = 0) : gThr l yX4_undo cX4_undo 1 (some .int) 6 200 [.ref (ad x)] D ty ad N (xput ad ty σ x s n k u len tx) eS := by
  refine gThr_of [some (.ref (ad x))] hst (by decide +kernel) rfl (Nat.le_of_ble_eq_true rfl) rfl ?_
  intro X hl hD hty C hX hT
  subst hl hD hty
  have hs := ho.1
  have hn := ho.2.1
  have ht := ho.2.2.2
  have hlen := ht.1
  refine r_aload_n C dX4_undo_0 rfl rfl ?_
  refine r_get C flX4_19 dX4_undo_1 (by omega) xput_0 rfl ?_
  refine r_get C flX4_153 dX4_undo_4 (by omega) xput_sv rfl ?_
  refine r_if_ne (tgt := 20) C dX4_undo_7 (by decide) (by omega) (fun h7 => ?_) (fun h7 => ?_)
  · exact absurd h7 (by omega)
  · exact r_throw C hX hT gTW_S (is := 156) (text := "no state is saved") (by decide +kernel) dX4_undo_10 dX4_undo_13 dX4_undo_14 dX4_undo_16 dX4_undo_19 rfl ⟨Nat.le_of_ble_eq_true rfl, Nat.le_of_ble_eq_true rfl, Nat.le_of_ble_eq_true rfl, Nat.le_of_ble_eq_true rfl⟩

set_option maxRecDepth 100000 in
set_option maxHeartbeats 4000000 in
theorem t_X4_room_f1 {l : Launch} {D : va_G} {ty : Nat → ClassId} {ad : Int → Nat} {N : Int} {σ : Int → va_E} {x n k len : Int} {u : Int → Int → Int} {s tx : Int → Int} {r w : Int} (hst : l.stackTraces = false) (hx : 0 ≤ x ∧ x + 145 ≤ N) (ho : okX s n u len tx) (hnr : ¬ (0 ≤ r ∧ r < 6)) (hrz : -2147483648 ≤ r ∧ r < 2147483648) : gThr l yX4_room cX4_room 3 (some .int) 7 221 [.ref (ad x), .int (gI r), .int (gI w)] D ty ad N (xput ad ty σ x s n k u len tx) eI := by
  refine gThr_of [some (.ref (ad x)), some (.int (gI r)), some (.int (gI w))] hst (by decide +kernel) rfl (Nat.le_of_ble_eq_true rfl) rfl ?_
  intro X hl hD hty C hX hT
  subst hl hD hty
  have hs := ho.1
  have hn := ho.2.1
  have ht := ho.2.2.2
  have hlen := ht.1
  refine r_iload_n C dX4_room_0 rfl rfl ?_
  exact r_thrS C hX hT cwX4_30 (t_X4_requireRoom hX.1 hnr hrz) dX4_room_1 rfl rfl rfl (Nat.le_of_ble_eq_true rfl) ⟨Nat.le_of_ble_eq_true rfl, Nat.le_of_ble_eq_true rfl⟩ ⟨Nat.le_of_ble_eq_true rfl, Nat.le_of_ble_eq_true rfl⟩

set_option maxRecDepth 100000 in
set_option maxHeartbeats 4000000 in
theorem t_X4_room_f2 {l : Launch} {D : va_G} {ty : Nat → ClassId} {ad : Int → Nat} {N : Int} {σ : Int → va_E} {x n k len : Int} {u : Int → Int → Int} {s tx : Int → Int} {r w : Int} (hst : l.stackTraces = false) (hx : 0 ≤ x ∧ x + 145 ≤ N) (ho : okX s n u len tx) (hr : 0 ≤ r ∧ r < 6) (hnw : ¬ (0 ≤ w ∧ w < 8)) (hrz : -2147483648 ≤ w ∧ w < 2147483648) : gThr l yX4_room cX4_room 3 (some .int) 7 221 [.ref (ad x), .int (gI r), .int (gI w)] D ty ad N (xput ad ty σ x s n k u len tx) eA := by
  refine gThr_of [some (.ref (ad x)), some (.int (gI r)), some (.int (gI w))] hst (by decide +kernel) rfl (Nat.le_of_ble_eq_true rfl) rfl ?_
  intro X hl hD hty C hX hT
  subst hl hD hty
  have hs := ho.1
  have hn := ho.2.1
  have ht := ho.2.2.2
  have hlen := ht.1
  refine r_iload_n C dX4_room_0 rfl rfl ?_
  refine r_cSv C cwX4_30 (c_X4_requireRoom (by omega)) dX4_room_1 rfl rfl rfl (Nat.le_of_ble_eq_true rfl) ⟨Nat.le_of_ble_eq_true rfl, Nat.le_of_ble_eq_true rfl⟩ ⟨Nat.le_of_ble_eq_true rfl, Nat.le_of_ble_eq_true rfl⟩ ?_
  refine r_iload_n C dX4_room_4 rfl rfl ?_
  refine r_bipush C dX4_room_5 (by decide) ?_
  exact r_thrS C hX hT cwX4_162 (t_X4_requireNumber hX.1 (by omega) hnw hrz) dX4_room_7 rfl rfl rfl (Nat.le_of_ble_eq_true rfl) ⟨Nat.le_of_ble_eq_true rfl, Nat.le_of_ble_eq_true rfl⟩ ⟨Nat.le_of_ble_eq_true rfl, Nat.le_of_ble_eq_true rfl⟩

set_option maxRecDepth 100000 in
set_option maxHeartbeats 4000000 in
theorem t_X4_thing_f1 {l : Launch} {D : va_G} {ty : Nat → ClassId} {ad : Int → Nat} {N : Int} {σ : Int → va_E} {x n k len : Int} {u : Int → Int → Int} {s tx : Int → Int} {key w : Int} (hst : l.stackTraces = false) (hx : 0 ≤ x ∧ x + 145 ≤ N) (ho : okX s n u len tx) (hnk : ¬ (0 ≤ key ∧ key < 100)) (hrz : -2147483648 ≤ key ∧ key < 2147483648) : gThr l yX4_thing cX4_thing 3 (some .int) 7 221 [.ref (ad x), .int (gI key), .int (gI w)] D ty ad N (xput ad ty σ x s n k u len tx) eA := by
  refine gThr_of [some (.ref (ad x)), some (.int (gI key)), some (.int (gI w))] hst (by decide +kernel) rfl (Nat.le_of_ble_eq_true rfl) rfl ?_
  intro X hl hD hty C hX hT
  subst hl hD hty
  have hs := ho.1
  have hn := ho.2.1
  have ht := ho.2.2.2
  have hlen := ht.1
  refine r_iload_n C dX4_thing_0 rfl rfl ?_
  exact r_thrS C hX hT cwX4_108 (t_X4_requireKey hX.1 hnk hrz) dX4_thing_1 rfl rfl rfl (Nat.le_of_ble_eq_true rfl) ⟨Nat.le_of_ble_eq_true rfl, Nat.le_of_ble_eq_true rfl⟩ ⟨Nat.le_of_ble_eq_true rfl, Nat.le_of_ble_eq_true rfl⟩

set_option maxRecDepth 100000 in
set_option maxHeartbeats 4000000 in
theorem t_X4_thing_f2 {l : Launch} {D : va_G} {ty : Nat → ClassId} {ad : Int → Nat} {N : Int} {σ : Int → va_E} {x n k len : Int} {u : Int → Int → Int} {s tx : Int → Int} {key w : Int} (hst : l.stackTraces = false) (hx : 0 ≤ x ∧ x + 145 ≤ N) (ho : okX s n u len tx) (hk : 0 ≤ key ∧ key < 100) (hnw : ¬ (0 ≤ w ∧ w < 3)) (hrz : -2147483648 ≤ w ∧ w < 2147483648) : gThr l yX4_thing cX4_thing 3 (some .int) 7 221 [.ref (ad x), .int (gI key), .int (gI w)] D ty ad N (xput ad ty σ x s n k u len tx) eA := by
  refine gThr_of [some (.ref (ad x)), some (.int (gI key)), some (.int (gI w))] hst (by decide +kernel) rfl (Nat.le_of_ble_eq_true rfl) rfl ?_
  intro X hl hD hty C hX hT
  subst hl hD hty
  have hs := ho.1
  have hn := ho.2.1
  have ht := ho.2.2.2
  have hlen := ht.1
  refine r_iload_n C dX4_thing_0 rfl rfl ?_
  refine r_cSv C cwX4_108 (c_X4_requireKey (by omega)) dX4_thing_1 rfl rfl rfl (Nat.le_of_ble_eq_true rfl) ⟨Nat.le_of_ble_eq_true rfl, Nat.le_of_ble_eq_true rfl⟩ ⟨Nat.le_of_ble_eq_true rfl, Nat.le_of_ble_eq_true rfl⟩ ?_
  refine r_iload_n C dX4_thing_4 rfl rfl ?_
  refine r_iconst C dX4_thing_5 ?_
  exact r_thrS C hX hT cwX4_162 (t_X4_requireNumber hX.1 (by omega) hnw hrz) dX4_thing_6 rfl rfl rfl (Nat.le_of_ble_eq_true rfl) ⟨Nat.le_of_ble_eq_true rfl, Nat.le_of_ble_eq_true rfl⟩ ⟨Nat.le_of_ble_eq_true rfl, Nat.le_of_ble_eq_true rfl⟩

set_option maxRecDepth 100000 in
set_option maxHeartbeats 4000000 in
theorem t_X4_count_f1 {l : Launch} {D : va_G} {ty : Nat → ClassId} {ad : Int → Nat} {N : Int} {σ : Int → va_E} {x n k len : Int} {u : Int → Int → Int} {s tx : Int → Int} {w : Int} (hst : l.stackTraces = false) (hx : 0 ≤ x ∧ x + 145 ≤ N) (ho : okX s n u len tx) (hnw : ¬ (0 ≤ w ∧ w < 12)) (hrz : -2147483648 ≤ w ∧ w < 2147483648) : gThr l yX4_count cX4_count 2 (some .int) 7 221 [.ref (ad x), .int (gI w)] D ty ad N (xput ad ty σ x s n k u len tx) eA := by
  refine gThr_of [some (.ref (ad x)), some (.int (gI w))] hst (by decide +kernel) rfl (Nat.le_of_ble_eq_true rfl) rfl ?_
  intro X hl hD hty C hX hT
  subst hl hD hty
  have hs := ho.1
  have hn := ho.2.1
  have ht := ho.2.2.2
  have hlen := ht.1
  refine r_iload_n C dX4_count_0 rfl rfl ?_
  refine r_bipush C dX4_count_1 (by decide) ?_
  exact r_thrS C hX hT cwX4_162 (t_X4_requireNumber hX.1 (by omega) hnw hrz) dX4_count_3 rfl rfl rfl (Nat.le_of_ble_eq_true rfl) ⟨Nat.le_of_ble_eq_true rfl, Nat.le_of_ble_eq_true rfl⟩ ⟨Nat.le_of_ble_eq_true rfl, Nat.le_of_ble_eq_true rfl⟩
end
section
/-! methods with handlers: words, contracts, rows -/
def gCW (own : String) (idx : Nat) (y : MethodName) (cc : ByteArray) (nL : Nat) (ret : Option FieldType) (hh : List (Nat × Nat × Nat × Nat)) (np : Nat) : Prop := Cond.methodLink own idx y ∈ WS ∧ Cond.static y ∈ WS ∧ Cond.initialized y.cls ∈ WS ∧ Cond.codeWith y cc nL ret hh ∈ WS ∧ y.cls ≠ "java/lang/invoke/MethodHandle" ∧ y.cls ≠ "java/lang/invoke/VarHandle" ∧ (parseMethodDescriptor y.desc).map (fun d => d.parameters.length) = some np
theorem Met_ofFW {y : MethodName} {ws ws' : List Cond} {l : Launch} {rm : Room} {Pc : Array Value → State → Prop} {Qc : Array Value → State → Outcome → State → Prop} {mc ms : Nat} {free : Addr → Prop} {cc : ByteArray} {maxL : Nat} {ret : Option FieldType} {hh : List (Nat × Nat × Nat × Nat)}
    (hy : plainName y.cls = true) (hw : ws = Cond.codeWith y cc maxL ret hh :: ws')
    (body : ∀ p e s m args below meth c s₁, BodyLoose p l y (headSpec ws rm) cc maxL ret e s m args below meth c s₁ → c.maxLocals = maxL → Pc args s →
      W p l e (headSpec ws rm).room s m args below meth c s.heap [] 0 0 (MQ below Qc args s mc ms free) (entryFrame m args maxL)) : Met l y ws rm Pc Qc mc ms free := by
  refine MetFree.of_bodyS (code := cc) (maxLocals := maxL) (ret := ret) hy ?_ ?_
  · intro args s m h hn
    obtain ⟨m9, meth, c, hn9, h1, h2, h3, h4, -, h5, h6, -⟩ := Cond.codeWith_spec (atoms_spec (ws := ws) h _ (by rw [hw]; exact List.mem_cons_self))
    cases hn.symm.trans hn9
    exact ⟨meth, c, h1, h2, h3, h4, h5, h6⟩
  · intro p e s m args below meth c s₁ B hml hP _
    have hh0 : s₁.heap = s.heap := by rw [B.state]; rfl
    obtain ⟨t, a1, o, b1, b2, b3⟩ := body p e s m args below meth c s₁ B hml hP s₁ hh0 (Stand.of_body B)
    exact ⟨t, o, a1, b1, b2, ⟨b3.1, b3.2⟩⟩
/-- the contract of a method with handlers -/
def gMetW (l : Launch) (y : MethodName) (cc : ByteArray) (nL : Nat) (ret : Option FieldType) (hh : List (Nat × Nat × Nat × Nat)) (R : Room) (av : List Value) (D : va_G) (ty : Nat → ClassId) (ad : Int → Nat) (N : Int) (σ : Int → va_E) (post : gPost) : Prop :=
  ∀ sz : Nat, Met l y (.codeWith y cc nL ret hh :: WS) R (va_Pc av (fun U => U.heap.size = sz ∧ gw D ty ad N σ U ∧ gE (gA ad N sz) U U.heap)) (gQc D ty (gA ad N sz) post) R.cells R.slots (gA ad N sz)
theorem gMetW_of {l : Launch} {y : MethodName} {cc : ByteArray} {nL : Nat} {ret : Option FieldType} {hh : List (Nat × Nat × Nat × Nat)} {R : Room} {av : List Value} {D : va_G} {ty : Nat → ClassId} {ad : Int → Nat} {N : Int} {σ : Int → va_E} {post : gPost} (L : List (Option Value)) (hst : l.stackTraces = false)
    (hy : plainName y.cls = true) (hL : gent av ++ List.replicate (nL - (gent av).length) none = L) (hn : (lg_sl av).length ≤ nL) (hn2 : L.length = nL)
    (body : ∀ X : gT, gln X = l → gDD X = D → gty X = ty → gOk X cc nL y.cls R ret → gXk X → (gco X).exceptionTable.toList = tableOf hh → V X 0 0 (gQ X post R.cells R.slots) 0 L [] ad N σ) : gMetW l y cc nL ret hh R av D ty ad N σ post := by
  intro sz
  refine Met_ofFW (cc := cc) (maxL := nL) (ret := ret) hy rfl ?_
  intro p e s m args below meth c s₁ B hml hv
  obtain ⟨rfl, hsz, ⟨hP, hK, hD0, hO1, hO3, hNs⟩, hE⟩ := hv
  have hts := atoms_spec (ws := .codeWith y cc nL ret hh :: WS) B.pre
  have htab := vx_table (x := y) B (hts _ List.mem_cons_self)
  subst hsz
  have hb := body (p, l, e, R, s, m, av.toArray, below, meth, c, D, ty, gA ad N s.heap.size) rfl rfl rfl
    ⟨B.exec, B.bytes, hml, findClass_of_methodNamed B.named, fun w hw => hts w (List.mem_cons_of_mem _ hw), B.notSynchronized, B.returns, rfl, hK, fun q h => Or.inr h, hO1, hO3, hNs⟩ ⟨hst, hE⟩ htab
  have hl := lv_entry av (n := nL) hn
  rw [lg_entry_eq]
  generalize (lg_sl av ++ List.replicate (nL - (lg_sl av).length) Slot.unset).toArray = ls at hl ⊢
  refine hb ls s.heap [] ?_ ⟨hP, ⟨hD0.1, fun k q hq => ?_⟩, va_S.rf⟩
  · rw [← hL, gent_args, hL, hn2]; exact hl
  · obtain ⟨h1, h2⟩ := gl_of hq
    exact Or.inl ⟨k, h1, by rw [h2]⟩
section WRAP
variable {X : gT} {cc : ByteArray} {nL : Nat} {own : String} {R : Room} {ret : Option FieldType} {kc kn : Nat} {Q : State → Prop} {pc : Nat} {L : List (Option Value)} {st : List Value} {ad : Int → Nat} {N : Int} {σ : Int → va_E} {E : String}
variable {idx nY np f0 lo : Nat} {y : MethodName} {cY : ByteArray} {rY : Option FieldType} {As rest : List Value} {fs : List Value} {hh : List (Nat × Nat × Nat × Nat)}
/-- thrown by the callee, caught here -/
theorem r_catV (C : gOk X cc nL RL R ret) (hX : gXk X) (hT : (gco X).exceptionTable.toList = tableOf hh) (w : gCV RL idx RX4 y cY nY rY np) {b : Int} (hM : gThr (gln X) y cY nY rY f0 lo (.ref (ad b) :: As) (gDD X) (gty X) ad N σ E) (hd : decode cc pc = .ok (.invokevirtual idx, 3)) (hst : st = As.reverse ++ .ref (ad b) :: rest) (hb : 0 ≤ b ∧ b < N) (hσ : σ b = .inr (4, fs)) (hn : As.length = np) (hL : L.length = nL) (hW : (rest.map fun v => v.category).sum ≤ 8) (hR : f0 + 1 ≤ R.frames ∧ 8 + (nY + 11) + lo ≤ R.locals) (hc : kc + 1 ≤ R.cells ∧ kn + 6 ≤ R.slots)
    (pre : List ExceptionTableEntry) (x : ExceptionTableEntry) (suf : List ExceptionTableEntry) (hsplit : tableOf hh = pre ++ x :: suf) (hpass : ∀ z ∈ pre, covers z pc = false ∨ (z.catchType ≠ 0 ∧ ∃ nm : String, Cond.classLink RL z.catchType nm ∈ WS ∧ va_Nc E nm (gst X))) (hx : covers x pc = true) (h0 : x.catchType ≠ 0) (hlink : Cond.classLink RL x.catchType E ∈ WS) (hcast : va_Nw (.castable E E) (gst X))
    (kk : ∀ q : Nat, V X (kc + 1) (kn + 6) Q x.handlerPc L [.ref q] ad N σ) : V X kc kn Q pc L st ad N σ := fun ls H locs hl hw => by
  have hR' := C.2.2.2.2.2.2.2.1
  have hts := C.2.2.2.2.1
  subst hst
  obtain ⟨w1, w2, w3, w4, w5, w6, w7, w8, w9⟩ := w
  refine g_backX C (E := E) (rest := rest) (fun _ _ _ h => h) (vx_runV (As := As) (rest := rest) ⟨C.1, C.2.1, C.2.2.1, C.2.2.2.1, hts⟩ (hM H.size) ⟨callB_of np hts (g_good w5) rfl rfl rfl (by rw [w6]; exact hts _ w4) (hts _ w1) ⟨w7, w8, w9⟩ (by rw [hR']; exact hR), hts _ w2, hts _ w3⟩ ⟨gX_blind, ?_, fun U hU hW => ⟨rfl, gX_pre C hX.2 hw hU hW⟩⟩ rfl hn (hl.1.trans hL) rfl (lv_room hW) hd (by rw [hR']; exact hc)) hw (fun q ce H1 locs1 hw1 hce hcv hcl => ?_)
  · exact va_recv (ci := 4) (q0 := b.toNat) C.2.2.2.2.2.2.2.2.1 hw.1 rfl (by rw [gl_at hb, hσ])
  · exact vx_catch C.2.2.2.1 pre x suf (hT.trans hsplit) (fun z hz => (hpass z hz).imp id (fun h => ⟨h.1, h.2.imp fun nm h2 => ⟨hts _ h2.1, h2.2⟩⟩)) hx h0 (hts _ hlink) (va_Nw.use rfl hcast) hce hcv hcl (kk q ls H1 locs1 hl hw1)
/-- a call of a method with handlers -/
theorem r_cW {RY : Room} (C : gOk X cc nL own R ret) (hE : gE (gAA X) (gst X) (gst X).heap) (w : gCW own idx y cY nY rY hh np) {v : Value} {σ' : Int → va_E} (hM : gMetW (gln X) y cY nY rY hh RY As (gDD X) (gty X) ad N σ (gD (some v) ad N σ')) (hd : decode cc pc = .ok (.invokestatic idx, 3)) (hst : st = As.reverse ++ rest) (hn : As.length = np) (hL : L.length = nL) (hW : (rest.map fun v => v.category).sum ≤ 8) (hR : RY.frames + 1 ≤ R.frames ∧ 8 + (nY + 11) + RY.locals ≤ R.locals) (hc : kc + RY.cells ≤ R.cells ∧ kn + RY.slots ≤ R.slots)
    (k : V X (kc + RY.cells) (kn + RY.slots) Q (pc + 3) L (v :: rest) ad N σ') : V X kc kn Q pc L st ad N σ := fun ls H locs hl hw => by
  have hR' := C.2.2.2.2.2.2.2.1
  have hts := C.2.2.2.2.1
  subst hst
  obtain ⟨w1, w2, w4, w5, w7, w8, w9⟩ := w
  have hG : GoodIn WS (va_wsS own idx y (Cond.codeWith y cY nY rY hh :: WS)) := by
    intro z hz
    unfold va_wsS at hz
    rcases List.mem_append.mp hz with h | h
    · rcases List.mem_cons.mp h with h | h
      · rw [h]; exact WS_good _ w1
      · rcases List.mem_cons.mp h with h | h
        · rw [h]; exact WS_good _ w2
        · rw [List.mem_singleton.mp h]; exact WS_good _ w4
    · rcases List.mem_cons.mp h with h | h
      · rw [h]; exact WS_good _ w5
      · exact WS_good _ h
  exact g_back C (vx_runSW (As := As) (rest := rest) ⟨C.1, C.2.1, C.2.2.1, C.2.2.2.1, hts⟩ (hM H.size) (vx_cwSW np hts hG rfl rfl rfl ⟨w7, w8, w9⟩ (by rw [hR']; exact hR)) ⟨gX_blind, fun U hU hW => ⟨rfl, gX_pre C hE hw hU hW⟩⟩ rfl hn (hl.1.trans hL) rfl (lv_room hW) hd (by rw [hR']; exact hc)) hl hw (fun rv ad' N' σ2 h => by obtain ⟨rfl, rfl, rfl, rfl⟩ := h; exact k)
end WRAP
end
section
/-! what the law's property needs of a room: its keys, its things' beats, its candle (pure) -/
/-- the keys of a room are apart -/
def dkR (ρ : Int → Int) : Prop := ∀ i j : Int, 0 ≤ i → i < ρ 6 → 0 ≤ j → j < ρ 6 → ρ (7 + i) = ρ (7 + j) → i = j
/-- a thing with this key is in the room -/
def inR (ρ : Int → Int) (key : Int) : Prop := ∃ i : Int, (0 ≤ i ∧ i < ρ 6) ∧ ρ (7 + i) = key
theorem plcR_none (ρ : Int → Int) (key : Int) : ∀ (n : Nat) (p : Int), 0 ≤ p → plcR ρ key n p = -1 → ∀ i : Int, p ≤ i → i < p + n → ρ (7 + i) ≠ key
  | 0, p, _, _, i, h1, h2 => by omega
  | n + 1, p, hp, h, i, h1, h2 => by
    unfold plcR at h
    split at h
    · omega
    · rename_i hne
      by_cases e : i = p
      · rw [e]; exact hne
      · exact plcR_none ρ key n (p + 1) (by omega) h i (by omega) (by omega)
theorem plcR_some (ρ : Int → Int) (key : Int) : ∀ (n : Nat) (p : Int), plcR ρ key n p ≠ -1 → ρ (7 + plcR ρ key n p) = key
  | 0, p, h => absurd rfl h
  | n + 1, p, h => by
    unfold plcR at h ⊢
    by_cases e : ρ (7 + p) = key
    · rw [if_pos e]; exact e
    · rw [if_neg e] at h ⊢
      exact plcR_some ρ key n (p + 1) h
theorem plc_some {ρ : Int → Int} {key : Int} (h : plc ρ key ≠ -1) : ρ (7 + plc ρ key) = key := plcR_some ρ key _ _ h
theorem inR_plc {ρ : Int → Int} {key : Int} : inR ρ key ↔ plc ρ key ≠ -1 := by
  constructor
  · rintro ⟨i, hi, e⟩ h
    exact plcR_none ρ key (ρ 6).toNat 0 (by omega) h i hi.1 (by omega) e
  · intro h
    have h1 := plcR_rng ρ key (ρ 6).toNat 0
    have h2 := plc_some h
    unfold plc at h h2
    exact ⟨_, by omega, h2⟩
theorem plc_first {ρ : Int → Int} (h : 0 < ρ 6) : plc ρ (ρ (7 + 0)) = 0 := by
  unfold plc
  obtain ⟨n, hn⟩ : ∃ n, (ρ 6).toNat = n + 1 := ⟨(ρ 6).toNat - 1, by omega⟩
  rw [hn]
  unfold plcR
  rw [if_pos rfl]
/-- the things that stay: their keys -/
theorem ageL_key {set : Int} : ∀ (n : Nat) (p q : Int) (r : Int → Int), 0 ≤ q → q ≤ p → p + n ≤ 4 →
    (∀ i j : Int, (0 ≤ i ∧ i < q) ∨ (p ≤ i ∧ i < p + n) → (0 ≤ j ∧ j < q) ∨ (p ≤ j ∧ j < p + n) → r (7 + i) = r (7 + j) → i = j) →
    (∀ i j : Int, 0 ≤ i → i < (ageL set n p q r).2 → 0 ≤ j → j < (ageL set n p q r).2 → (ageL set n p q r).1 (7 + i) = (ageL set n p q r).1 (7 + j) → i = j) ∧
    ∀ i : Int, 0 ≤ i → i < (ageL set n p q r).2 → ∃ j : Int, ((0 ≤ j ∧ j < q) ∨ (p ≤ j ∧ j < p + n)) ∧ (ageL set n p q r).1 (7 + i) = r (7 + j)
  | 0, p, q, r, hq, hp, hn, h => by
    unfold ageL
    exact ⟨fun i j h1 h2 h3 h4 e => h i j (Or.inl ⟨h1, h2⟩) (Or.inl ⟨h3, h4⟩) e, fun i h1 h2 => ⟨i, Or.inl ⟨h1, h2⟩, rfl⟩⟩
  | n + 1, p, q, r, hq, hp, hn, h => by
    unfold ageL
    generalize hv : (if r 1 = 0 then r (11 + p) + 1 else 0) = v
    split
    · have hval : ∀ i : Int, 0 ≤ i → i < 4 → up (up r (7 + q) (r (7 + p))) (11 + q) v (7 + i) = r (7 + (if i = q then p else i)) := fun i h1 h2 => by
        rw [up_n (by omega)]
        by_cases e : i = q
        · rw [e, up_s, if_pos rfl]
        · rw [up_n (by omega), if_neg e]
      have hin : ∀ i : Int, (0 ≤ i ∧ i < q + 1) ∨ (p + 1 ≤ i ∧ i < p + 1 + (n : Int)) → (0 ≤ i ∧ i < 4) ∧ ((0 ≤ (if i = q then p else i) ∧ (if i = q then p else i) < q) ∨ (p ≤ (if i = q then p else i) ∧ (if i = q then p else i) < p + ((n + 1 : Nat) : Int))) := fun i hi => by
        refine ⟨by omega, ?_⟩
        by_cases e : i = q
        · rw [if_pos e]; exact Or.inr (by omega)
        · rw [if_neg e]
          rcases hi with hi | hi
          · exact Or.inl (by omega)
          · exact Or.inr (by omega)
      obtain ⟨g1, g2⟩ := ageL_key (set := set) n (p + 1) (q + 1) (up (up r (7 + q) (r (7 + p))) (11 + q) v) (by omega) (by omega) (by omega) (fun i j hi hj e => by
        obtain ⟨a1, a2⟩ := hin i hi
        obtain ⟨b1, b2⟩ := hin j hj
        rw [hval i a1.1 a1.2, hval j b1.1 b1.2] at e
        have e2 := h _ _ a2 b2 e
        by_cases e3 : i = q
        · by_cases e4 : j = q
          · omega
          · rw [if_pos e3, if_neg e4] at e2; omega
        · by_cases e4 : j = q
          · rw [if_neg e3, if_pos e4] at e2; omega
          · rw [if_neg e3, if_neg e4] at e2; exact e2)
      refine ⟨g1, fun i h1 h2 => ?_⟩
      obtain ⟨j, hj, e⟩ := g2 i h1 h2
      obtain ⟨b1, b2⟩ := hin j hj
      exact ⟨_, b2, e.trans (hval j b1.1 b1.2)⟩
    · obtain ⟨g1, g2⟩ := ageL_key (set := set) n (p + 1) q r (by omega) (by omega) (by omega) (fun i j hi hj e => h i j (by omega) (by omega) e)
      refine ⟨g1, fun i h1 h2 => ?_⟩
      obtain ⟨j, hj, e⟩ := g2 i h1 h2
      exact ⟨j, by omega, e⟩
/-- the things that stay: their beats in the dark -/
theorem ageL_dark {set : Int} : ∀ (n : Nat) (p q : Int) (r : Int → Int), 0 ≤ q → q ≤ p → p + n ≤ 4 → (∀ i : Int, p ≤ i → i < p + n → 0 ≤ r (11 + i)) →
    (∀ i : Int, 0 ≤ i → i < q → r (11 + i) < set ∧ (r (11 + i) = 0 ↔ r 1 ≠ 0)) →
    ∀ i : Int, 0 ≤ i → i < (ageL set n p q r).2 → (ageL set n p q r).1 (11 + i) < set ∧ ((ageL set n p q r).1 (11 + i) = 0 ↔ r 1 ≠ 0)
  | 0, p, q, r, hq, hp, hn, h0, h => by
    unfold ageL
    exact h
  | n + 1, p, q, r, hq, hp, hn, h0, h => by
    unfold ageL
    generalize hv : (if r 1 = 0 then r (11 + p) + 1 else 0) = v
    have hv0 : v = 0 ↔ r 1 ≠ 0 := by
      have := h0 p (by omega) (by omega)
      by_cases e : r 1 = 0
      · rw [if_pos e] at hv
        exact ⟨fun h => by omega, fun h => absurd e h⟩
      · rw [if_neg e] at hv
        exact ⟨fun _ => e, fun _ => hv.symm⟩
    split
    · rename_i hlt
      have e1 : up (up r (7 + q) (r (7 + p))) (11 + q) v 1 = r 1 := by rw [up_n (by omega), up_n (by omega)]
      have g := ageL_dark (set := set) n (p + 1) (q + 1) (up (up r (7 + q) (r (7 + p))) (11 + q) v) (by omega) (by omega) (by omega)
        (fun i h1 h2 => by rw [up_n (by omega), up_n (by omega)]; exact h0 i (by omega) (by omega))
        (fun i h1 h2 => by
          rw [e1]
          by_cases e : i = q
          · rw [e, up_s]; exact ⟨hlt, hv0⟩
          · rw [up_n (by omega), up_n (by omega)]; exact h i h1 (by omega))
      rw [e1] at g
      exact g
    · exact ageL_dark (set := set) n (p + 1) q r (by omega) (by omega) (by omega) (fun i h1 h2 => h0 i (by omega) (by omega)) h
section AGE
variable {ρ : Int → Int} {set : Int}
theorem age_lo (hset : 1 ≤ set ∧ set ≤ 50) (h : okR ρ) (hc : can ρ) {j : Int} (hj : j < 6) : ageR ρ set j = ρ j := by
  obtain ⟨-, -, -, g4⟩ := ageL_ok hset (ρ 6).toNat 0 0 ρ (by omega) (by omega) (by have := h.many; omega) h hc
  unfold ageR
  rw [up_n (by omega), g4 j (by omega)]
theorem age_6 : ageR ρ set 6 = ageQ ρ set := up_s _ _ _
theorem age_dk (h : okR ρ) (hd : dkR ρ) : dkR (ageR ρ set) ∧ ∀ key, inR (ageR ρ set) key → inR ρ key := by
  have hm := h.many
  obtain ⟨g1, g2⟩ := ageL_key (set := set) (ρ 6).toNat 0 0 ρ (by omega) (by omega) (by omega) (fun i j hi hj e => hd i j (by omega) (by omega) (by omega) (by omega) e)
  refine ⟨fun i j h1 h2 h3 h4 e => ?_, fun key => ?_⟩
  · rw [age_6] at h2 h4
    unfold ageR at e
    rw [up_n (by omega), up_n (by omega)] at e
    exact g1 i j h1 h2 h3 h4 e
  · rintro ⟨i, hi, e⟩
    rw [age_6] at hi
    unfold ageR at e
    rw [up_n (by omega)] at e
    obtain ⟨j, hj, e2⟩ := g2 i hi.1 hi.2
    exact ⟨j, by omega, e2.symm.trans e⟩
theorem age_dark (h : okR ρ) {i : Int} (h1 : 0 ≤ i) (h2 : i < ageR ρ set 6) : ageR ρ set (11 + i) < set ∧ (ageR ρ set (11 + i) = 0 ↔ ρ 1 ≠ 0) := by
  have hm := h.many
  rw [age_6] at h2
  have g := ageL_dark (set := set) (ρ 6).toNat 0 0 ρ (by omega) (by omega) (by omega) (fun i h1 h2 => (h.dark i (by omega) (by omega)).1) (fun i h1 h2 => by omega) i h1 h2
  have e : ageR ρ set (11 + i) = (ageL set (ρ 6).toNat 0 0 ρ).1 (11 + i) := by unfold ageR; rw [up_n (by omega)]
  rw [e]
  exact g
end AGE
theorem burn_hi {ρ : Int → Int} {j : Int} (h : j ≠ 0 ∧ j ≠ 1 ∧ j ≠ 2 ∧ j ≠ 4) : burnR ρ j = ρ j := by
  obtain ⟨h0, h1, h2, h4⟩ := h
  unfold burnR
  split
  · rfl
  · split
    · rw [up_n h2, up_n h1, up_n h0, up_n h4]
    · rw [up_n h1, up_n h0, up_n h4]
theorem burn_off {ρ : Int → Int} (h : ρ 1 = 0) : burnR ρ = ρ := if_pos h
theorem burn_on {ρ : Int → Int} (h : ρ 1 ≠ 0) : burnR ρ 0 = max 0 (ρ 0 - lessR (ρ 2)) ∧ ((0 < ρ 0 - lessR (ρ 2) ∧ burnR ρ 1 = 1 ∧ burnR ρ 2 = min 9 (ρ 2 + 1)) ∨ (ρ 0 - lessR (ρ 2) ≤ 0 ∧ burnR ρ 1 = 0)) := by
  unfold burnR
  rw [if_neg h]
  split
  · rename_i hp
    refine ⟨?_, Or.inl ⟨by omega, ?_, ?_⟩⟩
    · rw [up_n (by omega), up_n (by omega), up_s]
    · rw [up_n (by omega), up_s]
    · rw [up_s]
  · rename_i hp
    refine ⟨?_, Or.inr ⟨by omega, ?_⟩⟩
    · rw [up_n (by omega), up_s]
    · rw [up_s]
theorem burn_len {ρ : Int → Int} (h : okR ρ) : burnR ρ 0 ≤ ρ 0 := by
  have hl := h.len
  have hr := lessR_rng (ρ 2)
  by_cases e : ρ 1 = 0
  · rw [burn_off e]; omega
  · rw [(burn_on e).1]; omega
theorem burn_bur {ρ : Int → Int} (h : okR ρ) : burnR ρ 1 ≤ ρ 1 := by
  have hb := h.bur
  by_cases e : ρ 1 = 0
  · rw [burn_off e]; omega
  · rcases (burn_on e).2 with h | h <;> omega
/-- a candle burns no longer than it is long -/
theorem untr_le : ∀ (n : Nat) (l t : Int), 0 ≤ l → untr n l t ≤ l
  | 0, l, t, h => by unfold untr; exact h
  | n + 1, l, t, h => by
    unfold untr
    split
    · exact h
    · have hr := lessR_rng t
      by_cases e : 0 ≤ l - lessR t
      · have := untr_le n (l - lessR t) (min 9 (t + 1)) e
        omega
      · have h0 : untr n (l - lessR t) (min 9 (t + 1)) = 0 := by
          cases n with
          | zero => rfl
          | succ n => unfold untr; rw [if_pos (by omega)]
        omega
theorem untr_pos {n : Nat} {l t : Int} (h : 0 < l) : 1 ≤ untr (n + 1) l t := by
  have := untr_rng n (l - lessR t) (min 9 (t + 1))
  unfold untr
  rw [if_neg (by omega)]
  omega
/-! sums -/
theorem sumF_le {f g : Int → Int} : ∀ (n : Nat) (p : Int), (∀ i, p ≤ i → i < p + n → f i ≤ g i) → sumF f n p ≤ sumF g n p
  | 0, p, _ => by unfold sumF; omega
  | n + 1, p, h => by
    have h1 := h p (by omega) (by omega)
    have h2 := sumF_le n (p + 1) (fun i a b => h i (by omega) (by omega))
    unfold sumF; omega
theorem sumF_sub {f g d : Int → Int} : ∀ (n : Nat) (p : Int), (∀ i, p ≤ i → i < p + n → f i = g i - d i) → sumF f n p = sumF g n p - sumF d n p
  | 0, p, _ => by unfold sumF; omega
  | n + 1, p, h => by
    have h1 := h p (by omega) (by omega)
    have h2 := sumF_sub n (p + 1) (fun i a b => h i (by omega) (by omega))
    unfold sumF; omega
theorem sumF_0 {f : Int → Int} : ∀ (n : Nat) (p : Int), (∀ i, p ≤ i → i < p + n → 0 ≤ f i) → sumF f n p ≤ 0 → ∀ i, p ≤ i → i < p + n → f i = 0
  | 0, p, _, _, i, h1, h2 => by omega
  | n + 1, p, h, h0, i, h1, h2 => by
    have g1 := h p (by omega) (by omega)
    have g2 := sumF_le (f := fun _ => 0) (g := f) n (p + 1) (fun i a b => h i (by omega) (by omega))
    have g3 : ∀ (n : Nat) (p : Int), sumF (fun _ => 0) n p = 0 := fun n => by
      induction n with
      | zero => intro p; rfl
      | succ n ih => intro p; unfold sumF; rw [ih]; rfl
    rw [g3] at g2
    unfold sumF at h0
    by_cases e : i = p
    · rw [e]; omega
    · exact sumF_0 n (p + 1) (fun i a b => h i (by omega) (by omega)) (by omega) i (by omega) (by omega)
theorem sumF_one {f g : Int → Int} {r d : Int} (hne : ∀ i, i ≠ r → f i = g i) (hr : f r = g r + d) : ∀ (n : Nat) (p : Int), p ≤ r → r < p + n → sumF f n p = sumF g n p + d
  | 0, p, h1, h2 => by omega
  | n + 1, p, h1, h2 => by
    unfold sumF
    by_cases e : p = r
    · subst e
      have h3 := sumF_cong (f := f) (g := g) n (p + 1) (fun i a b => hne i (by omega))
      omega
    · have h3 := sumF_one hne hr n (p + 1) (by omega) (by omega)
      have h4 := hne p e
      omega
end
section
/-! what the law's property needs of a store: what holds of every store that comes up (pure) -/
/-- no two things anywhere have the same key -/
def ku (s : Int → Int) : Prop := (∀ r, 0 ≤ r → r < 6 → dkR (rm s r)) ∧ ∀ r q key, 0 ≤ r → r < 6 → 0 ≤ q → q < 6 → inR (rm s r) key → inR (rm s q) key → r = q
/-- a store behind t calls -/
def ok2 (t : Int) (s : Int → Int) : Prop := okS s ∧ (∀ r, 0 ≤ r → r < 6 → rm s r 0 ≤ 20) ∧ ku s ∧ 0 ≤ s 5 ∧ s 5 ≤ s 4 ∧ s 4 ≤ t
theorem ku_sub {s s' : Int → Int} (h : ku s) (hd : ∀ r, 0 ≤ r → r < 6 → dkR (rm s r) → dkR (rm s' r)) (hi : ∀ r key, 0 ≤ r → r < 6 → inR (rm s' r) key → inR (rm s r) key) : ku s' :=
  ⟨fun r h1 h2 => hd r h1 h2 (h.1 r h1 h2), fun r q key h1 h2 h3 h4 a b => h.2 r q key h1 h2 h3 h4 (hi r key h1 h2 a) (hi q key h3 h4 b)⟩
/-- a room's things are the same -/
def thS (ρ ρ' : Int → Int) : Prop := ρ' 6 = ρ 6 ∧ ∀ i, 0 ≤ i → i < 4 → ρ' (7 + i) = ρ (7 + i)
theorem thS_dk {ρ ρ' : Int → Int} (hm : ρ 6 ≤ 4) (h : thS ρ ρ') (hd : dkR ρ) : dkR ρ' := fun i j h1 h2 h3 h4 e => by
  rw [h.1] at h2 h4
  rw [h.2 i h1 (by omega), h.2 j h3 (by omega)] at e
  exact hd i j h1 h2 h3 h4 e
theorem thS_in {ρ ρ' : Int → Int} (hm : ρ 6 ≤ 4) (h : thS ρ ρ') {key : Int} (hi : inR ρ' key) : inR ρ key := by
  obtain ⟨i, h1, e⟩ := hi
  rw [h.1] at h1
  rw [h.2 i h1.1 (by omega)] at e
  exact ⟨i, h1, e⟩
theorem ku_same {s s' : Int → Int} (hs : okS s) (h : ku s) (ht : ∀ r, 0 ≤ r → r < 6 → thS (rm s r) (rm s' r)) : ku s' :=
  ku_sub h (fun r h1 h2 => thS_dk (hs.rm ⟨h1, h2⟩).many.2 (ht r h1 h2)) (fun r key h1 h2 => thS_in (hs.rm ⟨h1, h2⟩).many.2 (ht r h1 h2))
theorem ok2_same {t : Int} {s s' : Int → Int} (h : ok2 t s) (hs : okS s') (hl : ∀ r, 0 ≤ r → r < 6 → rm s' r 0 ≤ 20) (ht : ∀ r, 0 ≤ r → r < 6 → thS (rm s r) (rm s' r)) (h5 : s' 5 = s 5) (h4 : s' 4 = s 4) : ok2 t s' :=
  ⟨hs, hl, ku_same h.1 h.2.2.1 ht, by rw [h5]; exact h.2.2.2.1, by rw [h5, h4]; exact h.2.2.2.2.1, by rw [h4]; exact h.2.2.2.2.2⟩
theorem ok2_le {t t' : Int} {s : Int → Int} (h : ok2 t s) (ht : t ≤ t') : ok2 t' s := ⟨h.1, h.2.1, h.2.2.1, h.2.2.2.1, h.2.2.2.2.1, by have := h.2.2.2.2.2; omega⟩
theorem rm_upc {s : Int → Int} {r j z q : Int} (hj : 0 ≤ j ∧ j < 15) : rm (up s (9 + 15 * r + j) z) q = if q = r then up (rm s q) j z else rm s q := by
  by_cases e : q = r
  · rw [if_pos e, e, rm_up hj]
  · rw [if_neg e, rm_up_ne hj e]
theorem thS_rf (ρ : Int → Int) : thS ρ ρ := ⟨rfl, fun _ _ _ => rfl⟩
theorem thS_up {ρ : Int → Int} {j z : Int} (hj : j < 6) : thS ρ (up ρ j z) := ⟨up_n (by omega), fun i h1 h2 => up_n (by omega)⟩
theorem ok2_upc {t : Int} {s : Int → Int} (h : ok2 t s) {r j z : Int} (hr : 0 ≤ r) (hj : 1 ≤ j ∧ j < 6) (hs : okS (up s (9 + 15 * r + j) z)) : ok2 t (up s (9 + 15 * r + j) z) := by
  refine ok2_same h hs (fun q h1 h2 => ?_) (fun q h1 h2 => ?_) (up_n (by omega)) (up_n (by omega))
  · rw [rm_upc (by omega)]
    split
    · rw [up_n (by omega)]; exact h.2.1 q h1 h2
    · exact h.2.1 q h1 h2
  · rw [rm_upc (by omega)]
    split
    · exact thS_up (by omega)
    · exact thS_rf _
theorem ok2_lo {t : Int} {s : Int → Int} (h : ok2 t s) {j z : Int} (hj : j < 9 ∧ j ≠ 4 ∧ j ≠ 5) (hs : okS (up s j z)) : ok2 t (up s j z) := by
  refine ok2_same h hs (fun q h1 h2 => ?_) (fun q h1 h2 => ?_) (up_n (by omega)) (up_n (by omega))
  · rw [rm_up_lo (by omega)]; exact h.2.1 q h1 h2
  · rw [rm_up_lo (by omega)]; exact thS_rf _
theorem ok2_light {t : Int} {s : Int → Int} (h : ok2 t s) {r : Int} (hr : 0 ≤ r ∧ r < 6) (hl : 0 < rm s r 0) : ok2 t (light1 s r) :=
  ok2_upc h hr.1 (by omega) (okS_light h.1 hr hl)
theorem ok2_door {t : Int} {s : Int → Int} (h : ok2 t s) {r z : Int} (hr : 0 ≤ r ∧ r < 6) (hz : z = 0 ∨ z = 1) : ok2 t (up s (9 + 15 * r + 5) z) :=
  ok2_upc h hr.1 (by omega) (okS_door h.1 hr hz)
theorem ok2_shield {t : Int} {s : Int → Int} (h : ok2 t s) {r z : Int} (hr : 0 ≤ r ∧ r < 6) (hz : z = 0 ∨ z = 1) : ok2 t (up s (9 + 15 * r + 3) z) :=
  ok2_upc h hr.1 (by omega) (okS_shield h.1 hr hz)
theorem ok2_set {t : Int} {s : Int → Int} (h : ok2 t s) {z : Int} (hz : 1 ≤ z ∧ z ≤ 50) : ok2 t (up s 0 z) := ok2_lo h (by omega) (okS_set h.1 hz)
theorem ok2_dra {t : Int} {s : Int → Int} (h : ok2 t s) {r w : Int} (hr : 0 ≤ r ∧ r < 6) (hw : 1 ≤ w ∧ w ≤ 6) : ok2 t (draS s r w) := by
  refine ok2_same h (okS_dra h.1 hr hw) (fun q h1 h2 => ?_) (fun q h1 h2 => ?_) ?_ ?_
  · unfold draS; rw [rm_up_lo (by omega), rm_up_lo (by omega)]; exact h.2.1 q h1 h2
  · unfold draS; rw [rm_up_lo (by omega), rm_up_lo (by omega)]; exact thS_rf _
  · unfold draS; rw [up_n (by omega), up_n (by omega)]
  · unfold draS; rw [up_n (by omega), up_n (by omega)]
theorem can_new {ρ : Int → Int} (h : can ρ) : can (newR ρ) := can_up (can_up (can_up h (by omega) _) (by omega) _) (by omega) _
theorem rm_renew {s : Int → Int} {r q : Int} (hr : 0 ≤ r) (hq : 0 ≤ q) : rm (renew s r) q = if q = r then newR (rm s r) else rm s q := by
  unfold renew
  rw [rm_up_lo (by omega)]
  by_cases e : q = r
  · rw [if_pos e, e, rm_srm (can_new (can_rm s r))]
  · rw [if_neg e, rm_srm_ne e]
theorem ok2_renew {t : Int} {s : Int → Int} (h : ok2 t s) {r : Int} (hr : 0 ≤ r ∧ r < 6) (hb : 0 < s 1) : ok2 t (renew s r) := by
  refine ok2_same h (okS_renew h.1 hr hb) (fun q h1 h2 => ?_) (fun q h1 h2 => ?_) ?_ ?_
  · rw [rm_renew hr.1 h1]
    split
    · unfold newR; rw [up_n (by omega), up_n (by omega), up_s]; omega
    · exact h.2.1 q h1 h2
  · rw [rm_renew hr.1 h1]
    split
    · rename_i e
      rw [e]
      unfold newR
      exact ⟨by rw [up_n (by omega), up_n (by omega), up_n (by omega)], fun i h1 h2 => by rw [up_n (by omega), up_n (by omega), up_n (by omega)]⟩
    · exact thS_rf _
  · unfold renew; rw [up_n (by omega), srm_lo (by omega)]
  · unfold renew; rw [up_n (by omega), srm_lo (by omega)]
/-! where a key is -/
theorem rofN_none (s : Int → Int) (key : Int) : ∀ (n : Nat) (r : Int), 0 ≤ r → rofN s key n r = -1 → ∀ q, r ≤ q → q < r + n → plc (rm s q) key = -1
  | 0, r, _, _, q, h1, h2 => by omega
  | n + 1, r, hr, h, q, h1, h2 => by
    unfold rofN at h
    split at h
    · rename_i e
      by_cases e2 : q = r
      · rw [e2]; exact e
      · exact rofN_none s key n (r + 1) (by omega) h q (by omega) (by omega)
    · omega
theorem rof_none {s : Int → Int} {key : Int} (h : rof s key = -1) {q : Int} (hq : 0 ≤ q ∧ q < 6) : ¬ inR (rm s q) key := fun hi =>
  inR_plc.mp hi (rofN_none s key 6 0 (by omega) h q hq.1 (by omega))
theorem rof_ku {s : Int → Int} (hk : ku s) {q key : Int} (hq : 0 ≤ q ∧ q < 6) (h : inR (rm s q) key) : rof s key = q := by
  rcases rof_rng s key with h1 | ⟨a, b, c⟩
  · exact absurd h (rof_none h1 hq)
  · exact hk.2 _ _ key a b hq.1 hq.2 (inR_plc.mpr c) h
theorem can_add {ρ : Int → Int} (h : can ρ) (hm : 0 ≤ ρ 6 ∧ ρ 6 < 4) (key : Int) : can (addR ρ key) := can_up (can_up (can_up h (by omega) _) (by omega) _) (by omega) _
theorem add_at {ρ : Int → Int} {key i : Int} (hm : 0 ≤ ρ 6 ∧ ρ 6 < 4) (h1 : 0 ≤ i) (h2 : i < ρ 6 + 1) : addR ρ key (7 + i) = if i = ρ 6 then key else ρ (7 + i) := by
  unfold addR
  rw [up_n (by omega), up_n (by omega)]
  by_cases e : i = ρ 6
  · rw [if_pos e, e, up_s]
  · rw [if_neg e, up_n (by omega)]
theorem add_6 {ρ : Int → Int} {key : Int} : addR ρ key 6 = ρ 6 + 1 := up_s _ _ _
theorem add_dk {ρ : Int → Int} {key : Int} (hm : 0 ≤ ρ 6 ∧ ρ 6 < 4) (hd : dkR ρ) (hk : ¬ inR ρ key) : dkR (addR ρ key) := fun i j h1 h2 h3 h4 e => by
  rw [add_6] at h2 h4
  rw [add_at hm h1 h2, add_at hm h3 h4] at e
  by_cases e1 : i = ρ 6
  · by_cases e2 : j = ρ 6
    · omega
    · rw [if_pos e1, if_neg e2] at e
      exact absurd ⟨j, by omega, e.symm⟩ hk
  · by_cases e2 : j = ρ 6
    · rw [if_neg e1, if_pos e2] at e
      exact absurd ⟨i, by omega, e⟩ hk
    · rw [if_neg e1, if_neg e2] at e
      exact hd i j h1 (by omega) h3 (by omega) e
theorem add_in {ρ : Int → Int} {key key' : Int} (hm : 0 ≤ ρ 6 ∧ ρ 6 < 4) (h : inR (addR ρ key) key') : key' = key ∨ inR ρ key' := by
  obtain ⟨i, h1, e⟩ := h
  rw [add_6] at h1
  rw [add_at hm h1.1 h1.2] at e
  split at e
  · exact Or.inl e.symm
  · exact Or.inr ⟨i, by omega, e⟩
theorem ok2_keep {t : Int} {s : Int → Int} (h : ok2 t s) {r key : Int} (hr : 0 ≤ r ∧ r < 6) (hk : 0 ≤ key ∧ key < 100) (hm : mayK s r key) : ok2 t (keepS s r key) := by
  have hs' := okS_keep h.1 hr hk hm.2
  have hmm : 0 ≤ rm s r 6 ∧ rm s r 6 < 4 := ⟨(h.1.rm hr).many.1, hm.2⟩
  have hrm : ∀ q, rm (keepS s r key) q = if q = r then addR (rm s r) key else rm s q := fun q => by
    unfold keepS
    by_cases e : q = r
    · rw [if_pos e, e, rm_srm (can_add (can_rm s r) hmm key)]
    · rw [if_neg e, rm_srm_ne e]
  refine ⟨hs', fun q h1 h2 => ?_, ⟨fun q h1 h2 => ?_, fun q p k2 h1 h2 h3 h4 a b => ?_⟩, ?_⟩
  · rw [hrm]
    split
    · unfold addR; rw [up_n (by omega), up_n (by omega), up_n (by omega)]; exact h.2.1 r hr.1 hr.2
    · exact h.2.1 q h1 h2
  · rw [hrm]
    split
    · exact add_dk hmm (h.2.2.1.1 r hr.1 hr.2) (rof_none hm.1 hr)
    · exact h.2.2.1.1 q h1 h2
  · rw [hrm] at a b
    by_cases e1 : q = r
    · by_cases e2 : p = r
      · omega
      · rw [if_pos e1] at a
        rw [if_neg e2] at b
        rcases add_in hmm a with e | a
        · rw [e] at b; exact absurd b (rof_none hm.1 ⟨h3, h4⟩)
        · rw [e1]; exact h.2.2.1.2 r p k2 hr.1 hr.2 h3 h4 a b
    · by_cases e2 : p = r
      · rw [if_neg e1] at a
        rw [if_pos e2] at b
        rcases add_in hmm b with e | b
        · rw [e] at a; exact absurd a (rof_none hm.1 ⟨h1, h2⟩)
        · rw [e2]; exact h.2.2.1.2 q r k2 h1 h2 hr.1 hr.2 a b
      · rw [if_neg e1] at a
        rw [if_neg e2] at b
        exact h.2.2.1.2 q p k2 h1 h2 h3 h4 a b
  · unfold keepS
    rw [srm_lo (by omega), srm_lo (by omega)]
    exact h.2.2.2
/-! a beat -/
theorem rm_burnAll {s : Int → Int} {r : Int} (hr : 0 ≤ r ∧ r < 6) : rm (burnAll s) r = burnR (rm s r) := rm_mapR_lt (by omega) (can_burn (can_rm s r))
theorem blN_cong {s s' : Int → Int} (h7 : s' 7 = s 7) (h : ∀ r, 0 ≤ r → r < 6 → rm s' r 3 = rm s r 3 ∧ rm s' r 5 = rm s r 5) : ∀ (n : Nat) (p : Int), blN s' n p = blN s n p
  | 0, p => rfl
  | n + 1, p => by
    unfold blN
    obtain ⟨a, b⟩ := h ((s 7 + p) % 6) (by omega) (by omega)
    rw [h7, a, b, blN_cong h7 h n (p + 1)]
theorem blown_burn (s : Int → Int) : blown (burnAll s) = blown s := by
  have h7 : burnAll s 7 = s 7 := mapR_lo (by omega)
  have h8 : burnAll s 8 = s 8 := mapR_lo (by omega)
  unfold blown
  rw [h8]
  exact blN_cong h7 (fun r h1 h2 => by rw [rm_burnAll ⟨h1, h2⟩, burn_hi (by omega), burn_hi (by omega)]; exact ⟨rfl, rfl⟩) _ _
theorem rm_mid {s : Int → Int} {r : Int} (hr : 0 ≤ r ∧ r < 6) : rm (mid s) r = if (r - s 7) % 6 < blown s then up (burnR (rm s r)) 1 0 else burnR (rm s r) := by
  have h7 : burnAll s 7 = s 7 := mapR_lo (by omega)
  have hb : blown (up (burnAll s) 6 (burnAll s 6 + cbF (burnAll s) (burnAll s 7) (blown (burnAll s)))) = blown (burnAll s) := by
    unfold blown
    rw [up_n (by omega)]
    exact blN_cong (up_n (by omega)) (fun r h1 h2 => by rw [rm_up_lo (by omega)]; exact ⟨rfl, rfl⟩) _ _
  unfold mid blow
  rw [rm_up_lo (by omega), rm_up_lo (by omega), rm_offTo hr, rm_up_lo (by omega), rm_burnAll hr, h7, blown_burn]
theorem rm_beat {s : Int → Int} (hs : okS s) {r : Int} (hr : 0 ≤ r ∧ r < 6) : rm (beat s) r = ageR (rm (mid s) r) (s 0) := by
  have h0 : mid s 0 = s 0 := mid_lo (by omega)
  have hm := okS_mid hs
  unfold beat
  rw [rm_up_lo (by omega), rm_up_lo (by omega)]
  unfold ageAll
  rw [rm_mapR_lt (by omega) (okR_age hm.set (hm.rm hr) (can_rm _ r)).2, h0]
theorem mid_r {s : Int → Int} {r j : Int} (hr : 0 ≤ r ∧ r < 6) (hj : 6 ≤ j) : rm (mid s) r j = rm s r j := by
  rw [rm_mid hr]
  split
  · rw [up_n (by omega), burn_hi (by omega)]
  · rw [burn_hi (by omega)]
theorem mid_len {s : Int → Int} (hs : okS s) {r : Int} (hr : 0 ≤ r ∧ r < 6) : rm (mid s) r 0 ≤ rm s r 0 ∧ rm (mid s) r 1 ≤ rm s r 1 := by
  have h1 := burn_len (hs.rm hr)
  have h2 := burn_bur (hs.rm hr)
  have h3 := (hs.rm hr).bur
  rw [rm_mid hr]
  split
  · rw [up_n (by omega), up_s]; omega
  · omega
theorem beat_lo {s : Int → Int} (hs : okS s) {r j : Int} (hr : 0 ≤ r ∧ r < 6) (hj : j < 6) : rm (beat s) r j = rm (mid s) r j := by
  have hm := okS_mid hs
  have h0 : mid s 0 = s 0 := mid_lo (by omega)
  rw [rm_beat hs hr, age_lo (by rw [← h0]; exact hm.set) (hm.rm hr) (can_rm _ r) hj]
theorem beat_n {s : Int → Int} : beat s 0 = s 0 ∧ beat s 1 = s 1 ∧ beat s 2 = s 2 + 1 ∧ beat s 3 = s 3 + goneB s ∧ beat s 4 = s 4 ∧ beat s 5 = s 5 ∧ beat s 7 = -1 := by
  have ha : ∀ j, j < 9 → ageAll (mid s) j = mid s j := fun j h => mapR_lo h
  unfold beat
  refine ⟨?_, ?_, ?_, ?_, ?_, ?_, ?_⟩
  · rw [up_n (by omega), up_n (by omega), ha _ (by omega), mid_lo (by omega)]
  · rw [up_n (by omega), up_n (by omega), ha _ (by omega), mid_lo (by omega)]
  · rw [up_s]
  · rw [up_n (by omega), up_s]
  · rw [up_n (by omega), up_n (by omega), ha _ (by omega), mid_lo (by omega)]
  · rw [up_n (by omega), up_n (by omega), ha _ (by omega), mid_lo (by omega)]
  · rw [up_n (by omega), up_n (by omega), ha _ (by omega)]
    unfold mid blow
    rw [up_n (by omega), up_s]
theorem ok2_beat {t : Int} {s : Int → Int} (h : ok2 t s) : ok2 t (beat s) := by
  have hs := h.1
  have hm := okS_mid hs
  obtain ⟨-, -, -, -, e4, e5, -⟩ := beat_n (s := s)
  have hmid : ku (mid s) := ku_same hs h.2.2.1 (fun r h1 h2 => ⟨mid_r ⟨h1, h2⟩ (by omega), fun i _ _ => mid_r ⟨h1, h2⟩ (by omega)⟩)
  refine ⟨okS_beat hs, fun r h1 h2 => ?_, ?_, ?_⟩
  · rw [beat_lo hs ⟨h1, h2⟩ (by omega)]
    have := (mid_len hs (r := r) ⟨h1, h2⟩).1
    have := h.2.1 r h1 h2
    omega
  · refine ku_sub hmid (fun r h1 h2 hd => ?_) (fun r key h1 h2 hi => ?_)
    · rw [rm_beat hs ⟨h1, h2⟩]
      exact (age_dk (hm.rm ⟨h1, h2⟩) hd).1
    · rw [rm_beat hs ⟨h1, h2⟩] at hi
      exact (age_dk (hm.rm ⟨h1, h2⟩) (hmid.1 r h1 h2)).2 key hi
  · rw [e4, e5]; exact h.2.2.2
theorem ok2_bts {t : Int} : ∀ (n : Nat) (s : Int → Int) (g : Int), ok2 t s → ok2 t (bts n s g).1
  | 0, s, g, h => h
  | n + 1, s, g, h => ok2_bts n (beat s) _ (ok2_beat h)
/-- right behind a beat: things in the light are at nought, others are not, none is due -/
def aft (s : Int → Int) : Prop := s 7 = -1 ∧ ∀ r i, 0 ≤ r → r < 6 → 0 ≤ i → i < rm s r 6 → rm s r (11 + i) < s 0 ∧ (rm s r (11 + i) = 0 ↔ rm s r 1 ≠ 0)
theorem aft_beat {s : Int → Int} (hs : okS s) : aft (beat s) := by
  have hm := okS_mid hs
  obtain ⟨e0, -, -, -, -, -, e7⟩ := beat_n (s := s)
  refine ⟨e7, fun r i h1 h2 h3 h4 => ?_⟩
  rw [beat_lo hs ⟨h1, h2⟩ (by omega : (1 : Int) < 6), e0]
  rw [rm_beat hs ⟨h1, h2⟩] at h4 ⊢
  exact age_dark (hm.rm ⟨h1, h2⟩) h3 h4
theorem cb_beat {s : Int → Int} (hs : okS s) : cb (beat s) ≤ cb s := sumF_le 6 0 (fun r h1 h2 => by
  have h := (mid_len hs (r := r) (by omega)).2
  rw [beat_lo hs (by omega) (by omega)]; exact h)
theorem thg_beat {s : Int → Int} (hs : okS s) : thg (beat s) = thg s - goneB s := by
  have h0 : mid s 0 = s 0 := mid_lo (by omega)
  unfold thg goneB goneS
  refine sumF_sub 6 0 (fun r h1 h2 => ?_)
  rw [rm_beat hs (by omega), age_6, h0, mid_r (by omega) (by omega)]
  omega
/-- what some beats do -/
theorem bts_all : ∀ (n : Nat) (s : Int → Int) (g : Int), okS s → (bts n s g).1 2 = s 2 + n ∧ (bts n s g).1 3 = s 3 + ((bts n s g).2 - g) ∧ (bts n s g).1 4 = s 4 ∧ (bts n s g).1 5 = s 5 ∧ thg (bts n s g).1 = thg s - ((bts n s g).2 - g) ∧ cb (bts n s g).1 ≤ cb s ∧ g ≤ (bts n s g).2 ∧ (bts n s g).2 ≤ g + 24 * n ∧ (aft s → aft (bts n s g).1)
  | 0, s, g, hs => by
    unfold bts
    dsimp only
    exact ⟨by omega, by omega, rfl, rfl, by omega, Int.le_refl _, Int.le_refl _, by omega, id⟩
  | n + 1, s, g, hs => by
    unfold bts
    obtain ⟨h2, h3, h4, h5, ht, hc, hg, hg2, ha⟩ := bts_all n (beat s) (g + goneB s) (okS_beat hs)
    obtain ⟨-, -, e2, e3, e4, e5, -⟩ := beat_n (s := s)
    have hgo := goneB_rng hs
    have h6 := cb_beat hs
    have h7 := thg_beat hs
    refine ⟨by omega, by omega, by omega, by omega, by omega, by omega, by omega, by omega, fun _ => ha (aft_beat hs)⟩
theorem bts_aft {n : Nat} {s : Int → Int} {g : Int} (hs : okS s) (hn : 1 ≤ n) : aft (bts n s g).1 := by
  obtain ⟨m, rfl⟩ : ∃ m, n = m + 1 := ⟨n - 1, by omega⟩
  unfold bts
  exact (bts_all m (beat s) (g + goneB s) (okS_beat hs)).2.2.2.2.2.2.2.2 (aft_beat hs)
theorem bts_okS {n : Nat} {s : Int → Int} {g : Int} (hs : okS s) : okS (bts n s g).1 := okS_bts n s g hs
/-! reading -/
theorem ok2_read {t : Int} {s : Int → Int} (h : ok2 t s) (key : Int) : ok2 (t + 1) (rdS s key) := by
  have hrr := rof_rng s key
  have h5 := h.2.2.2
  unfold rdS
  split
  · exact ok2_le h (by omega)
  · have hs4 : okS (up s 4 (s 4 + 1)) := okS_lo h.1 (by omega)
    have hk4 : ku (up s 4 (s 4 + 1)) := ku_same h.1 h.2.2.1 (fun r _ _ => by rw [rm_up_lo (by omega)]; exact thS_rf _)
    have h4 : ok2 (t + 1) (up s 4 (s 4 + 1)) := ⟨hs4, fun r a b => by rw [rm_up_lo (by omega)]; exact h.2.1 r a b, hk4, by rw [up_n (by omega)]; exact h5.1, by rw [up_n (by omega), up_s]; omega, by rw [up_s]; omega⟩
    split
    · exact ok2_bts _ _ _ (ok2_upc h4 (by omega) (by omega) (okS_wick hs4 (by omega)))
    · refine ok2_bts _ _ _ ?_
      have hs5 : okS (up (up s 4 (s 4 + 1)) 5 (s 5 + 1)) := okS_lo hs4 (by omega)
      exact ⟨hs5, fun r a b => by rw [rm_up_lo (by omega)]; exact h4.2.1 r a b, ku_same hs4 hk4 (fun r _ _ => by rw [rm_up_lo (j := 5) (by omega)]; exact thS_rf _), by rw [up_s]; omega, by rw [up_s, up_n (by omega), up_s]; omega, by rw [up_n (by omega), up_s]; omega⟩
theorem read_n {s : Int → Int} (hs : okS s) (key : Int) : rdS s key 4 = s 4 + (if rof s key = -1 then 0 else 1) ∧ rdS s key 5 = s 5 + (if rof s key = -1 then 0 else if rm s (rof s key) 1 = 1 then 0 else 1) ∧ rdS s key 2 = s 2 + (if rof s key = -1 then 0 else if rm s (rof s key) 1 = 1 then 1 else 3) := by
  have hrr := rof_rng s key
  by_cases h1 : rof s key = -1
  · have e : rdS s key = s := if_pos h1
    rw [e]
    simp only [if_pos h1]
    exact ⟨by omega, by omega, by omega⟩
  · have hs4 : okS (up s 4 (s 4 + 1)) := okS_lo hs (by omega)
    by_cases hl : rm s (rof s key) 1 = 1
    · have e : rdS s key = (bts 1 (up (up s 4 (s 4 + 1)) (9 + 15 * rof s key + 2) 0) 0).1 := by unfold rdS; rw [if_neg h1, if_pos hl]
      obtain ⟨h2, -, h4, h5, -⟩ := bts_all 1 (up (up s 4 (s 4 + 1)) (9 + 15 * rof s key + 2) 0) 0 (okS_wick hs4 (by omega))
      generalize rof s key = q at *
      simp only [if_neg h1, if_pos hl]
      rw [e, h2, h4, h5]
      refine ⟨?_, ?_, ?_⟩
      · rw [up_n (by omega), up_s]
      · rw [up_n (by omega), up_n (by omega)]; omega
      · rw [up_n (by omega), up_n (by omega)]; rfl
    · have e : rdS s key = (bts 3 (up (up s 4 (s 4 + 1)) 5 (s 5 + 1)) 0).1 := by unfold rdS; rw [if_neg h1, if_neg hl]
      obtain ⟨h2, -, h4, h5, -⟩ := bts_all 3 (up (up s 4 (s 4 + 1)) 5 (s 5 + 1)) 0 (okS_lo hs4 (by omega))
      simp only [if_neg h1, if_neg hl]
      rw [e, h2, h4, h5]
      refine ⟨?_, ?_, ?_⟩
      · rw [up_n (by omega), up_s]
      · rw [up_s]
      · rw [up_n (by omega), up_n (by omega)]; rfl
end
section
/-! what the looks tell of a store (pure) -/
theorem thg_0 {s : Int → Int} (hs : okS s) : thg s = 0 ↔ ∀ i, 0 ≤ i → i < 6 → rm s i 6 = 0 := by
  constructor
  · intro h i h1 h2
    exact sumF_0 (f := fun r => rm s r 6) 6 0 (fun i a b => (hs.rm (r := i) (by omega)).many.1) (by unfold thg at h; omega) i h1 (by omega)
  · intro h
    have h1 := thg_rng hs
    have h2 := sumF_le (f := fun r => rm s r 6) (g := fun _ => 0) 6 0 (fun i a b => by rw [h i a (by omega)]; exact Int.le_refl 0)
    have h3 : sumF (fun _ => 0) 6 0 = 0 := rfl
    unfold thg at h1 ⊢
    omega
theorem cb_0 {s : Int → Int} (hs : okS s) (h : cb s = 0) {i : Int} (hi : 0 ≤ i ∧ i < 6) : rm s i 1 = 0 :=
  sumF_0 (f := fun r => rm s r 1) 6 0 (fun i a b => by have := (hs.rm (r := i) (by omega)).bur; omega) (by unfold cb at h; omega) i hi.1 (by omega)
theorem cb_light {s : Int → Int} {r : Int} (hr : 0 ≤ r ∧ r < 6) (h : rm s r 1 = 0) : cb (light1 s r) = cb s + 1 := by
  unfold cb
  refine sumF_one (r := r) (fun i hi => ?_) ?_ 6 0 hr.1 (by omega)
  · unfold light1; rw [rm_upc (by omega), if_neg hi]
  · unfold light1; rw [rm_upc (by omega), if_pos rfl, up_s, h]; rfl
/-! how long a room is lit -/
theorem blit_spec {s : Int → Int} (hs : okS s) {r : Int} (hr : 0 ≤ r ∧ r < 6) : (blit s r = 0 ↔ rm s r 1 = 0) ∧ 0 ≤ blit s r ∧ blit s r ≤ rm s r 0 := by
  have h1 := (hs.rm hr).len
  have h2 := (hs.rm hr).lit
  have h3 := (hs.rm hr).bur
  have h4 := untr_rng 60 (rm s r 0) (rm s r 2)
  have h5 := untr_le 60 (rm s r 0) (rm s r 2) h1.1
  unfold blit
  by_cases e : rm s r 1 = 0
  · rw [if_pos e]; exact ⟨⟨fun _ => e, fun _ => rfl⟩, by omega, by omega⟩
  · have h6 := h2 (by omega)
    have h7 : 1 ≤ untr 60 (rm s r 0) (rm s r 2) := untr_pos (n := 59) (t := rm s r 2) h6
    rw [if_neg e]
    split
    · exact ⟨⟨fun h => by omega, fun h => absurd h e⟩, by omega, by omega⟩
    · exact ⟨⟨fun h => by omega, fun h => absurd h e⟩, by omega, by omega⟩
theorem savR_spec {ρ : Int → Int} (h : okR ρ) : (ρ 1 = 0 → savR ρ = 0) ∧ 0 ≤ savR ρ ∧ savR ρ ≤ 60 := by
  have h1 := h.len
  have h4 := untr_rng 60 (ρ 0) (ρ 2)
  have h5 := untr_le 60 (ρ 0) (ρ 2) h1.1
  unfold savR
  by_cases e : ρ 1 = 0
  · rw [if_pos e]; exact ⟨fun _ => rfl, by omega, by omega⟩
  · rw [if_neg e]; exact ⟨fun h => absurd h e, by omega, by omega⟩
theorem off_stays {s : Int → Int} (hs : okS s) {q : Int} (hq : 0 ≤ q ∧ q < 6) (h : rm s q 1 = 0) : rm (beat s) q 1 = 0 := by
  have h1 := (mid_len hs hq).2
  have h2 := ((okS_mid hs).rm hq).bur
  rw [beat_lo hs hq (by omega)]; omega
theorem lasts_off {q : Int} (hq : 0 ≤ q ∧ q < 6) : ∀ (n m : Nat) (s : Int → Int) (g : Int), okS s → rm s q 0 ≤ m → (rm s q 1 = 1 → untr m (rm s q 0) (rm s q 2) ≤ n) → rm (bts n s g).1 q 1 = 0
  | 0, m, s, g, hs, hm, h => by
    have h2 := (hs.rm hq).lit
    have h3 := (hs.rm hq).bur
    unfold bts
    dsimp only
    rcases h3 with h3 | h3
    · exact h3
    · have h4 := h h3
      have h5 := h2 h3
      obtain ⟨m', rfl⟩ : ∃ m', m = m' + 1 := ⟨m - 1, by omega⟩
      have h6 := untr_pos (n := m') (t := rm s q 2) h5
      omega
  | n + 1, m, s, g, hs, hm, h => by
    have h2 := (hs.rm hq).lit
    have h3 := (hs.rm hq).bur
    have hb := okS_beat hs
    have hb3 := (hb.rm hq).bur
    unfold bts
    by_cases e : rm (beat s) q 1 = 1
    · have e1 : rm s q 1 = 1 := by
        rcases h3 with h3 | h3
        · have := off_stays hs hq h3; omega
        · exact h3
      have h5 := h2 e1
      obtain ⟨m', rfl⟩ : ∃ m', m = m' + 1 := ⟨m - 1, by omega⟩
      have hr := lessR_rng (rm s q 2)
      have h6 := h e1
      unfold untr at h6
      rw [if_neg (by omega)] at h6
      have hmid : rm (mid s) q = burnR (rm s q) := by
        rw [beat_lo hs hq (by omega), rm_mid hq] at e
        rw [rm_mid hq]
        split
        · rename_i hd
          rw [if_pos hd, up_s] at e
          omega
        · rfl
      have e2 : burnR (rm s q) 1 = 1 := by rw [← hmid, ← beat_lo hs hq (by omega)]; exact e
      obtain ⟨a0, a1⟩ := burn_on (ρ := rm s q) (by omega)
      have a2 : 0 < rm s q 0 - lessR (rm s q 2) ∧ burnR (rm s q) 2 = min 9 (rm s q 2 + 1) := by
        rcases a1 with ⟨b1, b2, b3⟩ | ⟨b1, b2⟩
        · exact ⟨b1, b3⟩
        · omega
      have c0 : rm (beat s) q 0 = rm s q 0 - lessR (rm s q 2) := by rw [beat_lo hs hq (by omega), hmid, a0]; omega
      have c2 : rm (beat s) q 2 = min 9 (rm s q 2 + 1) := by rw [beat_lo hs hq (by omega), hmid, a2.2]
      refine lasts_off hq n m' (beat s) _ hb (by rw [c0]; omega) (fun _ => ?_)
      rw [c0, c2]; omega
    · refine lasts_off hq n m (beat s) _ hb ?_ (fun h => absurd h e)
      have := (mid_len hs hq).1
      rw [beat_lo hs hq (by omega)]; omega
/-- when the time of a room is over it is dark -/
theorem lasts_end {s : Int → Int} (hs : okS s) {q : Int} (hq : 0 ≤ q ∧ q < 6) (h : 0 < blit s q) : rm (bts (blit s q).toNat s 0).1 q 1 = 0 := by
  have h4 := untr_rng 60 (rm s q 0) (rm s q 2)
  by_cases e : rm s q 1 = 0
  · have h1 : blit s q = 0 := if_pos e
    omega
  · by_cases hd : (q - s 7) % 6 < blown s
    · have h1 : blit s q = 1 := by unfold blit; rw [if_neg e, if_pos hd]
      rw [h1]
      show rm (beat s) q 1 = 0
      rw [beat_lo hs hq (by omega), rm_mid hq, if_pos hd, up_s]
    · have h1 : blit s q = untr 60 (rm s q 0) (rm s q 2) := by unfold blit; rw [if_neg e, if_neg hd]
      exact lasts_off hq _ 60 s 0 hs (hs.rm hq).len.2 (fun _ => by rw [h1]; omega)
/-! the next thing that is forgotten, the neediest room -/
theorem ntN_spec {s : Int → Int} (hs : okS s) : ∀ (n : Nat) (p x : Int), 0 ≤ p → p + n ≤ 6 → (x = -1 ∨ (1 ≤ x ∧ x ≤ 110)) → (ntN s n p x = -1 ∨ (1 ≤ ntN s n p x ∧ ntN s n p x ≤ 110)) ∧ (ntN s n p x = -1 ↔ x = -1 ∧ ∀ i, p ≤ i → i < p + n → rm s i 6 = 0)
  | 0, p, x, hp, hn, hx => by
    unfold ntN
    exact ⟨hx, ⟨fun h => ⟨h, fun i h1 h2 => by omega⟩, fun h => h.1⟩⟩
  | n + 1, p, x, hp, hn, hx => by
    have hf := ffR_rng (hs.rm (r := p) (by omega)) (blit_rng s p) hs.set
    have hm := (hs.rm (r := p) (by omega)).many
    unfold ntN
    generalize hx' : (if 0 < rm s p 6 then (if x = -1 then ffR (rm s p) (blit s p) (s 0) else min x (ffR (rm s p) (blit s p) (s 0))) else x) = x'
    have h1 : (x' = -1 ∨ (1 ≤ x' ∧ x' ≤ 110)) ∧ (x' = -1 ↔ x = -1 ∧ rm s p 6 = 0) := by
      by_cases e : 0 < rm s p 6
      · rw [if_pos e] at hx'
        by_cases e2 : x = -1
        · rw [if_pos e2] at hx'; omega
        · rw [if_neg e2] at hx'; omega
      · rw [if_neg e] at hx'; omega
    obtain ⟨g1, g2⟩ := ntN_spec hs n (p + 1) x' (by omega) (by omega) h1.1
    refine ⟨g1, g2.trans ?_⟩
    rw [h1.2]
    constructor
    · rintro ⟨⟨a, b⟩, c⟩
      refine ⟨a, fun i h1 h2 => ?_⟩
      by_cases e : i = p
      · rw [e]; exact b
      · exact c i (by omega) (by omega)
    · rintro ⟨a, c⟩
      exact ⟨⟨a, c p (by omega) (by omega)⟩, fun i h1 h2 => c i (by omega) (by omega)⟩
theorem nextF_spec {s : Int → Int} (hs : okS s) : (nextF s = -1 ∨ (1 ≤ nextF s ∧ nextF s ≤ 110)) ∧ (nextF s = -1 ↔ thg s = 0) := by
  obtain ⟨g1, g2⟩ := ntN_spec hs 6 0 (-1) (by omega) (by omega) (Or.inl rfl)
  refine ⟨g1, g2.trans ?_⟩
  rw [thg_0 hs]
  exact ⟨fun h i a b => h.2 i a (by omega), fun h => ⟨rfl, fun i a b => h i a (by omega)⟩⟩
theorem ndN_spec {s : Int → Int} (hs : okS s) : ∀ (n : Nat) (p x : Int), 0 ≤ p → p + n ≤ 6 → (x = -1 ∨ (0 ≤ x ∧ x < 6)) → (ndN s n p x = -1 ∨ (0 ≤ ndN s n p x ∧ ndN s n p x < 6)) ∧ (ndN s n p x = -1 ↔ x = -1 ∧ ∀ i, p ≤ i → i < p + n → rm s i 6 = 0)
  | 0, p, x, hp, hn, hx => by
    unfold ndN
    exact ⟨hx, ⟨fun h => ⟨h, fun i h1 h2 => by omega⟩, fun h => h.1⟩⟩
  | n + 1, p, x, hp, hn, hx => by
    have hm := (hs.rm (r := p) (by omega)).many
    unfold ndN
    generalize hx' : (if 0 < rm s p 6 ∧ (x = -1 ∨ needr s p x) then p else x) = x'
    have h1 : (x' = -1 ∨ (0 ≤ x' ∧ x' < 6)) ∧ (x' = -1 ↔ x = -1 ∧ rm s p 6 = 0) := by
      by_cases e : 0 < rm s p 6 ∧ (x = -1 ∨ needr s p x)
      · rw [if_pos e] at hx'
        have := e.1
        omega
      · rw [if_neg e] at hx'
        subst hx'
        refine ⟨hx, ⟨fun h => ⟨h, ?_⟩, fun h => h.1⟩⟩
        by_cases e3 : 0 < rm s p 6
        · exact absurd ⟨e3, Or.inl h⟩ e
        · omega
    obtain ⟨g1, g2⟩ := ndN_spec hs n (p + 1) x' (by omega) (by omega) h1.1
    refine ⟨g1, g2.trans ?_⟩
    rw [h1.2]
    constructor
    · rintro ⟨⟨a, b⟩, c⟩
      refine ⟨a, fun i h1 h2 => ?_⟩
      by_cases e : i = p
      · rw [e]; exact b
      · exact c i (by omega) (by omega)
    · rintro ⟨a, c⟩
      exact ⟨⟨a, c p (by omega) (by omega)⟩, fun i h1 h2 => c i (by omega) (by omega)⟩
theorem needS_spec {s : Int → Int} (hs : okS s) : (needS s = -1 ∨ (0 ≤ needS s ∧ needS s < 6)) ∧ (needS s = -1 ↔ thg s = 0) := by
  obtain ⟨g1, g2⟩ := ndN_spec hs 6 0 (-1) (by omega) (by omega) (Or.inl rfl)
  refine ⟨g1, g2.trans ?_⟩
  rw [thg_0 hs]
  exact ⟨fun h i a b => h.2 i a (by omega), fun h => ⟨rfl, fun i a b => h i a (by omega)⟩⟩
/-! the candles on the way -/
theorem onW_q {s : Int → Int} {q d : Int} (hq : 0 ≤ q ∧ q < 6) : (rm s q 1 = 1 → onW s q d 6 0 = 0) ∧ (rm s q 1 ≠ 1 → onW s q d 6 0 = -1 ∨ (1 ≤ onW s q d 6 0 ∧ onW s q d 6 0 ≤ 5 ∧ rm s q 0 ≠ 0)) := by
  have e : (q + 0 * d) % 6 = q := by rw [Int.zero_mul]; omega
  unfold onW
  rw [e]
  refine ⟨fun h => if_pos h, fun h => ?_⟩
  rw [if_neg h]
  split
  · exact Or.inl rfl
  · rename_i hn
    have hr := onW_rng s q d 5 (0 + 1)
    by_cases e0 : rm s q 0 = 0
    · exact absurd (Or.inl e0) hn
    · rcases hr with hr | hr
      · exact Or.inl hr
      · exact Or.inr ⟨by omega, by omega, e0⟩
theorem toL_spec {s : Int → Int} (hs : okS s) {q : Int} (hq : 0 ≤ q ∧ q < 6) : (toL s q = 0 ↔ rm s q 1 = 1) ∧ (-1 ≤ toL s q ∧ toL s q ≤ 5) ∧ (1 ≤ toL s q → 0 < rm s q 0) ∧ (cb s = 0 → toL s q ≤ 1) := by
  obtain ⟨a1, a2⟩ := onW_q (s := s) (d := -1) hq
  obtain ⟨b1, b2⟩ := onW_q (s := s) (d := 1) hq
  have hl := (hs.rm hq).len
  have hb := (hs.rm hq).bur
  unfold toL
  by_cases e : cb s = 0
  · have h0 := cb_0 hs e hq
    rw [if_pos e]
    split
    · exact ⟨⟨fun h => by omega, fun h => by omega⟩, by omega, fun _ => by omega, fun _ => by omega⟩
    · exact ⟨⟨fun h => by omega, fun h => by omega⟩, by omega, fun h => by omega, fun _ => by omega⟩
  · rw [if_neg e]
    by_cases hl1 : rm s q 1 = 1
    · rw [a1 hl1, b1 hl1]
      exact ⟨⟨fun _ => hl1, fun _ => rfl⟩, by decide, fun h => absurd h (by decide), fun h => absurd h e⟩
    · have a3 := a2 hl1
      have b3 := b2 hl1
      generalize onW s q (-1) 6 0 = A at a3
      generalize onW s q 1 6 0 = B at b3
      split
      · exact ⟨⟨fun h => by omega, fun h => absurd h hl1⟩, by omega, fun h => by omega, fun h => absurd h e⟩
      · split
        · exact ⟨⟨fun h => by omega, fun h => absurd h hl1⟩, by omega, fun h => by omega, fun h => absurd h e⟩
        · exact ⟨⟨fun h => by omega, fun h => absurd h hl1⟩, by omega, fun h => by omega, fun h => absurd h e⟩
/-! the share in the light -/
def cmpT (a b : UInt64) (op : CmpOp) : Int := (Op.cmpValue (FP.dcmp a b) op).toInt
theorem cmpT_I (a b : UInt64) (op : CmpOp) : Op.cmpValue (FP.dcmp a b) op = gI (cmpT a b op) := (gI_of _).symm
theorem cmpT_rng (a b : UInt64) (op : CmpOp) : -2147483648 ≤ cmpT a b op ∧ cmpT a b op < 2147483648 := gI_rng _
theorem sh_tab : ∀ a : Fin 25, ∀ b : Fin 24, a.val ≤ b.val + 1 → 0 ≤ cmpT (shD (a.val : Int) ((b.val : Int) + 1)) FP.dconst0 CmpOp.l ∧ cmpT (shD (a.val : Int) ((b.val : Int) + 1)) FP.dconst1 CmpOp.g ≤ 0 := by decide +kernel
theorem share_cmp {s : Int → Int} (hs : okS s) : 0 ≤ cmpT (share s) FP.dconst0 CmpOp.l ∧ cmpT (share s) FP.dconst1 CmpOp.g ≤ 0 := by
  have h1 := thg_rng hs
  have h2 := inl_rng hs
  have h3 : inl s ≤ thg s := sumF_le 6 0 (fun i a b => by
    have := (hs.rm (r := i) (by omega)).many
    split <;> omega)
  unfold share
  by_cases e : thg s = 0
  · rw [if_pos e]; decide +kernel
  · rw [if_neg e]
    have h := sh_tab ⟨(inl s).toNat, by omega⟩ ⟨(thg s - 1).toNat, by omega⟩ (by dsimp only; omega)
    dsimp only at h
    rw [Int.toNat_of_nonneg h2.1, Int.toNat_of_nonneg (by omega), show thg s - 1 + 1 = thg s by omega] at h
    exact h
/-! things by their keys -/
theorem thn_0 {s : Int → Int} {key : Int} : thn s key 0 = rof s key := by
  unfold thn
  split
  · rename_i h; exact h.symm
  · rw [if_pos rfl]
theorem thn_none {s : Int → Int} {key w : Int} (h : rof s key = -1) : thn s key w = -1 := by unfold thn; rw [if_pos h]
theorem thn_1 {s : Int → Int} (hs : okS s) {key : Int} (h : rof s key ≠ -1) : ∃ i, (0 ≤ i ∧ i < rm s (rof s key) 6) ∧ thn s key 1 = rm s (rof s key) (11 + i) := by
  rcases rof_rng s key with h1 | ⟨a, b, c⟩
  · exact absurd h1 h
  · rcases plc_rng hs (r := rof s key) (key := key) ⟨a, b⟩ with h2 | h2
    · exact absurd h2 c
    · refine ⟨_, h2, ?_⟩
      unfold thn darkR
      rw [if_neg h, if_neg (by decide), if_pos rfl, if_pos h2]
theorem keyR_spec {ρ : Int → Int} (h : okR ρ) : (keyR ρ 0 = -1 ↔ ρ 6 = 0) ∧ -1 ≤ keyR ρ 0 ∧ keyR ρ 0 < 100 ∧ (0 < ρ 6 → 0 ≤ keyR ρ 0 ∧ keyR ρ 0 = ρ (7 + 0)) := by
  have h1 := h.keys 0 (by omega) (by omega)
  have h2 := h.many
  unfold keyR
  by_cases e : 0 < ρ 6
  · rw [if_pos ⟨Int.le_refl 0, e⟩]
    exact ⟨⟨fun h => by omega, fun h => by omega⟩, by omega, by omega, fun _ => ⟨by omega, rfl⟩⟩
  · rw [if_neg (by omega)]
    exact ⟨⟨fun _ => by omega, fun _ => rfl⟩, by omega, by omega, fun h => absurd h e⟩
theorem first_spec {t : Int} {s : Int → Int} (h : ok2 t s) {q : Int} (hq : 0 ≤ q ∧ q < 6) (hp : 0 < rm s q 6) : thn s (keyR (rm s q) 0) 0 = q ∧ thn s (keyR (rm s q) 0) 2 = 0 := by
  have hk := (keyR_spec (h.1.rm hq)).2.2.2 hp
  have hi : inR (rm s q) (keyR (rm s q) 0) := ⟨0, ⟨Int.le_refl 0, hp⟩, hk.2.symm⟩
  have hr := rof_ku h.2.2.1 hq hi
  refine ⟨thn_0.trans hr, ?_⟩
  unfold thn
  rw [hr, if_neg (by omega), if_neg (by decide), if_neg (by decide), hk.2]
  exact plc_first hp
/-- all that is told of a room -/
theorem house_room {t : Int} {s : Int → Int} (h : ok2 t s) {q : Int} (hq : 0 ≤ q ∧ q < 6) :
    (rm s q 1 = 0 ∨ (rm s q 1 = 1 ∧ 0 < rm s q 0)) ∧ (0 ≤ rm s q 0 ∧ rm s q 0 ≤ 20) ∧ (0 ≤ rm s q 2 ∧ rm s q 2 ≤ 9) ∧ (0 ≤ rm s q 6 ∧ rm s q 6 ≤ 4) ∧ ((keyR (rm s q) 0 = -1 ∧ rm s q 6 = 0) ∨ (0 ≤ keyR (rm s q) 0 ∧ keyR (rm s q) 0 < 100 ∧ 0 < rm s q 6)) ∧
    ((toL s q = 0 ∧ rm s q 1 = 1) ∨ ((toL s q = -1 ∨ (1 ≤ toL s q ∧ toL s q ≤ 5 ∧ 0 < rm s q 0)) ∧ rm s q 1 = 0)) ∧ ((rm s q 1 = 0 ∧ savR (rm s q) = 0) ∨ (rm s q 1 = 1 ∧ 0 ≤ savR (rm s q) ∧ savR (rm s q) ≤ 60)) ∧ ((blit s q = 0 ∧ rm s q 1 = 0) ∨ (0 < blit s q ∧ rm s q 1 = 1 ∧ blit s q ≤ rm s q 0)) := by
  have hR := h.1.rm hq
  have h0 := hR.len
  have h1 := hR.bur
  have h2 := hR.wick
  have h6 := hR.many
  have hl := hR.lit
  have h20 := h.2.1 q hq.1 hq.2
  obtain ⟨k1, k2, k3, k4⟩ := keyR_spec hR
  obtain ⟨c1, c2, c3, c4⟩ := toL_spec h.1 hq
  obtain ⟨v1, v2, v3⟩ := savR_spec hR
  obtain ⟨b1, b2, b3⟩ := blit_spec h.1 hq
  refine ⟨by omega, by omega, h2, h6, by omega, by omega, by omega, by omega⟩
end
section
/-! the script, carried through the calls; words of the law's own methods; rows that the law needs besides -/
def gScr (A : Nat → Prop) (b Ls : Nat) (xz : Int → Int) (U : State) (H : Heap) : Prop := ∃ xs : Nat → Int32, va_X b Ls xs U H ∧ b < H.size ∧ ¬ A b ∧ ∀ j : Nat, xs j = gI (xz j)
def gSc (X : gT) (b Ls : Nat) (xz : Int → Int) : Prop := gScr (gAA X) b Ls xz (gst X) (gst X).heap
/-- the contract of a method that reads the script -/
def gMetP (l : Launch) (y : MethodName) (cc : ByteArray) (nL : Nat) (ret : Option FieldType) (R : Room) (av : List Value) (D : va_G) (ty : Nat → ClassId) (ad : Int → Nat) (N : Int) (σ : Int → va_E) (b Ls : Nat) (xz : Int → Int) (post : gPost) : Prop :=
  ∀ sz : Nat, Met l y (.code y cc nL ret :: WS) R (va_Pc av (fun U => U.heap.size = sz ∧ gw D ty ad N σ U ∧ gE (gA ad N sz) U U.heap ∧ gScr (gA ad N sz) b Ls xz U U.heap)) (gQc D ty (gA ad N sz) post) R.cells R.slots (gA ad N sz)
theorem gMetP_of {l : Launch} {y : MethodName} {cc : ByteArray} {nL : Nat} {ret : Option FieldType} {R : Room} {av : List Value} {D : va_G} {ty : Nat → ClassId} {ad : Int → Nat} {N : Int} {σ : Int → va_E} {b Ls : Nat} {xz : Int → Int} {post : gPost} (L : List (Option Value)) (hst : l.stackTraces = false)
    (hy : plainFor y = true) (hL : gent av ++ List.replicate (nL - (gent av).length) none = L) (hn : (lg_sl av).length ≤ nL) (hn2 : L.length = nL)
    (body : ∀ X : gT, gln X = l → gDD X = D → gty X = ty → gOk X cc nL y.cls R ret → gXk X → gSc X b Ls xz → V X 0 0 (gQ X post R.cells R.slots) 0 L [] ad N σ) : gMetP l y cc nL ret R av D ty ad N σ b Ls xz post := by
  intro sz
  refine Met_ofF (cc := cc) (maxL := nL) (ret := ret) hy rfl ?_
  intro p e s m args below meth c s₁ B hml hv
  obtain ⟨rfl, hsz, ⟨hP, hK, hD0, hO1, hO3, hNs⟩, hE, hS⟩ := hv
  have hts := atoms_spec (ws := .code y cc nL ret :: WS) B.pre
  subst hsz
  have hb := body (p, l, e, R, s, m, av.toArray, below, meth, c, D, ty, gA ad N s.heap.size) rfl rfl rfl
    ⟨B.exec, B.bytes, hml, findClass_of_methodNamed B.named, fun w hw => hts w (List.mem_cons_of_mem _ hw), B.notSynchronized, B.returns, rfl, hK, fun q h => Or.inr h, hO1, hO3, hNs⟩ ⟨hst, hE⟩ hS
  have hl := lv_entry av (n := nL) hn
  rw [lg_entry_eq]
  generalize (lg_sl av ++ List.replicate (nL - (lg_sl av).length) Slot.unset).toArray = ls at hl ⊢
  refine hb ls s.heap [] ?_ ⟨hP, ⟨hD0.1, fun k q hq => ?_⟩, va_S.rf⟩
  · rw [← hL, gent_args, hL, hn2]; exact hl
  · obtain ⟨h1, h2⟩ := gl_of hq
    exact Or.inl ⟨k, h1, by rw [h2]⟩
section SCR
variable {X : gT} {cc : ByteArray} {nL : Nat} {own : String} {R : Room} {ret : Option FieldType} {kc kn : Nat} {Q : State → Prop} {pc : Nat} {L : List (Option Value)} {st : List Value} {ad : Int → Nat} {N : Int} {σ : Int → va_E} {b Ls : Nat} {xz : Int → Int}
theorem gScr_pre (C : gOk X cc nL own R ret) (hS : gSc X b Ls xz) {H : Heap} {locs : List Loc} (hw : gWd X ad N σ H locs) {U : State} (hU : U.heap = H) (hW : (gst X).WarmedH U.vm) : gScr (gA ad N H.size) b Ls xz U U.heap := by
  obtain ⟨xs, h1, h2, h3, h4⟩ := hS
  rw [hU]
  exact ⟨xs, (h1.kept (hw.2.2.2.1 b h2 h3)).moved hW.alike, Nat.lt_of_lt_of_le h2 hw.2.2.1, fun h => h3 (gA_free C.2.2.2.2.2.2.2.2.2.1 hw b h), h4⟩
theorem gP_blind {av : List Value} {sz : Nat} {D : va_G} {ty : Nat → ClassId} : FrameBlind (va_Pc av (fun U => U.heap.size = sz ∧ gw D ty ad N σ U ∧ gE (gA ad N sz) U U.heap ∧ gScr (gA ad N sz) b Ls xz U U.heap)) := fun a U g mk q => by
  obtain ⟨q0, q1, ⟨qP, qK, qD, qO, qO3, qN⟩, qE, xs, x1, x2, x3, x4⟩ := q
  exact ⟨q0, q1, ⟨qP, va_K.moved (u := U) (U := U.calling g mk a) (Vm.Alike.refl U.vm) qK, qD, qO.moved (U := U.calling g mk a) (Vm.Alike.refl U.vm), qO3.moved (U := U.calling g mk a) (Vm.Alike.refl U.vm), gNs.same (U := U.calling g mk a) rfl qN⟩, gE.same (s := U) (U := U.calling g mk a) rfl qE, xs, x1.moved (U := U.calling g mk a) (Vm.Alike.refl U.vm), x2, x3, x4⟩
variable {idx nY np : Nat} {y : MethodName} {cY : ByteArray} {rY : Option FieldType} {As rest : List Value} {RY : Room} {post : gPost}
theorem r_callP (C : gOk X cc nL own R ret) (hX : gXk X) (hS : gSc X b Ls xz) (w : gCS own idx y cY nY rY np) (hM : gMetP (gln X) y cY nY rY RY As (gDD X) (gty X) ad N σ b Ls xz post) (hd : decode cc pc = .ok (.invokestatic idx, 3)) (hst : st = As.reverse ++ rest) (hn : As.length = np) (hL : L.length = nL) (hW : (rest.map fun v => v.category).sum ≤ 8) (hR : RY.frames + 1 ≤ R.frames ∧ 8 + (nY + 11) + RY.locals ≤ R.locals) (hc : kc + RY.cells ≤ R.cells ∧ kn + RY.slots ≤ R.slots)
    (kk : ∀ (rv : Option Value) (ad' : Int → Nat) (N' : Int) (σ' : Int → va_E), post rv ad' N' σ' → V X (kc + RY.cells) (kn + RY.slots) Q (pc + 3) L (rv.toList ++ rest) ad' N' σ') : V X kc kn Q pc L st ad N σ := fun ls H locs hl hw => by
  have hR' := C.2.2.2.2.2.2.2.1
  have hts := C.2.2.2.2.1
  subst hst
  obtain ⟨w1, w2, w4, w5, w7, w8, w9⟩ := w
  exact g_back C (va_runS (As := As) (rest := rest) ⟨C.1, C.2.1, C.2.2.1, C.2.2.2.1, hts⟩ (hM H.size) ⟨callB_of np hts (g_good w5) rfl rfl rfl (hts _ w4) (hts _ w1) ⟨w7, w8, w9⟩ (by rw [hR']; exact hR), hts _ w2⟩ ⟨gP_blind, fun U hU hW => ⟨rfl, (gX_pre C hX.2 hw hU hW).1, (gX_pre C hX.2 hw hU hW).2.1, (gX_pre C hX.2 hw hU hW).2.2, gScr_pre C hS hw hU hW⟩⟩ rfl hn (hl.1.trans hL) rfl (lv_room hW) hd (by rw [hR']; exact hc)) hl hw kk
theorem r_sld (C : gOk X cc nL own R ret) (hsc : gSc X b Ls xz) (hLs : Ls ≤ 260) (hd : decode cc pc = .ok (.iaload, 1)) {i : Int} (hi : 0 ≤ i ∧ i < Ls)
    (k : V X kc kn Q (pc + 1) L (.int (gI (xz i)) :: st) ad N σ) : V X kc kn Q pc L (.int (gI i) :: .ref b :: st) ad N σ := fun ls H locs hl hw => by
  obtain ⟨xs, h1, h2, h3, h4⟩ := hsc
  refine va_sld C.1 C.2.1 h1 h2 h3 hw.2.2 (gI_in hi (by omega)) hd ?_
  rw [gI_clamp (by omega), h4, Int.toNat_of_nonneg hi.1]
  exact k ls H locs hl hw
theorem r_slen (C : gOk X cc nL own R ret) (hsc : gSc X b Ls xz) (hd : decode cc pc = .ok (.arraylength, 1))
    (k : V X kc kn Q (pc + 1) L (.int (gI (Ls : Int)) :: st) ad N σ) : V X kc kn Q pc L (.ref b :: st) ad N σ := fun ls H locs hl hw => by
  obtain ⟨xs, h1, h2, h3, h4⟩ := hsc
  refine va_slen C.1 C.2.1 h1 h2 h3 hw.2.2 hd ?_
  rw [show Int32.ofNat Ls = gI (Ls : Int) from (Int32.ofInt_eq_ofNat).symm]
  exact k ls H locs hl hw
theorem r_ldc (C : gOk X cc nL own R ret) {ix : Nat} {v : Int32} {z : Int} (hd : decode cc pc = .ok (.ldc ix, 2)) (hw0 : Cond.constant own ix v ∈ WS) (hz : v = gI z) (k : V X kc kn Q (pc + 2) L (.int (gI z) :: st) ad N σ) : V X kc kn Q pc L st ad N σ := fun ls H locs hl hw => lv_ldc C.1 C.2.1 C.2.2.2.1 (C.2.2.2.2.1 _ hw0) hd (by rw [hz]; exact k ls H locs hl hw)
theorem r_ishr (C : gOk X cc nL own R ret) {x y : Int32} (hd : decode cc pc = .ok (.ishr, 1)) (k : V X kc kn Q (pc + 1) L (.int (gI (x >>> (y &&& 31)).toInt) :: st) ad N σ) : V X kc kn Q pc L (.int y :: .int x :: st) ad N σ := fun ls H locs hl hw => lv_ishr C.1 C.2.1 hd (by have h := k ls H locs hl hw; rw [gI_of] at h; exact h)
theorem r_icmp_neD {a b off : Int} {tgt : Nat} (C : gOk X cc nL own R ret) (hd : decode cc pc = .ok (.if_icmp .ne off, 3)) (ht : (pc : Int) + off = (tgt : Int)) (h : a - b < 4294967296 ∧ b - a < 4294967296) (kt : a ≠ b → V X kc kn Q tgt L st ad N σ) (kf : a = b → V X kc kn Q (pc + 3) L st ad N σ) : V X kc kn Q pc L (.int (gI b) :: .int (gI a) :: st) ad N σ := fun ls H locs hl hw =>
  lv_icmp_ne C.1 C.2.1 hd ht (fun h2 => kt (fun e => h2 ((gI_eqd h).mpr e)) ls H locs hl hw) (fun h2 => kf ((gI_eqd h).mp h2) ls H locs hl hw)
theorem r_dcmpT (C : gOk X cc nL own R ret) {a b : UInt64} {op : CmpOp} (hd : decode cc pc = .ok (.dcmp op, 1)) (k : V X kc kn Q (pc + 1) L (.int (gI (cmpT a b op)) :: st) ad N σ) : V X kc kn Q pc L (.double b :: .double a :: st) ad N σ := r_dcmp C hd (by rw [cmpT_I]; exact k)
end SCR
theorem kcL_7 : Cond.constant RL 7 2147483647 ∈ WS := gws 391 (by decide +kernel) (by decide +kernel)
theorem kcL_8 : Cond.constant RL 8 40503 ∈ WS := gws 395 (by decide +kernel) (by decide +kernel)
theorem klL_15 : Cond.classLink RL 15 eS ∈ WS := gws 466 (by decide +kernel) (by decide +kernel)
theorem cwL_68 : gCW RL 68 yL_strike cL_strike 3 (some .int) [(0, 5, 6, 15)] 2 := ⟨gws 463 (by decide +kernel) (by decide +kernel), gws 464 (by decide +kernel) (by decide +kernel), kiRL, gws 465 (by decide +kernel) (by decide +kernel), by decide +kernel, by decide +kernel, by decide +kernel⟩
theorem cwL_71 : gCW RL 71 yL_light cL_light 4 (some .int) [(0, 6, 7, 15)] 3 := ⟨gws 495 (by decide +kernel) (by decide +kernel), gws 496 (by decide +kernel) (by decide +kernel), kiRL, gws 497 (by decide +kernel) (by decide +kernel), by decide +kernel, by decide +kernel, by decide +kernel⟩
theorem cwL_74 : gCW RL 74 yL_fresh cL_fresh 3 (some .int) [(0, 5, 6, 15)] 2 := ⟨gws 507 (by decide +kernel) (by decide +kernel), gws 508 (by decide +kernel) (by decide +kernel), kiRL, gws 509 (by decide +kernel) (by decide +kernel), by decide +kernel, by decide +kernel, by decide +kernel⟩
theorem cwL_86 : gCW RL 86 yL_keep cL_keep 4 (some .int) [(0, 6, 7, 15)] 3 := ⟨gws 546 (by decide +kernel) (by decide +kernel), gws 547 (by decide +kernel) (by decide +kernel), kiRL, gws 548 (by decide +kernel) (by decide +kernel), by decide +kernel, by decide +kernel, by decide +kernel⟩
theorem cwL_91 : gCW RL 91 yL_undo cL_undo 2 (some .int) [(0, 4, 5, 15)] 1 := ⟨gws 575 (by decide +kernel) (by decide +kernel), gws 576 (by decide +kernel) (by decide +kernel), kiRL, gws 577 (by decide +kernel) (by decide +kernel), by decide +kernel, by decide +kernel, by decide +kernel⟩
/-! low -/
def low31 (v : Int) : Int := (gI v &&& gI 2147483647).toInt
theorem low31_0 (v : Int) : 0 ≤ low31 v ∧ low31 v < 2147483648 := by
  refine ⟨?_, (gI_rng _).2⟩
  have h : (gI v &&& gI 2147483647).toBitVec.msb = false := by
    rw [Int32.toBitVec_and, BitVec.msb_and]
    have e : (gI 2147483647).toBitVec.msb = false := by decide +kernel
    rw [e, Bool.and_false]
  have h2 : 0 ≤ (gI v &&& gI 2147483647).toBitVec.toInt := by
    rw [BitVec.msb_eq_toInt] at h
    exact Int.not_lt.mp (of_decide_eq_false h)
  exact h2
end
section
/-! the law's small methods -/
set_option maxRecDepth 100000 in
set_option maxHeartbeats 4000000 in
theorem c_L_low {l : Launch} {D : va_G} {ty : Nat → ClassId} {ad : Int → Nat} {N : Int} {σ : Int → va_E} {v n : Int} (hn : 0 < n ∧ n < 1000) : gM0 l yL_low cL_low 2 (some .int) 0 0 [.int (gI v), .int (gI n)] D ty ad N σ (some (.int (gI (low31 v % n)))) σ := by
  refine gMet_of [some (.int (gI v)), some (.int (gI n))] (by decide +kernel) rfl (Nat.le_of_ble_eq_true rfl) rfl ?_
  intro X hl hD hty C hini
  subst hl hD hty
  refine r_iload_n C dL_low_0 rfl rfl ?_
  refine r_ldc (z := 2147483647) C dL_low_1 kcL_7 (by decide +kernel) ?_
  refine r_iand C dL_low_3 ?_
  rw [show gI v &&& gI 2147483647 = gI (low31 v) from (gI_of _).symm]
  refine r_iload_n C dL_low_4 rfl rfl ?_
  refine r_irem C dL_low_5 (low31_0 v) (by omega) ?_
  exact r_iretD C dL_low_6 rfl rfl
/-- a cell of the script -/
def cellF (Ls : Nat) (xz : Int → Int) (k : Int) : Int := if k < (Ls : Int) then xz k else 40503 * k + 977
set_option maxRecDepth 100000 in
set_option maxHeartbeats 4000000 in
theorem c_L_cell {l : Launch} {D : va_G} {ty : Nat → ClassId} {ad : Int → Nat} {N : Int} {σ : Int → va_E} {b Ls : Nat} {xz : Int → Int} {k : Int} (hst : l.stackTraces = false) (hLs : Ls ≤ 260) (hk : 0 ≤ k ∧ k ≤ 1000) : gMetP l yL_cell cL_cell 2 (some .int) { frames := 0, cells := 0, slots := 0, locals := 0 } [.ref b, .int (gI k)] D ty ad N σ b Ls xz (gD (some (.int (gI (cellF Ls xz k)))) ad N σ) := by
  refine gMetP_of [some (.ref b), some (.int (gI k))] hst (by decide +kernel) rfl (Nat.le_of_ble_eq_true rfl) rfl ?_
  intro X hl hD hty C hX hS
  subst hl hD hty
  refine r_iload_n C dL_cell_0 rfl rfl ?_
  refine r_aload_n C dL_cell_1 rfl rfl ?_
  refine r_slen C hS dL_cell_2 ?_
  refine r_icmp_ge (tgt := 12) C dL_cell_3 (by decide) (by omega) (by omega) (fun h3 => ?_) (fun h3 => ?_)
  · refine r_ldc (z := 40503) C dL_cell_12 kcL_8 (by decide +kernel) ?_
    refine r_iload_n C dL_cell_14 rfl rfl ?_
    refine r_imul C dL_cell_15 ?_
    refine r_sipush C dL_cell_16 (by decide) ?_
    refine r_iadd C dL_cell_19 ?_
    exact r_iretD C dL_cell_20 (by unfold cellF; rw [if_neg (by omega)]) rfl
  · refine r_aload_n C dL_cell_6 rfl rfl ?_
    refine r_iload_n C dL_cell_7 rfl rfl ?_
    refine r_sld C hS hLs dL_cell_8 (by omega) ?_
    refine r_goto (tgt := 20) C dL_cell_9 (by decide) ?_
    exact r_iretD C dL_cell_20 (by unfold cellF; rw [if_pos (by omega)]) rfl
set_option maxRecDepth 100000 in
set_option maxHeartbeats 4000000 in
theorem w_L_strike {l : Launch} {D : va_G} {ty : Nat → ClassId} {ad : Int → Nat} {N : Int} {σ : Int → va_E} {x n k len : Int} {u : Int → Int → Int} {s tx : Int → Int} {r : Int} (hst : l.stackTraces = false) (hx : 0 ≤ x ∧ x + 145 ≤ N) (ho : okX s n u len tx) (hr : 0 ≤ r ∧ r < 6) (hm : mayS s r) : gMetW l yL_strike cL_strike 3 (some .int) [(0, 5, 6, 15)] { frames := 8, cells := 1, slots := 6, locals := 250 } [.ref (ad x), .int (gI r)] D ty ad N (xput ad ty σ x s n k u len tx) (gD (some (.int (gI (rm s r 0)))) ad N (xput ad ty σ x (light1 s r) (pshN n) (pshK n k) (pshU n k u s) (len) (tx))) := by
  refine gMetW_of [some (.ref (ad x)), some (.int (gI r)), none] hst (by decide +kernel) rfl (Nat.le_of_ble_eq_true rfl) rfl ?_
  intro X hl hD hty C hX hT
  subst hl hD hty
  refine r_aload_n C dL_strike_0 rfl rfl ?_
  refine r_iload_n C dL_strike_1 rfl rfl ?_
  refine r_cV C cwL_9 (c_X4_strike (by omega) ho hr hm) dL_strike_2 rfl (by omega) xput_0 rfl rfl rfl (Nat.le_of_ble_eq_true rfl) ⟨Nat.le_of_ble_eq_true rfl, Nat.le_of_ble_eq_true rfl⟩ ⟨Nat.le_of_ble_eq_true rfl, Nat.le_of_ble_eq_true rfl⟩ ?_
  exact r_iret C dL_strike_5 ⟨rfl, rfl, rfl, rfl⟩ (Nat.le_of_ble_eq_true rfl) (Nat.le_of_ble_eq_true rfl)
set_option maxRecDepth 100000 in
set_option maxHeartbeats 4000000 in
theorem w_L_strike_f {l : Launch} {D : va_G} {ty : Nat → ClassId} {ad : Int → Nat} {N : Int} {σ : Int → va_E} {x n k len : Int} {u : Int → Int → Int} {s tx : Int → Int} {r : Int} (hst : l.stackTraces = false) (hx : 0 ≤ x ∧ x + 145 ≤ N) (ho : okX s n u len tx) (hr : 0 ≤ r ∧ r < 6) (hm : ¬ mayS s r) : gMetW l yL_strike cL_strike 3 (some .int) [(0, 5, 6, 15)] { frames := 8, cells := 1, slots := 6, locals := 250 } [.ref (ad x), .int (gI r)] D ty ad N (xput ad ty σ x s n k u len tx) (gD (some (.int (gI (-3)))) ad N (xput ad ty σ x s n k u len tx)) := by
  refine gMetW_of [some (.ref (ad x)), some (.int (gI r)), none] hst (by decide +kernel) rfl (Nat.le_of_ble_eq_true rfl) rfl ?_
  intro X hl hD hty C hX hT
  subst hl hD hty
  refine r_aload_n C dL_strike_0 rfl rfl ?_
  refine r_iload_n C dL_strike_1 rfl rfl ?_
  refine r_catV C hX hT cwL_9 (t_X4_strike_f2 hX.1 (by omega) ho hr hm) dL_strike_2 rfl (by omega) xput_0 rfl rfl (Nat.le_of_ble_eq_true rfl) ⟨Nat.le_of_ble_eq_true rfl, Nat.le_of_ble_eq_true rfl⟩ ⟨Nat.le_of_ble_eq_true rfl, Nat.le_of_ble_eq_true rfl⟩ [] ⟨0, 5, 6, 15⟩ [] rfl (fun _ h => absurd h List.not_mem_nil) rfl (by decide) klL_15 hX.2.2.1.2.2 (fun q9 => ?_)
  show V X 1 6 _ 6 _ _ _ _ _
  refine r_astore_n C dL_strike_6 rfl (Nat.le_of_ble_eq_true rfl) rfl ?_
  dsimp only [List.set]
  refine r_bipush C dL_strike_7 (by decide) ?_
  exact r_iret C dL_strike_9 ⟨rfl, rfl, rfl, rfl⟩ (Nat.le_of_ble_eq_true rfl) (Nat.le_of_ble_eq_true rfl)
set_option maxRecDepth 100000 in
set_option maxHeartbeats 4000000 in
theorem w_L_light {l : Launch} {D : va_G} {ty : Nat → ClassId} {ad : Int → Nat} {N : Int} {σ : Int → va_E} {x n k len : Int} {u : Int → Int → Int} {s tx : Int → Int} {r o : Int} (hst : l.stackTraces = false) (hx : 0 ≤ x ∧ x + 145 ≤ N) (ho : okX s n u len tx) (hr : 0 ≤ r ∧ r < 6) (ho2 : 0 ≤ o ∧ o < 6) (hm : mayL s r o) : gMetW l yL_light cL_light 4 (some .int) [(0, 6, 7, 15)] { frames := 8, cells := 1, slots := 6, locals := 250 } [.ref (ad x), .int (gI r), .int (gI o)] D ty ad N (xput ad ty σ x s n k u len tx) (gD (some (.int (gI (rm s r 0)))) ad N (xput ad ty σ x (light1 s r) (pshN n) (pshK n k) (pshU n k u s) (len) (tx))) := by
  refine gMetW_of [some (.ref (ad x)), some (.int (gI r)), some (.int (gI o)), none] hst (by decide +kernel) rfl (Nat.le_of_ble_eq_true rfl) rfl ?_
  intro X hl hD hty C hX hT
  subst hl hD hty
  refine r_aload_n C dL_light_0 rfl rfl ?_
  refine r_iload_n C dL_light_1 rfl rfl ?_
  refine r_iload_n C dL_light_2 rfl rfl ?_
  refine r_cV C cwL_17 (c_X4_light (by omega) ho hr ho2 hm) dL_light_3 rfl (by omega) xput_0 rfl rfl rfl (Nat.le_of_ble_eq_true rfl) ⟨Nat.le_of_ble_eq_true rfl, Nat.le_of_ble_eq_true rfl⟩ ⟨Nat.le_of_ble_eq_true rfl, Nat.le_of_ble_eq_true rfl⟩ ?_
  exact r_iret C dL_light_6 ⟨rfl, rfl, rfl, rfl⟩ (Nat.le_of_ble_eq_true rfl) (Nat.le_of_ble_eq_true rfl)
set_option maxRecDepth 100000 in
set_option maxHeartbeats 4000000 in
theorem w_L_light_f {l : Launch} {D : va_G} {ty : Nat → ClassId} {ad : Int → Nat} {N : Int} {σ : Int → va_E} {x n k len : Int} {u : Int → Int → Int} {s tx : Int → Int} {r o : Int} (hst : l.stackTraces = false) (hx : 0 ≤ x ∧ x + 145 ≤ N) (ho : okX s n u len tx) (hr : 0 ≤ r ∧ r < 6) (ho2 : 0 ≤ o ∧ o < 6) (hm : ¬ mayL s r o) : gMetW l yL_light cL_light 4 (some .int) [(0, 6, 7, 15)] { frames := 8, cells := 1, slots := 6, locals := 250 } [.ref (ad x), .int (gI r), .int (gI o)] D ty ad N (xput ad ty σ x s n k u len tx) (gD (some (.int (gI (-3)))) ad N (xput ad ty σ x s n k u len tx)) := by
  refine gMetW_of [some (.ref (ad x)), some (.int (gI r)), some (.int (gI o)), none] hst (by decide +kernel) rfl (Nat.le_of_ble_eq_true rfl) rfl ?_
  intro X hl hD hty C hX hT
  subst hl hD hty
  refine r_aload_n C dL_light_0 rfl rfl ?_
  refine r_iload_n C dL_light_1 rfl rfl ?_
  refine r_iload_n C dL_light_2 rfl rfl ?_
  refine r_catV C hX hT cwL_17 (t_X4_light_f2 hX.1 (by omega) ho hr ho2 hm) dL_light_3 rfl (by omega) xput_0 rfl rfl (Nat.le_of_ble_eq_true rfl) ⟨Nat.le_of_ble_eq_true rfl, Nat.le_of_ble_eq_true rfl⟩ ⟨Nat.le_of_ble_eq_true rfl, Nat.le_of_ble_eq_true rfl⟩ [] ⟨0, 6, 7, 15⟩ [] rfl (fun _ h => absurd h List.not_mem_nil) rfl (by decide) klL_15 hX.2.2.1.2.2 (fun q9 => ?_)
  show V X 1 6 _ 7 _ _ _ _ _
  refine r_astore_n C dL_light_7 rfl (Nat.le_of_ble_eq_true rfl) rfl ?_
  dsimp only [List.set]
  refine r_bipush C dL_light_8 (by decide) ?_
  exact r_iret C dL_light_10 ⟨rfl, rfl, rfl, rfl⟩ (Nat.le_of_ble_eq_true rfl) (Nat.le_of_ble_eq_true rfl)
set_option maxRecDepth 100000 in
set_option maxHeartbeats 4000000 in
theorem w_L_fresh {l : Launch} {D : va_G} {ty : Nat → ClassId} {ad : Int → Nat} {N : Int} {σ : Int → va_E} {x n k len : Int} {u : Int → Int → Int} {s tx : Int → Int} {r : Int} (hst : l.stackTraces = false) (hx : 0 ≤ x ∧ x + 145 ≤ N) (ho : okX s n u len tx) (hr : 0 ≤ r ∧ r < 6) (hm : 0 < s 1) : gMetW l yL_fresh cL_fresh 3 (some .int) [(0, 5, 6, 15)] { frames := 8, cells := 1, slots := 6, locals := 250 } [.ref (ad x), .int (gI r)] D ty ad N (xput ad ty σ x s n k u len tx) (gD (some (.int (gI (s 1 - 1)))) ad N (xput ad ty σ x (renew s r) (pshN n) (pshK n k) (pshU n k u s) (len) (tx))) := by
  refine gMetW_of [some (.ref (ad x)), some (.int (gI r)), none] hst (by decide +kernel) rfl (Nat.le_of_ble_eq_true rfl) rfl ?_
  intro X hl hD hty C hX hT
  subst hl hD hty
  refine r_aload_n C dL_fresh_0 rfl rfl ?_
  refine r_iload_n C dL_fresh_1 rfl rfl ?_
  refine r_cV C cwL_21 (c_X4_fresh (by omega) ho hr hm) dL_fresh_2 rfl (by omega) xput_0 rfl rfl rfl (Nat.le_of_ble_eq_true rfl) ⟨Nat.le_of_ble_eq_true rfl, Nat.le_of_ble_eq_true rfl⟩ ⟨Nat.le_of_ble_eq_true rfl, Nat.le_of_ble_eq_true rfl⟩ ?_
  exact r_iret C dL_fresh_5 ⟨rfl, rfl, rfl, rfl⟩ (Nat.le_of_ble_eq_true rfl) (Nat.le_of_ble_eq_true rfl)
set_option maxRecDepth 100000 in
set_option maxHeartbeats 4000000 in
theorem w_L_fresh_f {l : Launch} {D : va_G} {ty : Nat → ClassId} {ad : Int → Nat} {N : Int} {σ : Int → va_E} {x n k len : Int} {u : Int → Int → Int} {s tx : Int → Int} {r : Int} (hst : l.stackTraces = false) (hx : 0 ≤ x ∧ x + 145 ≤ N) (ho : okX s n u len tx) (hr : 0 ≤ r ∧ r < 6) (hm : ¬ 0 < s 1) : gMetW l yL_fresh cL_fresh 3 (some .int) [(0, 5, 6, 15)] { frames := 8, cells := 1, slots := 6, locals := 250 } [.ref (ad x), .int (gI r)] D ty ad N (xput ad ty σ x s n k u len tx) (gD (some (.int (gI (-3)))) ad N (xput ad ty σ x s n k u len tx)) := by
  refine gMetW_of [some (.ref (ad x)), some (.int (gI r)), none] hst (by decide +kernel) rfl (Nat.le_of_ble_eq_true rfl) rfl ?_
  intro X hl hD hty C hX hT
  subst hl hD hty
  refine r_aload_n C dL_fresh_0 rfl rfl ?_
  refine r_iload_n C dL_fresh_1 rfl rfl ?_
  refine r_catV C hX hT cwL_21 (t_X4_fresh_f2 hX.1 (by omega) ho hr hm) dL_fresh_2 rfl (by omega) xput_0 rfl rfl (Nat.le_of_ble_eq_true rfl) ⟨Nat.le_of_ble_eq_true rfl, Nat.le_of_ble_eq_true rfl⟩ ⟨Nat.le_of_ble_eq_true rfl, Nat.le_of_ble_eq_true rfl⟩ [] ⟨0, 5, 6, 15⟩ [] rfl (fun _ h => absurd h List.not_mem_nil) rfl (by decide) klL_15 hX.2.2.1.2.2 (fun q9 => ?_)
  show V X 1 6 _ 6 _ _ _ _ _
  refine r_astore_n C dL_fresh_6 rfl (Nat.le_of_ble_eq_true rfl) rfl ?_
  dsimp only [List.set]
  refine r_bipush C dL_fresh_7 (by decide) ?_
  exact r_iret C dL_fresh_9 ⟨rfl, rfl, rfl, rfl⟩ (Nat.le_of_ble_eq_true rfl) (Nat.le_of_ble_eq_true rfl)
set_option maxRecDepth 100000 in
set_option maxHeartbeats 4000000 in
theorem w_L_keep {l : Launch} {D : va_G} {ty : Nat → ClassId} {ad : Int → Nat} {N : Int} {σ : Int → va_E} {x n k len : Int} {u : Int → Int → Int} {s tx : Int → Int} {r key : Int} (hst : l.stackTraces = false) (hx : 0 ≤ x ∧ x + 145 ≤ N) (ho : okX s n u len tx) (hr : 0 ≤ r ∧ r < 6) (hk : 0 ≤ key ∧ key < 100) (hm : mayK s r key) : gMetW l yL_keep cL_keep 4 (some .int) [(0, 6, 7, 15)] { frames := 8, cells := 1, slots := 6, locals := 250 } [.ref (ad x), .int (gI r), .int (gI key)] D ty ad N (xput ad ty σ x s n k u len tx) (gD (some (.int (gI (rm s r 6 + 1)))) ad N (xput ad ty σ x (keepS s r key) (pshN n) (pshK n k) (pshU n k u s) (len) (tx))) := by
  refine gMetW_of [some (.ref (ad x)), some (.int (gI r)), some (.int (gI key)), none] hst (by decide +kernel) rfl (Nat.le_of_ble_eq_true rfl) rfl ?_
  intro X hl hD hty C hX hT
  subst hl hD hty
  refine r_aload_n C dL_keep_0 rfl rfl ?_
  refine r_iload_n C dL_keep_1 rfl rfl ?_
  refine r_iload_n C dL_keep_2 rfl rfl ?_
  refine r_cV C cwL_24 (c_X4_keep (by omega) ho hr hk hm) dL_keep_3 rfl (by omega) xput_0 rfl rfl rfl (Nat.le_of_ble_eq_true rfl) ⟨Nat.le_of_ble_eq_true rfl, Nat.le_of_ble_eq_true rfl⟩ ⟨Nat.le_of_ble_eq_true rfl, Nat.le_of_ble_eq_true rfl⟩ ?_
  exact r_iret C dL_keep_6 ⟨rfl, rfl, rfl, rfl⟩ (Nat.le_of_ble_eq_true rfl) (Nat.le_of_ble_eq_true rfl)
set_option maxRecDepth 100000 in
set_option maxHeartbeats 4000000 in
theorem w_L_keep_f {l : Launch} {D : va_G} {ty : Nat → ClassId} {ad : Int → Nat} {N : Int} {σ : Int → va_E} {x n k len : Int} {u : Int → Int → Int} {s tx : Int → Int} {r key : Int} (hst : l.stackTraces = false) (hx : 0 ≤ x ∧ x + 145 ≤ N) (ho : okX s n u len tx) (hr : 0 ≤ r ∧ r < 6) (hk : 0 ≤ key ∧ key < 100) (hm : ¬ mayK s r key) : gMetW l yL_keep cL_keep 4 (some .int) [(0, 6, 7, 15)] { frames := 8, cells := 1, slots := 6, locals := 250 } [.ref (ad x), .int (gI r), .int (gI key)] D ty ad N (xput ad ty σ x s n k u len tx) (gD (some (.int (gI (-3)))) ad N (xput ad ty σ x s n k u len tx)) := by
  refine gMetW_of [some (.ref (ad x)), some (.int (gI r)), some (.int (gI key)), none] hst (by decide +kernel) rfl (Nat.le_of_ble_eq_true rfl) rfl ?_
  intro X hl hD hty C hX hT
  subst hl hD hty
  refine r_aload_n C dL_keep_0 rfl rfl ?_
  refine r_iload_n C dL_keep_1 rfl rfl ?_
  refine r_iload_n C dL_keep_2 rfl rfl ?_
  refine r_catV C hX hT cwL_24 (t_X4_keep_f3 hX.1 (by omega) ho hr hk hm) dL_keep_3 rfl (by omega) xput_0 rfl rfl (Nat.le_of_ble_eq_true rfl) ⟨Nat.le_of_ble_eq_true rfl, Nat.le_of_ble_eq_true rfl⟩ ⟨Nat.le_of_ble_eq_true rfl, Nat.le_of_ble_eq_true rfl⟩ [] ⟨0, 6, 7, 15⟩ [] rfl (fun _ h => absurd h List.not_mem_nil) rfl (by decide) klL_15 hX.2.2.1.2.2 (fun q9 => ?_)
  show V X 1 6 _ 7 _ _ _ _ _
  refine r_astore_n C dL_keep_7 rfl (Nat.le_of_ble_eq_true rfl) rfl ?_
  dsimp only [List.set]
  refine r_bipush C dL_keep_8 (by decide) ?_
  exact r_iret C dL_keep_10 ⟨rfl, rfl, rfl, rfl⟩ (Nat.le_of_ble_eq_true rfl) (Nat.le_of_ble_eq_true rfl)
set_option maxRecDepth 100000 in
set_option maxHeartbeats 4000000 in
theorem w_L_undo {l : Launch} {D : va_G} {ty : Nat → ClassId} {ad : Int → Nat} {N : Int} {σ : Int → va_E} {x n k len : Int} {u : Int → Int → Int} {s tx : Int → Int}  (hst : l.stackTraces = false) (hx : 0 ≤ x ∧ x + 145 ≤ N) (ho : okX s n u len tx)  (hn1 : 1 ≤ n) : gMetW l yL_undo cL_undo 2 (some .int) [(0, 4, 5, 15)] { frames := 8, cells := 1, slots := 6, locals := 250 } [.ref (ad x)] D ty ad N (xput ad ty σ x s n k u len tx) (gD (some (.int (gI (n - 1)))) ad N (xput ad ty σ x (u ((n - 1 + k) % 6)) (n - 1) k u len tx)) := by
  refine gMetW_of [some (.ref (ad x)), none] hst (by decide +kernel) rfl (Nat.le_of_ble_eq_true rfl) rfl ?_
  intro X hl hD hty C hX hT
  subst hl hD hty
  refine r_aload_n C dL_undo_0 rfl rfl ?_
  refine r_cV C cwL_27 (c_X4_undo (by omega) ho hn1) dL_undo_1 rfl (by omega) xput_0 rfl rfl rfl (Nat.le_of_ble_eq_true rfl) ⟨Nat.le_of_ble_eq_true rfl, Nat.le_of_ble_eq_true rfl⟩ ⟨Nat.le_of_ble_eq_true rfl, Nat.le_of_ble_eq_true rfl⟩ ?_
  exact r_iret C dL_undo_4 ⟨rfl, rfl, rfl, rfl⟩ (Nat.le_of_ble_eq_true rfl) (Nat.le_of_ble_eq_true rfl)
set_option maxRecDepth 100000 in
set_option maxHeartbeats 4000000 in
theorem w_L_undo_f {l : Launch} {D : va_G} {ty : Nat → ClassId} {ad : Int → Nat} {N : Int} {σ : Int → va_E} {x n k len : Int} {u : Int → Int → Int} {s tx : Int → Int}  (hst : l.stackTraces = false) (hx : 0 ≤ x ∧ x + 145 ≤ N) (ho : okX s n u len tx)  (hn0 : n = 0) : gMetW l yL_undo cL_undo 2 (some .int) [(0, 4, 5, 15)] { frames := 8, cells := 1, slots := 6, locals := 250 } [.ref (ad x)] D ty ad N (xput ad ty σ x s n k u len tx) (gD (some (.int (gI (-3)))) ad N (xput ad ty σ x s n k u len tx)) := by
  refine gMetW_of [some (.ref (ad x)), none] hst (by decide +kernel) rfl (Nat.le_of_ble_eq_true rfl) rfl ?_
  intro X hl hD hty C hX hT
  subst hl hD hty
  refine r_aload_n C dL_undo_0 rfl rfl ?_
  refine r_catV C hX hT cwL_27 (t_X4_undo_f1 hX.1 (by omega) ho hn0) dL_undo_1 rfl (by omega) xput_0 rfl rfl (Nat.le_of_ble_eq_true rfl) ⟨Nat.le_of_ble_eq_true rfl, Nat.le_of_ble_eq_true rfl⟩ ⟨Nat.le_of_ble_eq_true rfl, Nat.le_of_ble_eq_true rfl⟩ [] ⟨0, 4, 5, 15⟩ [] rfl (fun _ h => absurd h List.not_mem_nil) rfl (by decide) klL_15 hX.2.2.1.2.2 (fun q9 => ?_)
  show V X 1 6 _ 5 _ _ _ _ _
  refine r_astore_n C dL_undo_5 rfl (Nat.le_of_ble_eq_true rfl) rfl ?_
  dsimp only [List.set]
  refine r_bipush C dL_undo_6 (by decide) ?_
  exact r_iret C dL_undo_8 ⟨rfl, rfl, rfl, rfl⟩ (Nat.le_of_ble_eq_true rfl) (Nat.le_of_ble_eq_true rfl)
section TOLD
variable {l : Launch} {D : va_G} {ty : Nat → ClassId} {ad : Int → Nat} {N : Int} {σ : Int → va_E} {x n k len : Int} {u : Int → Int → Int} {s tx : Int → Int}
theorem q_count {w z : Int} (hx : 0 ≤ x ∧ x + 145 ≤ N) (ho : okX s n u len tx) (hw0 : 0 ≤ w ∧ w < 12) (hz : cntX s n w = z) : gM0 l yX4_count cX4_count 2 (some .int) 7 221 [.ref (ad x), .int (gI w)] D ty ad N (xput ad ty σ x s n k u len tx) (some (.int (gI z))) (xput ad ty σ x s n k u len tx) := by
  rw [← hz]; exact c_X4_count hx ho hw0
theorem q_room {r w z : Int} (hx : 0 ≤ x ∧ x + 145 ≤ N) (ho : okX s n u len tx) (hr : 0 ≤ r ∧ r < 6) (hw : 0 ≤ w ∧ w < 8) (hz : numR (rm s r) w = z) : gM0 l yX4_room cX4_room 3 (some .int) 7 221 [.ref (ad x), .int (gI r), .int (gI w)] D ty ad N (xput ad ty σ x s n k u len tx) (some (.int (gI z))) (xput ad ty σ x s n k u len tx) := by
  rw [← hz]; exact c_X4_room hx ho hr hw
theorem q_thing {key w z : Int} (hx : 0 ≤ x ∧ x + 145 ≤ N) (ho : okX s n u len tx) (hk : 0 ≤ key ∧ key < 100) (hw : 0 ≤ w ∧ w < 3) (hz : thn s key w = z) : gM0 l yX4_thing cX4_thing 3 (some .int) 7 221 [.ref (ad x), .int (gI key), .int (gI w)] D ty ad N (xput ad ty σ x s n k u len tx) (some (.int (gI z))) (xput ad ty σ x s n k u len tx) := by
  rw [← hz]; exact c_X4_thing hx ho hk hw
end TOLD
end
section
/-! THE CLAIM OUT OF ONE WALK OF THE LAW'S BODY. Your part is whole_start (and what it stands on); all else here is the same for every law, but numbers. -/
def R_law : String := "CandleRoomsLaw"
def lw_P (b : Addr) (xs : List Int32) (args : Array Value) (s : State) : Prop := args = #[.ref b] ∧ s.IntsAt b xs ∧ xs.length ≤ 260 ∧ (Jvm.Cond.and given_1 narrow_1).before args s = true
/-- what a walk over the start with the record d0 says of its end, said of the start itself -/
theorem lw_closed {s t : State} {o : Outcome} {d0 : Drawn} {L : List Loc} {k n : Nat} (hd0 : s.drawn.sameBut d0 lw_cs) (hv : ∃ v, o = .returned v) (hW : (s.setDrawn d0).WarmedH t.vm) (hs : (s.setDrawn d0).sameButNew ({ t with vm := s.vm } : State) L k n) : State.butDraws s t lw_cs (fun t1 => Framed s o t1 L k n) := by
  have h2 : t.drawn = d0 := congrArg State.drawn hs.1
  refine ⟨⟨hv, hW, State.sameButNew.setDrawn hs s.drawn⟩, ?_, by decide⟩
  rw [h2]
  exact hd0
def lw_Q (_ : Array Value) (s : State) (o : Outcome) (t : State) : Prop := o = .returned (some (.int 1)) ∧ State.butDraws s t lw_cs (fun t1 => Framed s o t1 [] 704810 6986752)
def lw_Z (below : List Frame) (a : Array Value) (s : State) : State → Prop := fun t => ∃ o, t.status = .running ∧ Ended t below o ∧ lw_Q a s o t
/-- the law's own end, with 1 on the stack, nothing written that was there before, its room as the claim has it; d0: the record of draws at this point (at the entry s.drawn: begin with 'refine W.base ?_' and 'have hd0 := Drawn.sameBut.refl s.drawn lw_cs') -/
theorem lw_ret {p : Program} {l : Launch} {e : Env} {s : State} {m : MethodId} {below : List Frame} {meth : Method} {c : Code} {b : Nat} {d0 : Drawn} (hd0 : s.drawn.sameBut d0 lw_cs) (hx : p.tables.exec = Jvm.exec) (hb : c.code = code) (hr : meth.sig.returnType = ret) (hlocks : meth.locks = false) {pc : Nat} {H : Heap} {ls : Array Slot} (hdg : decode code pc = .ok (.ireturn, 1)) : W p l e room_1 (s.setDrawn d0) m #[Value.ref b] below meth c H [] 704810 6986752 (lw_Z below #[Value.ref b] s) (F0 m pc ls [.int 1]) := by
  intro T hT X
  obtain ⟨fs, hret, hrun, hended, hW, hframe⟩ := X.leave (v := some (.int 1)) (hlocks := hlocks) (fun h => by rw [hr] at h; cases h)
  have hmeth' : T.vm.method? m = some meth := X.method'
  refine ⟨T.setFrames fs, ?_, .returned (some (.int 1)), hrun, hended, rfl, lw_closed hd0 ⟨_, rfl⟩ hW hframe⟩
  jvm_step X.here [X.here.top, hx, hb, hdg, hmeth', hr, ret, narrow_b1]
  (try refine ⟨rfl, ?_⟩); (try refine ⟨rfl, ?_⟩)
  first | (intro acts; rw [hret _ acts rfl rfl rfl]) | rw [hret _ _ rfl rfl rfl]
  exact Steps.refl _
/-- what holds at the law's entry: the machine, the code, the tables' words (any of lw_tbl by 'hts w (by decide +kernel)'), the script of L ints xs at the cell b, what the Statement gives of the start (any of its parts by flat_of_before) -/
def lw_At (p : Program) (s : State) (m : MethodId) (meth : Method) (c : Code) (b L : Nat) (xs : Nat → Int32) : Prop :=
  p.tables.exec = Jvm.exec ∧ c.code = code ∧ meth.sig.returnType = ret ∧ c.maxLocals = 19 ∧ s.vm.findClass R_law = some m.cls ∧ (∀ w ∈ lw_tbl, w.before #[Value.ref b] s = true) ∧ va_X b L xs s s.heap ∧ b < s.heap.size ∧ meth.locks = false ∧ (Jvm.Cond.and given_1 narrow_1).before #[Value.ref b] s = true
theorem gI_1 : gI 1 = 1 := by decide +kernel
theorem dput_ad {ad ad' : Int → Nat} {ty : Nat → ClassId} {σ : Int → va_E} {k len j : Int} {tx : Int → Int} (h : ad (k + 1) = ad' (k + 1)) : dput ad ty σ k len tx j = dput ad' ty σ k len tx j := by
  unfold dput; rw [h]
theorem xput_ad {ad ad' : Int → Nat} {ty : Nat → ClassId} {σ : Int → va_E} {x n k len j : Int} {u : Int → Int → Int} {s tx : Int → Int} (h : ∀ i : Int, x ≤ i → i < x + 145 → ad i = ad' i) : xput ad ty σ x s n k u len tx j = xput ad' ty σ x s n k u len tx j := by
  unfold xput
  split
  · rw [h (x + 1) (by omega) (by omega), h (x + 21) (by omega) (by omega), h (x + 143) (by omega) (by omega)]
  · split
    · exact sput_ad fun i h1 h2 => h i (by omega) (by omega)
    · split
      · exact vputF_ad fun i h1 h2 => h i (by omega) (by omega)
      · split
        · exact dput_ad (h _ (by omega) (by omega))
        · rfl
theorem arr_prim {args : Array Value} {s : State} {ty : FieldType} (h : (Cond.arrayClass ty).before args s = true) (hp : ty = .int ∨ ty = .char ∨ ty = .long) : ∃ cA : ClassId, ArrOfT s cA ty ∧ va_RA s cA ty := by
  obtain ⟨c, k, comp, h1, h2, h3⟩ := Cond.arrayClass_spec h
  exact ⟨c, fun n z => ⟨fun k h => (by cases h), k, h2, comp, h3⟩, by rcases hp with rfl | rfl | rfl <;> exact h1⟩
theorem arr_obj {args : Array Value} {s : State} {C : String} (h : (Cond.arrayOver (.object C)).before args s = true) : ∃ cA : ClassId, ArrOfT s cA (.object C) ∧ va_RA s cA (.object C) := by
  obtain ⟨comp, c, k, h1, h2, h3, h4, h5⟩ := Cond.arrayOver_spec h
  exact ⟨c, fun n z => ⟨fun k h => (by cases h), k, h3, comp, h4⟩, k, comp, h3, h4, h1, h5⟩
theorem str_words : ∀ q ∈ gStr, Cond.stringRef RX4 q.1 q.2 ∈ lw_tbl ∧ Cond.exactly (Term.string RX4 q.1) "java/lang/String" ∈ flatC (Jvm.Cond.and given_1 narrow_1) := by decide +kernel
theorem dcl_words : ∀ y ∈ gDcl, Cond.declares y ∈ lw_tbl := by decide +kernel
/-- what throwing needs, at the law's start -/
theorem start_E {s : State} {b : Nat} (hts : ∀ w ∈ lw_tbl, w.before #[Value.ref b] s = true) (hgv : (Jvm.Cond.and given_1 narrow_1).before #[Value.ref b] s = true) : gE (fun q : Nat => s.heap.size ≤ q) s s.heap := by
  have hfl := flat_of_before _ hgv
  have hA : ∀ a : Nat, a < s.heap.size → ¬ s.heap.size ≤ a := fun a h => Nat.not_le.mpr h
  refine ⟨⟨vx_Zqof (hts _ (List.mem_of_getElem? (i := 185) (by decide +kernel))) (hts _ (List.mem_of_getElem? (i := 8) (by decide +kernel))) (hfl _ (by decide +kernel)) hA, vx_Zqof (hts _ (List.mem_of_getElem? (i := 187) (by decide +kernel))) (hts _ (List.mem_of_getElem? (i := 8) (by decide +kernel))) (hfl _ (by decide +kernel)) hA⟩,
    ⟨va_Nw.of rfl (hts _ (List.mem_of_getElem? (i := 305) (by decide +kernel))), va_Nw.of rfl (hts _ (List.mem_of_getElem? (i := 160) (by decide +kernel))), va_Nw.of rfl (hts _ (List.mem_of_getElem? (i := 477) (by decide +kernel)))⟩,
    ⟨va_Nc.of (hfl (.not (.castable eI eS)) (by decide +kernel)), va_Nc.of (hfl (.not (.castable eA eS)) (by decide +kernel)), va_Nc.of (hfl (.not (.castable eA eS)) (by decide +kernel))⟩, fun q hq => ?_, fun y hy => va_Nw.of rfl (hts _ (dcl_words y hy))⟩
  obtain ⟨h1, h2⟩ := str_words q hq
  obtain ⟨a, c, cA, kA, q1, -⟩ := Cond.exactly_spec (args := #[Value.ref b]) (first := s) (o := none) (s := s) (idx := []) (t := Term.string RX4 q.1) (cls := "java/lang/String") (hfl _ h2)
  exact ⟨a, vk_R.of (hts _ h1) q1⟩
theorem start_K {s : State} {args : Array Value} (hts : ∀ w ∈ lw_tbl, w.before args s = true) : ∃ (D : va_G) (ty : Nat → ClassId), va_K D vwCl (gtys ty) s := by
  obtain ⟨c0, i0, k0⟩ := u_known (C := RX0) (T := TX0) (N := 2) (n := 2) hts (fun w h => WS_tbl (inW0 w h)) (hts _ (WS_tbl knX4_23.2.1))
  obtain ⟨c1, i1, k1⟩ := u_known (C := RX1) (T := TX1) (N := 9) (n := 9) hts (fun w h => WS_tbl (inW1 w h)) (hts _ (WS_tbl knX3_9.2.1))
  obtain ⟨c2, i2, k2⟩ := u_known (C := RX2) (T := TX2) (N := 2) (n := 2) hts (fun w h => WS_tbl (inW2 w h)) (hts _ (WS_tbl knX4_16.2.1))
  obtain ⟨c3, i3, k3⟩ := u_known (C := RX3) (T := TX3) (N := 10) (n := 10) hts (fun w h => WS_tbl (inW3 w h)) (hts _ (WS_tbl knX4_7.2.1))
  obtain ⟨c4, i4, k4⟩ := u_known (C := RX4) (T := TX4) (N := 3) (n := 3) hts (fun w h => WS_tbl (inW4 w h)) (hts _ (WS_tbl knL_10.2.1))
  obtain ⟨a0, x0, y0⟩ := arr_prim (ty := .int) (hts _ (WS_tbl kar_int)) (Or.inl rfl)
  obtain ⟨a1, x1, y1⟩ := arr_prim (ty := .char) (hts _ (WS_tbl kar_char)) (Or.inr (Or.inl rfl))
  obtain ⟨a3, x3, y3⟩ := arr_obj (C := RX1) (hts _ (List.mem_of_getElem? (i := 31) (by decide +kernel)))
  obtain ⟨a4, x4, y4⟩ := arr_obj (C := RX3) (hts _ (List.mem_of_getElem? (i := 121) (by decide +kernel)))
  refine ⟨(fun k => match k with | 0 => c0 | 1 => c1 | 2 => c2 | 3 => c3 | _ => c4, fun k => match k with | 0 => i0 | 1 => i1 | 2 => i2 | 3 => i3 | _ => i4), fun k => match k with | 0 => a0 | 1 => a1 | 2 => a0 | 3 => a3 | _ => a4, fun k q hq => ?_, fun k q hq => ?_⟩
  · match k, hq with
    | 0, hq => cases hq; exact k0
    | 1, hq => cases hq; exact k1
    | 2, hq => cases hq; exact k2
    | 3, hq => cases hq; exact k3
    | 4, hq => cases hq; exact k4
    | k + 5, hq => simp [vwCl] at hq
  · match k, hq with
    | 0, hq => cases hq; exact ⟨x0, y0⟩
    | 1, hq => cases hq; exact ⟨x1, y1⟩
    | 2, hq => cases hq; exact ⟨x0, y0⟩
    | 3, hq => cases hq; exact ⟨x3, y3⟩
    | 4, hq => cases hq; exact ⟨x4, y4⟩
    | k + 5, hq => simp [gtys] at hq
end
