section
/-! the tables' words, the rows on exceptions (out of the skeleton and the printed names) -/
-- ===== PART A: goes FIRST, ahead of the names: the tables' words, and 'selects' of the private methods out of them =====
/-- a private method of a class that the tables say can be made, by its rows of tables_1 -/
def lw_okq (q : MethodName × Nat) : Prop := (q.1.cls ≠ "java/lang/invoke/MethodHandle" ∧ q.1.cls ≠ "java/lang/invoke/VarHandle") ∧ Cond.instantiable q.1.cls q.2 ∈ tables_1 ∧ Cond.privateMethod q.1 ∈ tables_1 ∧ Cond.instanceMethod q.1 ∈ tables_1
theorem lw_p0 : lw_okq (⟨"CandleRooms", "countNumber", "(I)I"⟩, 3) := ⟨⟨by decide +kernel, by decide +kernel⟩, List.mem_of_getElem? (i := 17) (by decide +kernel), List.mem_of_getElem? (i := 264) (by decide +kernel), List.mem_of_getElem? (i := 265) (by decide +kernel)⟩
theorem lw_p1 : lw_okq (⟨"CandleRooms", "mixRoom", "(JI)J"⟩, 3) := ⟨⟨by decide +kernel, by decide +kernel⟩, List.mem_of_getElem? (i := 17) (by decide +kernel), List.mem_of_getElem? (i := 278) (by decide +kernel), List.mem_of_getElem? (i := 279) (by decide +kernel)⟩
theorem lw_p2 : lw_okq (⟨"java/lang/Throwable", "fillInStackTrace", "(I)Ljava/lang/Throwable;"⟩, 6) := ⟨⟨by decide +kernel, by decide +kernel⟩, List.mem_of_getElem? (i := 375) (by decide +kernel), List.mem_of_getElem? (i := 373) (by decide +kernel), List.mem_of_getElem? (i := 374) (by decide +kernel)⟩
theorem lw_p3 : lw_okq (⟨"CandleRooms", "playDeeds", "()I"⟩, 3) := ⟨⟨by decide +kernel, by decide +kernel⟩, List.mem_of_getElem? (i := 17) (by decide +kernel), List.mem_of_getElem? (i := 638) (by decide +kernel), List.mem_of_getElem? (i := 639) (by decide +kernel)⟩
theorem lw_p4 : lw_okq (⟨"CandleRooms", "playDeed", "(I)Z"⟩, 3) := ⟨⟨by decide +kernel, by decide +kernel⟩, List.mem_of_getElem? (i := 17) (by decide +kernel), List.mem_of_getElem? (i := 646) (by decide +kernel), List.mem_of_getElem? (i := 647) (by decide +kernel)⟩
theorem lw_p5 : lw_okq (⟨"CandleRoomsModel", "fails", "(I)I"⟩, 11) := ⟨⟨by decide +kernel, by decide +kernel⟩, List.mem_of_getElem? (i := 747) (by decide +kernel), List.mem_of_getElem? (i := 795) (by decide +kernel), List.mem_of_getElem? (i := 796) (by decide +kernel)⟩
theorem lw_p6 : lw_okq (⟨"CandleRoomsModel", "keepsState", "()V"⟩, 11) := ⟨⟨by decide +kernel, by decide +kernel⟩, List.mem_of_getElem? (i := 747) (by decide +kernel), List.mem_of_getElem? (i := 821) (by decide +kernel), List.mem_of_getElem? (i := 822) (by decide +kernel)⟩
theorem lw_p7 : lw_okq (⟨"CandleRoomsModel", "switches", "(IIZ)I"⟩, 11) := ⟨⟨by decide +kernel, by decide +kernel⟩, List.mem_of_getElem? (i := 747) (by decide +kernel), List.mem_of_getElem? (i := 852) (by decide +kernel), List.mem_of_getElem? (i := 853) (by decide +kernel)⟩
theorem lw_p8 : lw_okq (⟨"CandleRoomsModel", "isText", "()Z"⟩, 11) := ⟨⟨by decide +kernel, by decide +kernel⟩, List.mem_of_getElem? (i := 747) (by decide +kernel), List.mem_of_getElem? (i := 919) (by decide +kernel), List.mem_of_getElem? (i := 920) (by decide +kernel)⟩
theorem lw_p9 : lw_okq (⟨"CandleRoomsModel", "isPart", "()Z"⟩, 11) := ⟨⟨by decide +kernel, by decide +kernel⟩, List.mem_of_getElem? (i := 747) (by decide +kernel), List.mem_of_getElem? (i := 923) (by decide +kernel), List.mem_of_getElem? (i := 924) (by decide +kernel)⟩
theorem lw_p10 : lw_okq (⟨"CandleRoomsModel", "isAt", "(II)Z"⟩, 11) := ⟨⟨by decide +kernel, by decide +kernel⟩, List.mem_of_getElem? (i := 747) (by decide +kernel), List.mem_of_getElem? (i := 927) (by decide +kernel), List.mem_of_getElem? (i := 928) (by decide +kernel)⟩
theorem lw_p11 : lw_okq (⟨"CandleRoomsModel", "stops", "()Z"⟩, 11) := ⟨⟨by decide +kernel, by decide +kernel⟩, List.mem_of_getElem? (i := 747) (by decide +kernel), List.mem_of_getElem? (i := 931) (by decide +kernel), List.mem_of_getElem? (i := 932) (by decide +kernel)⟩
theorem lw_p12 : lw_okq (⟨"CandleRoomsModel", "isNumber", "(IIZ)Z"⟩, 11) := ⟨⟨by decide +kernel, by decide +kernel⟩, List.mem_of_getElem? (i := 747) (by decide +kernel), List.mem_of_getElem? (i := 935) (by decide +kernel), List.mem_of_getElem? (i := 936) (by decide +kernel)⟩
theorem lw_p13 : lw_okq (⟨"CandleRoomsModel", "does", "(I)Z"⟩, 11) := ⟨⟨by decide +kernel, by decide +kernel⟩, List.mem_of_getElem? (i := 747) (by decide +kernel), List.mem_of_getElem? (i := 943) (by decide +kernel), List.mem_of_getElem? (i := 944) (by decide +kernel)⟩
theorem lw_p14 : lw_okq (⟨"CandleRoomsModel", "ofRoom", "(II)I"⟩, 11) := ⟨⟨by decide +kernel, by decide +kernel⟩, List.mem_of_getElem? (i := 747) (by decide +kernel), List.mem_of_getElem? (i := 951) (by decide +kernel), List.mem_of_getElem? (i := 952) (by decide +kernel)⟩
theorem lw_p15 : lw_okq (⟨"CandleRoomsModel", "counted", "(I)I"⟩, 11) := ⟨⟨by decide +kernel, by decide +kernel⟩, List.mem_of_getElem? (i := 747) (by decide +kernel), List.mem_of_getElem? (i := 963) (by decide +kernel), List.mem_of_getElem? (i := 964) (by decide +kernel)⟩
def lw_privs_1 : List (MethodName × Nat) := [(⟨"CandleRooms", "countNumber", "(I)I"⟩, 3), (⟨"CandleRooms", "mixRoom", "(JI)J"⟩, 3), (⟨"java/lang/Throwable", "fillInStackTrace", "(I)Ljava/lang/Throwable;"⟩, 6), (⟨"CandleRooms", "playDeeds", "()I"⟩, 3), (⟨"CandleRooms", "playDeed", "(I)Z"⟩, 3), (⟨"CandleRoomsModel", "fails", "(I)I"⟩, 11), (⟨"CandleRoomsModel", "keepsState", "()V"⟩, 11), (⟨"CandleRoomsModel", "switches", "(IIZ)I"⟩, 11), (⟨"CandleRoomsModel", "isText", "()Z"⟩, 11), (⟨"CandleRoomsModel", "isPart", "()Z"⟩, 11), (⟨"CandleRoomsModel", "isAt", "(II)Z"⟩, 11), (⟨"CandleRoomsModel", "stops", "()Z"⟩, 11), (⟨"CandleRoomsModel", "isNumber", "(IIZ)Z"⟩, 11), (⟨"CandleRoomsModel", "does", "(I)Z"⟩, 11), (⟨"CandleRoomsModel", "ofRoom", "(II)I"⟩, 11), (⟨"CandleRoomsModel", "counted", "(I)I"⟩, 11)]
theorem lw_r1 : ∀ q ∈ lw_privs_1, lw_okq q := List.forall_mem_cons.mpr ⟨lw_p0, List.forall_mem_cons.mpr ⟨lw_p1, List.forall_mem_cons.mpr ⟨lw_p2, List.forall_mem_cons.mpr ⟨lw_p3, List.forall_mem_cons.mpr ⟨lw_p4, List.forall_mem_cons.mpr ⟨lw_p5, List.forall_mem_cons.mpr ⟨lw_p6, List.forall_mem_cons.mpr ⟨lw_p7, List.forall_mem_cons.mpr ⟨lw_p8, List.forall_mem_cons.mpr ⟨lw_p9, List.forall_mem_cons.mpr ⟨lw_p10, List.forall_mem_cons.mpr ⟨lw_p11, List.forall_mem_cons.mpr ⟨lw_p12, List.forall_mem_cons.mpr ⟨lw_p13, List.forall_mem_cons.mpr ⟨lw_p14, List.forall_mem_cons.mpr ⟨lw_p15, fun _ h => absurd h List.not_mem_nil⟩⟩⟩⟩⟩⟩⟩⟩⟩⟩⟩⟩⟩⟩⟩⟩
theorem lw_p16 : lw_okq (⟨"CandleRoomsModel", "things", "()I"⟩, 11) := ⟨⟨by decide +kernel, by decide +kernel⟩, List.mem_of_getElem? (i := 747) (by decide +kernel), List.mem_of_getElem? (i := 967) (by decide +kernel), List.mem_of_getElem? (i := 968) (by decide +kernel)⟩
theorem lw_p17 : lw_okq (⟨"CandleRoomsModel", "stays", "(I)I"⟩, 11) := ⟨⟨by decide +kernel, by decide +kernel⟩, List.mem_of_getElem? (i := 747) (by decide +kernel), List.mem_of_getElem? (i := 975) (by decide +kernel), List.mem_of_getElem? (i := 976) (by decide +kernel)⟩
theorem lw_p18 : lw_okq (⟨"CandleRoomsModel", "firstForgotten", "()I"⟩, 11) := ⟨⟨by decide +kernel, by decide +kernel⟩, List.mem_of_getElem? (i := 747) (by decide +kernel), List.mem_of_getElem? (i := 983) (by decide +kernel), List.mem_of_getElem? (i := 984) (by decide +kernel)⟩
theorem lw_p19 : lw_okq (⟨"CandleRoomsModel", "fewest", "(I)I"⟩, 11) := ⟨⟨by decide +kernel, by decide +kernel⟩, List.mem_of_getElem? (i := 747) (by decide +kernel), List.mem_of_getElem? (i := 991) (by decide +kernel), List.mem_of_getElem? (i := 992) (by decide +kernel)⟩
theorem lw_p20 : lw_okq (⟨"CandleRoomsModel", "way", "(II)I"⟩, 11) := ⟨⟨by decide +kernel, by decide +kernel⟩, List.mem_of_getElem? (i := 747) (by decide +kernel), List.mem_of_getElem? (i := 995) (by decide +kernel), List.mem_of_getElem? (i := 996) (by decide +kernel)⟩
theorem lw_p21 : lw_okq (⟨"CandleRoomsModel", "neediest", "()I"⟩, 11) := ⟨⟨by decide +kernel, by decide +kernel⟩, List.mem_of_getElem? (i := 747) (by decide +kernel), List.mem_of_getElem? (i := 1003) (by decide +kernel), List.mem_of_getElem? (i := 1004) (by decide +kernel)⟩
theorem lw_p22 : lw_okq (⟨"CandleRoomsModel", "saved", "(I)I"⟩, 11) := ⟨⟨by decide +kernel, by decide +kernel⟩, List.mem_of_getElem? (i := 747) (by decide +kernel), List.mem_of_getElem? (i := 1011) (by decide +kernel), List.mem_of_getElem? (i := 1012) (by decide +kernel)⟩
theorem lw_p23 : lw_okq (⟨"CandleRoomsModel", "share", "()D"⟩, 11) := ⟨⟨by decide +kernel, by decide +kernel⟩, List.mem_of_getElem? (i := 747) (by decide +kernel), List.mem_of_getElem? (i := 1019) (by decide +kernel), List.mem_of_getElem? (i := 1020) (by decide +kernel)⟩
def lw_privs_2 : List (MethodName × Nat) := [(⟨"CandleRoomsModel", "things", "()I"⟩, 11), (⟨"CandleRoomsModel", "stays", "(I)I"⟩, 11), (⟨"CandleRoomsModel", "firstForgotten", "()I"⟩, 11), (⟨"CandleRoomsModel", "fewest", "(I)I"⟩, 11), (⟨"CandleRoomsModel", "way", "(II)I"⟩, 11), (⟨"CandleRoomsModel", "neediest", "()I"⟩, 11), (⟨"CandleRoomsModel", "saved", "(I)I"⟩, 11), (⟨"CandleRoomsModel", "share", "()D"⟩, 11)]
theorem lw_r2 : ∀ q ∈ lw_privs_2, lw_okq q := List.forall_mem_cons.mpr ⟨lw_p16, List.forall_mem_cons.mpr ⟨lw_p17, List.forall_mem_cons.mpr ⟨lw_p18, List.forall_mem_cons.mpr ⟨lw_p19, List.forall_mem_cons.mpr ⟨lw_p20, List.forall_mem_cons.mpr ⟨lw_p21, List.forall_mem_cons.mpr ⟨lw_p22, List.forall_mem_cons.mpr ⟨lw_p23, fun _ h => absurd h List.not_mem_nil⟩⟩⟩⟩⟩⟩⟩⟩
def lw_privs : List (MethodName × Nat) := lw_privs_1 ++ (lw_privs_2)
def lw_tbl : List Cond := k2_sels lw_privs ++ tables_1
theorem lw_privs_ok : ∀ q ∈ lw_privs, lw_okq q := by
  show ∀ q ∈ lw_privs_1 ++ (lw_privs_2), lw_okq q
  exact List.forall_mem_append.mpr ⟨lw_r1, lw_r2⟩
/-- the streams that the claim lets the run draw from -/
abbrev lw_cs : List Choice := [Jvm.Choice.named "NaN.bits"]
theorem lw_bits : nanBits ∈ lw_cs := by first | decide | exact List.mem_cons_self | simp [lw_cs, nanBits]
-- ===== end of PART A; then your names; then what follows =====
/-! ===== BEGIN words of one list among another's, by their places ===== -/
theorem goodIn_r {big : List Cond} (ws : List Cond) (ps : List Nat) (hp : ws = ps.filterMap (fun i => big[i]?)) (h : ws.all goodWord = true) : GoodIn big ws := by
  intro w hw
  have h1 := List.all_eq_true.mp h w hw
  rw [hp] at hw
  obtain ⟨i, -, hi⟩ := List.mem_filterMap.mp hw
  have hm : w ∈ big := by first | exact List.mem_of_getElem? hi | exact List.getElem?_mem hi
  exact ⟨hm, good_of_word h1⟩
theorem goodIn_app {big a b : List Cond} (ha : GoodIn big a) (hb : GoodIn big b) : GoodIn big (a ++ b) := fun w h => (List.mem_append.mp h).elim (ha w) (hb w)
theorem goodIn_ca {big a b : List Cond} {c : Cond} (ha : GoodIn big (c :: a)) (hb : GoodIn big b) : GoodIn big (c :: (a ++ b)) := fun w h => (List.mem_cons.mp h).elim (fun e => ha w (List.mem_cons.mpr (Or.inl e))) (fun h => (List.mem_append.mp h).elim (fun h => ha w (List.mem_cons.mpr (Or.inr h))) (hb w))
theorem goodIn_sub {big ws : List Cond} (hm : ∀ w ∈ ws, w ∈ big) (h : ws.all goodWord = true) : GoodIn big ws := fun w hw => ⟨hm w hw, good_of_word (List.all_eq_true.mp h w hw)⟩
/-! ===== END ===== -/

/-! ===== BEGIN exceptions that leave a method, and their catching by the caller (launches without stack traces) ===== -/
section VXA
/-! The laws vx_back, vx_callV, vx_callS, vx_callSW, vx_throw0, vx_throwS follow proofs of the library, with one case more: JvmDerived/Free/Laws.lean (Back.of_free), Shelf42/LK1.lean (callV, callS), Shelf/KitTraced.lean (throwNew0V, throwNewS). -/
/-- where a method has thrown q: the class by its name, the cell, what was written, the world -/
def vx_T (XC : String → State → State → Prop) (st : State) (q : Addr) (t : State) (mc ms : Nat) (free : Addr → Prop) : Prop :=
  ∃ (E : String) (ce : Cell) (L : List Loc), XC E st t ∧ t.heap[q]? = some ce ∧ ce.vm = .none ∧ st.vm.findClass E = some ce.cls ∧ st.WarmedH t.vm ∧ st.sameButNew ({ t with vm := st.vm } : State) L mc ms ∧ ∀ z ∈ L, free z.base
def vx_Q (Qc : Array Value → State → Outcome → State → Prop) (XC : String → State → State → Prop) (mc ms : Nat) (free : Addr → Prop) : Array Value → State → Outcome → State → Prop := fun a st o t =>
  (Qc a st o t ∧ ∃ L, FrameEnd st o t L mc ms ∧ ∀ q ∈ L, free q.base) ∨ ∃ q, o = .threw q ∧ vx_T XC st q t mc ms free
/-- a callee that returns or throws -/
def vx_Met (l : Launch) (y : MethodName) (ws : List Cond) (rm : Room) (Pc : Array Value → State → Prop) (Qc : Array Value → State → Outcome → State → Prop) (XC : String → State → State → Prop) (mc ms : Nat) (free : Addr → Prop) : Prop :=
  MetFree l y (headSpec ws rm) Pc (fun _ _ _ _ _ => True) (vx_Q Qc XC mc ms free)
def vx_Post (XC : String → State → State → Prop) (mc ms : Nat) (free : Addr → Prop) : Pt → Array Value → Addr → Pt → Prop := fun A a q B =>
  ∃ (g : JFrame) (mk : MethodId) (t : State) (L : List Loc) (E : String) (ce : Cell), B.U.heap = t.heap ∧ B.U.vm = t.vm ∧ XC E (A.U.calling g mk a) t ∧ t.heap[q]? = some ce ∧ ce.vm = .none ∧ A.U.vm.findClass E = some ce.cls ∧ B.locs = A.locs ++ L ∧ (∀ z ∈ L, free z.base) ∧ B.cells = A.cells + mc ∧ B.slots = A.slots + ms
def vx_Back (l : Launch) (R : Room) (p : Program) (e : Env) (below : List Frame) (s : State) (sargs : Array Value) (y : MethodName) (len W9 : Nat)
    (Pre : Pt → Array Value → Prop) (Post : Pt → Array Value → Option Value → Pt → Prop) (PostX : Pt → Array Value → Addr → Pt → Prop) : Prop :=
  ∀ (m : MethodId) (meth : Method) (c : Code) (A : Pt) (g : JFrame) (ig : Instr) (mk : MethodId) (a : Array Value),
    Stand p l e R s m sargs below meth c A.U A.locs A.cells A.slots → g.method = m → g.locals.size = c.maxLocals → decode c.code g.pc = .ok (ig, len) →
    2 * g.monitorRoom + (g.stack.map fun v => v.category).sum ≤ W9 → A.U.methodNamed? y = some mk → Pre A a →
    (∃ (v : Option Value) (B : Pt), Stand p l e R s m sargs below meth c B.U B.locs B.cells B.slots ∧ Post A a v B ∧
      Steps p.tables e below (doInvoke e (A.U.setTop g) [] mk a).1 (B.U.setTop { g with pc := g.pc + len, stack := v.toList ++ g.stack })) ∨
    (∃ (q : Addr) (B : Pt), Stand p l e R s m sargs below meth c B.U B.locs B.cells B.slots ∧ PostX A a q B ∧
      Steps p.tables e below (doInvoke e (A.U.setTop g) [] mk a).1 ((B.U.setTop g).pushFrame (.throwing q)))
section Payer
variable {l : Launch} {R : Room} {p : Program} {e : Env} {below : List Frame} {s : State} {sargs : Array Value} {y : MethodName} {len W9 : Nat}
theorem vx_back {ws : List Cond} {rm : Room} {Pc : Array Value → State → Prop} {Qc : Array Value → State → Outcome → State → Prop} {XC : String → State → State → Prop} {mc ms : Nat} {free : Addr → Prop} {bytes : ByteArray} {maxL : Nat} {ret : Option FieldType}
    (hM : vx_Met l y ws rm Pc Qc XC mc ms free) (hblind : FrameBlind Pc) (hrc : rm.cells = mc) (hrs : rm.slots = ms)
    (hframes : rm.frames + 1 ≤ R.frames) (hlocals : W9 + (maxL + 11) + rm.locals ≤ R.locals)
    (hws : ∀ w ∈ ws, ∀ a' U, s.WarmedH U.vm → w.before a' U = true) (hcode : Cond.code y bytes maxL ret ∈ ws) (hinit : ∀ a' U, s.WarmedH U.vm → (Cond.initialized y.cls).before a' U = true) :
    vx_Back l R p e below s sargs y len W9 (PreOf R mc ms Pc) (PostOf Qc mc ms free) (vx_Post XC mc ms free) := by
  intro m meth c A g ig mk a X hg hsize hdg hW hn hp
  have h1 : (headSpec ws rm).pre.before a A.U = true := atoms_intro fun w hw => hws w hw _ _ X.warmed
  have h2 : (Cond.code y bytes maxL ret).before a A.U = true := hws _ hcode _ _ X.warmed
  have h3 : (Cond.initialized y.cls).before a A.U = true := hinit _ _ X.warmed
  have h4 : A.cells + (headSpec ws rm).room.cells ≤ R.cells := by rw [show (headSpec ws rm).room.cells = mc from hrc]; exact hp.1
  have h5 : A.slots + (headSpec ws rm).room.slots ≤ R.slots := by rw [show (headSpec ws rm).room.slots = ms from hrs]; exact hp.2.1
  have hPc : Pc a (A.U.calling g mk a) := hblind _ _ _ _ hp.2.2
  obtain ⟨U, Ls, c0, s0⟩ := A
  dsimp only [Pt.U, Pt.locs, Pt.cells, Pt.slots] at h1 h2 h3 h4 h5 X hn hPc ⊢
  obtain ⟨methY, cY, hmY, hcY, -, hlY, -, -, -, -⟩ := Cond.code_spec hn h2
  obtain ⟨kY, hkY, -⟩ := className_of_methodNamed hn
  have hinitY : kY.init = .initialized := Cond.initialized_spec (findClass_of_methodNamed hn) hkY h3
  have h : At U g.method c below := by rw [hg]; exact X.here
  have hlocals9 : W9 + (maxL + 11) + (headSpec ws rm).room.locals ≤ R.locals := hlocals
  have happ : (headSpec ws rm).appliesLoose y e.platform (U.calling g mk a) = true :=
    Spec.appliesLoose_calling (g := g) h hdg hn hkY hinitY
      (X.room_calling (g := g) (R' := (headSpec ws rm).room) hsize hmY hcY hframes (by rw [hlY]; omega) h4 h5) h1
  obtain ⟨mid, hmid⟩ := h.above
  have hfr : (U.setTop g).frames = (.java g :: mid) ++ below := by rw [State.frames_setTop' g h.top, hmid]; rfl
  obtain ⟨o, s₂, hsteps, -, hend, hq⟩ := Steps.callFree hM p X.admits X.cas X.clock (acts := []) hfr happ hPc trivial
  have hq' : vx_Q Qc XC mc ms free a (U.calling g mk a) o s₂ := hq
  rw [State.frames_setTop' g h.top] at hend
  obtain ⟨g₀, hg0⟩ := Option.isSome_iff_exists.mp h.top
  obtain ⟨r, hr⟩ := State.topJava?_eq_some.mp hg0
  have hr' : (({ U with heap := s₂.heap, slotsUsed := s₂.slotsUsed } : State).setVm s₂.vm).frames = .java g₀ :: r := hr
  rcases hq' with ⟨hqc, L, hfe, hL⟩ | ⟨q, rfl, E, ce, L, hx, hce, hcv, hcl, hW₂, hsm, hL⟩
  · obtain ⟨⟨v, rfl⟩, hW₂, e2, q2, q3, q4, q5, q6⟩ := id hfe
    have e3 : s₂ = ({ (U.calling g mk a).setFrames s₂.frames with heap := s₂.heap, slotsUsed := s₂.slotsUsed } : State).setVm s₂.vm := by
      have : s₂ = ({ s₂ with vm := (U.calling g mk a).vm } : State).setVm s₂.vm := rfl
      rw [e2] at this
      exact this
    obtain ⟨c₂, i₂, len₂, hc₂, hd₂, hf₂⟩ := hend
    have hW' : U.WarmedH s₂.vm := hW₂
    have hcc : c₂ = c := by
      have h1 : s₂.code? g.method = U.code? g.method := by
        rw [State.code?_eq, State.code?_eq, hW'.alike.method?]
      exact Option.some.inj (hc₂.symm.trans (h1.trans h.code))
    subst hcc
    have hlen : len₂ = len := by rw [hdg] at hd₂; cases hd₂; rfl
    subst hlen
    have hs₂ : s₂ = (({ U with heap := s₂.heap, slotsUsed := s₂.slotsUsed } : State).setVm s₂.vm).setTop { g with pc := g.pc + len₂, stack := v.toList ++ g.stack } := by
      refine e3.trans ?_
      rw [hf₂, State.calling_eq h.top, State.setFrames_setFrames, State.setTop_of_frames _ hr', hr]
      rfl
    have hsame : U.sameButNew ({ U with heap := s₂.heap, slotsUsed := s₂.slotsUsed } : State) L mc ms := by
      refine ⟨?_, q2, q3, q4, q5, q6⟩
      obtain ⟨t, ht, -⟩ := State.frames_cons hr
      show ({ U with heap := s₂.heap, slotsUsed := s₂.slotsUsed } : State) = { U.setFrames U.frames with heap := s₂.heap, slotsUsed := s₂.slotsUsed }
      rw [State.setFrames_self ht]
    subst hg
    refine Or.inl ⟨v, ⟨(({ U with heap := s₂.heap, slotsUsed := s₂.slotsUsed } : State).setVm s₂.vm), Ls ++ L, c0 + mc, s0 + ms⟩,
      ⟨X.admits, X.cas, X.clock, X.frames, X.room, X.hears, X.method, X.code, (X.here.setHeapUsed s₂.heap s₂.slotsUsed).setVm hW'.alike, X.tail, State.WarmedH.trans X.warmed hW', X.limits, X.bytes, X.same.trans (hsame.setVm s.vm)⟩,
      ⟨g, mk, s₂, L, rfl, rfl, hqc, rfl, hL, rfl, rfl⟩, ?_⟩
    show Steps p.tables e below _ ((({ U with heap := s₂.heap, slotsUsed := s₂.slotsUsed } : State).setVm s₂.vm).setTop { g with pc := g.pc + len₂, stack := v.toList ++ g.stack })
    rw [← hs₂]
    exact hsteps
  · obtain ⟨e2, q2, q3, q4, q5, q6⟩ := id hsm
    have e3 : s₂ = ({ (U.calling g mk a).setFrames s₂.frames with heap := s₂.heap, slotsUsed := s₂.slotsUsed } : State).setVm s₂.vm := by
      have : s₂ = ({ s₂ with vm := (U.calling g mk a).vm } : State).setVm s₂.vm := rfl
      rw [e2] at this
      exact this
    have hf₂ : s₂.frames = .throwing q :: .java g :: U.frames.tail := hend
    have hW' : U.WarmedH s₂.vm := hW₂
    have hs₂ : s₂ = ((({ U with heap := s₂.heap, slotsUsed := s₂.slotsUsed } : State).setVm s₂.vm).setTop g).pushFrame (.throwing q) := by
      refine e3.trans ?_
      rw [hf₂, State.calling_eq h.top, State.setFrames_setFrames, State.pushFrame, State.frames_setTop _ hr', State.setTop_of_frames _ hr', State.setFrames_setFrames, hr]
      rfl
    have hsame : U.sameButNew ({ U with heap := s₂.heap, slotsUsed := s₂.slotsUsed } : State) L mc ms := by
      refine ⟨?_, q2, q3, q4, q5, q6⟩
      obtain ⟨t, ht, -⟩ := State.frames_cons hr
      show ({ U with heap := s₂.heap, slotsUsed := s₂.slotsUsed } : State) = { U.setFrames U.frames with heap := s₂.heap, slotsUsed := s₂.slotsUsed }
      rw [State.setFrames_self ht]
    subst hg
    refine Or.inr ⟨q, ⟨(({ U with heap := s₂.heap, slotsUsed := s₂.slotsUsed } : State).setVm s₂.vm), Ls ++ L, c0 + mc, s0 + ms⟩,
      ⟨X.admits, X.cas, X.clock, X.frames, X.room, X.hears, X.method, X.code, (X.here.setHeapUsed s₂.heap s₂.slotsUsed).setVm hW'.alike, X.tail, State.WarmedH.trans X.warmed hW', X.limits, X.bytes, X.same.trans (hsame.setVm s.vm)⟩,
      ⟨g, mk, s₂, L, E, ce, rfl, rfl, hx, hce, hcv, hcl, rfl, hL, rfl, rfl⟩, ?_⟩
    show Steps p.tables e below _ (((({ U with heap := s₂.heap, slotsUsed := s₂.slotsUsed } : State).setVm s₂.vm).setTop g).pushFrame (.throwing q))
    rw [← hs₂]
    exact hsteps
end Payer
section Calls
variable {p : Program} {l : Launch} {e : Env} {R : Room} {s : State} {m : MethodId} {args : Array Value} {below : List Frame} {meth : Method} {c : Code} {T : State} {locs : List Loc} {cells slots : Nat}
theorem vx_callV (X : Stand p l e R s m args below meth c T locs cells slots) (hexec : p.tables.exec = Jvm.exec) {own C : String} {index : Nat} {y : MethodName} {bytes : ByteArray} {maxL : Nat} {ret : Option FieldType}
    (hown : s.vm.findClass own = some m.cls) (hlink : (Cond.methodLink own index y).before args s = true) (hinst : (Cond.instanceMethod y).before args s = true) (hsel : (Cond.selects C y y).before args s = true)
    (hcode : (Cond.code y bytes maxL ret).before args s = true) (hy : y.cls ≠ "java/lang/invoke/MethodHandle" ∧ y.cls ≠ "java/lang/invoke/VarHandle")
    {W9 : Nat} {Pre : Pt → Array Value → Prop} {Post : Pt → Array Value → Option Value → Pt → Prop} {PostX : Pt → Array Value → Addr → Pt → Prop} (hK : vx_Back l R p e below s args y 3 W9 Pre Post PostX)
    {b : Addr} {cellB : Cell} (hcell : T.heap[b]? = some cellB) (hobj : cellB.vm.isStatics = false) (hcls : s.vm.findClass C = some cellB.cls)
    {g : JFrame} (hg : g.method = m) (hsize : g.locals.size = c.maxLocals) {argsL rest : List Value} (hlen : ∀ sig, parseMethodDescriptor y.desc = some sig → argsL.length = sig.parameters.length)
    (hstack : g.stack = argsL.reverse ++ .ref b :: rest) (hW : 2 * g.monitorRoom + (rest.map fun v => v.category).sum ≤ W9) (hdg : decode c.code g.pc = .ok (.invokevirtual index, 3))
    (hpre : ∀ vm₁, s.WarmedH vm₁ → Pre ⟨T.setVm vm₁, locs, cells, slots⟩ (Value.ref b :: argsL).toArray) :
    (∃ (v : Option Value) (vm₁ : Vm) (B : Pt), s.WarmedH vm₁ ∧ Stand p l e R s m args below meth c B.U B.locs B.cells B.slots ∧ Post ⟨T.setVm vm₁, locs, cells, slots⟩ (Value.ref b :: argsL).toArray v B ∧
      ∀ target, Steps p.tables e below (B.U.setTop { g with pc := g.pc + 3, stack := v.toList ++ rest }) target → Steps p.tables e below (T.setTop g) target) ∨
    (∃ (q : Addr) (vm₁ : Vm) (B : Pt), s.WarmedH vm₁ ∧ Stand p l e R s m args below meth c B.U B.locs B.cells B.slots ∧ PostX ⟨T.setVm vm₁, locs, cells, slots⟩ (Value.ref b :: argsL).toArray q B ∧
      Steps p.tables e below (T.setTop g) ((B.U.setTop { g with stack := rest }).pushFrame (.throwing q))) := by
  obtain ⟨mk, methM, hnamed, hmethM, hstM, habM⟩ := Cond.instanceMethod_spec hinst
  obtain ⟨methM', cM, hmethM', -, -, -, -, -, -, hsigM⟩ := Cond.code_spec hnamed hcode
  cases hmethM.symm.trans hmethM'
  obtain ⟨c2, r2, m2, q1, q2, q3, q4, kP, hkP, hkPi⟩ := Cond.selects_spec hsel
  cases hcls.symm.trans q1
  cases (State.methodFound?_of_named hnamed hy).symm.trans q2
  cases hnamed.symm.trans q3
  have hselP : selectMethod e.platform s.vm cellB.cls mk = .method mk := by rw [Launch.admits_selectMethod X.admits]; exact q4
  obtain ⟨vm₁, X₁, hstep₁⟩ := X.invokevirtual hexec hown hlink hnamed hmethM hstM hkP hkPi hy (a := b) (cell := cellB) hcell
    (fun z h => by rw [h] at hobj; cases hobj) hselP hmethM habM hkP hkPi (g := g) hg (argsL := argsL) (rest := rest) (hlen _ hsigM) hstack hdg
  rcases hK m meth c ⟨T.setVm vm₁, locs, cells, slots⟩ { g with stack := rest } (.invokevirtual index) mk (Value.ref b :: argsL).toArray X₁ hg hsize hdg hW (X₁.named hnamed) (hpre vm₁ X₁.warmed) with ⟨v, B, X', hpost, hsteps⟩ | ⟨q, B, X', hpost, hsteps⟩
  · exact Or.inl ⟨v, vm₁, B, X₁.warmed, X', hpost, fun target h => hstep₁ _ fun acts => by rw [doInvoke_state]; exact hsteps.trans h⟩
  · exact Or.inr ⟨q, vm₁, B, X₁.warmed, X', hpost, hstep₁ _ fun acts => by rw [doInvoke_state]; exact hsteps⟩
theorem vx_callS (X : Stand p l e R s m args below meth c T locs cells slots) (hexec : p.tables.exec = Jvm.exec) {own : String} {index : Nat} {y : MethodName} {bytes : ByteArray} {maxL : Nat} {ret : Option FieldType}
    (hown : s.vm.findClass own = some m.cls) (hlink : (Cond.methodLink own index y).before args s = true) (hstat : (Cond.static y).before args s = true) (hinit : (Cond.initialized y.cls).before args s = true)
    (hcode : (Cond.code y bytes maxL ret).before args s = true) (hy : y.cls ≠ "java/lang/invoke/MethodHandle" ∧ y.cls ≠ "java/lang/invoke/VarHandle")
    {W9 : Nat} {Pre : Pt → Array Value → Prop} {Post : Pt → Array Value → Option Value → Pt → Prop} {PostX : Pt → Array Value → Addr → Pt → Prop} (hK : vx_Back l R p e below s args y 3 W9 Pre Post PostX)
    {g : JFrame} (hg : g.method = m) (hsize : g.locals.size = c.maxLocals) {argsL rest : List Value} (hlen : ∀ sig, parseMethodDescriptor y.desc = some sig → argsL.length = sig.parameters.length)
    (hstack : g.stack = argsL.reverse ++ rest) (hW : 2 * g.monitorRoom + (rest.map fun v => v.category).sum ≤ W9) (hdg : decode c.code g.pc = .ok (.invokestatic index, 3))
    (hpre : ∀ vm₁, s.WarmedH vm₁ → Pre ⟨T.setVm vm₁, locs, cells, slots⟩ argsL.toArray) :
    (∃ (v : Option Value) (vm₁ : Vm) (B : Pt), s.WarmedH vm₁ ∧ Stand p l e R s m args below meth c B.U B.locs B.cells B.slots ∧ Post ⟨T.setVm vm₁, locs, cells, slots⟩ argsL.toArray v B ∧
      ∀ target, Steps p.tables e below (B.U.setTop { g with pc := g.pc + 3, stack := v.toList ++ rest }) target → Steps p.tables e below (T.setTop g) target) ∨
    (∃ (q : Addr) (vm₁ : Vm) (B : Pt), s.WarmedH vm₁ ∧ Stand p l e R s m args below meth c B.U B.locs B.cells B.slots ∧ PostX ⟨T.setVm vm₁, locs, cells, slots⟩ argsL.toArray q B ∧
      Steps p.tables e below (T.setTop g) ((B.U.setTop { g with stack := rest }).pushFrame (.throwing q))) := by
  obtain ⟨mk, hnamed⟩ := Cond.code_named hcode
  obtain ⟨methM, cM, hmethM, -, -, -, -, -, -, hsigM⟩ := Cond.code_spec hnamed hcode
  have hstatic : methM.isStatic = true := Cond.static_spec hnamed hmethM hstat
  obtain ⟨kP, hkP, -⟩ := className_of_methodNamed hnamed
  have hinitP : kP.init = .initialized := Cond.initialized_spec (findClass_of_methodNamed hnamed) hkP hinit
  obtain ⟨vm₁, X₁, hstep₁⟩ := X.invokestatic hexec hown hlink hnamed hmethM hstatic hkP hinitP hy (g := g) hg (argsL := argsL) (rest := rest) (hlen _ hsigM) hstack hdg
  rcases hK m meth c ⟨T.setVm vm₁, locs, cells, slots⟩ { g with stack := rest } (.invokestatic index) mk argsL.toArray X₁ hg hsize hdg hW (X₁.named hnamed) (hpre vm₁ X₁.warmed) with ⟨v, B, X', hpost, hsteps⟩ | ⟨q, B, X', hpost, hsteps⟩
  · exact Or.inl ⟨v, vm₁, B, X₁.warmed, X', hpost, fun target h => hstep₁ _ fun acts => by rw [doInvoke_state]; exact hsteps.trans h⟩
  · exact Or.inr ⟨q, vm₁, B, X₁.warmed, X', hpost, hstep₁ _ fun acts => by rw [doInvoke_state]; exact hsteps⟩
end Calls
theorem vx_cls {s : State} {T : State} {vm₁ : Vm} {E : String} {k : ClassId} (hW : s.WarmedH vm₁) (h : (T.setVm vm₁).vm.findClass E = some k) : s.vm.findClass E = some k := by
  have h1 : vm₁.findClass E = some k := h
  rw [hW.alike.findClass] at h1
  exact h1
/-- the method's frame g, with q thrown over it -/
def vx_W (p : Program) (l : Launch) (e : Env) (R : Room) (s : State) (m : MethodId) (args : Array Value) (below : List Frame) (meth : Method) (c : Code) (H : Heap) (locs : List Loc) (cells slots : Nat) (Q : State → Prop) (g : JFrame) (q : Addr) : Prop :=
  ∀ T : State, T.heap = H → Stand p l e R s m args below meth c T locs cells slots → ∃ t, Steps p.tables e below ((T.setTop g).pushFrame (.throwing q)) t ∧ Q t
def vx_Run (p : Program) (l : Launch) (e : Env) (R : Room) (s : State) (m : MethodId) (args : Array Value) (below : List Frame) (meth : Method) (c : Code) (H : Heap) (locs : List Loc) (cells slots mc ms : Nat) (g : JFrame) (rest : List Value) (Qa : State → Outcome → State → Prop) (XC : String → State → State → Prop) (free : Addr → Prop) : Prop :=
  ∀ T : State, T.heap = H → Stand p l e R s m args below meth c T locs cells slots →
    (∃ (v : Option Value) (st₀ t T' : State) (L : List Loc), st₀.heap = H ∧ Stand p l e R s m args below meth c T' (locs ++ L) (cells + mc) (slots + ms) ∧ (∀ q ∈ L, free q.base) ∧ T'.heap = t.heap ∧ T'.vm = t.vm ∧ Qa st₀ (.returned v) t ∧
      Goes p e below T g T' { g with pc := g.pc + 3, stack := v.toList ++ rest }) ∨
    (∃ (q : Addr) (st₀ t T' : State) (L : List Loc) (E : String) (ce : Cell), st₀.heap = H ∧ Stand p l e R s m args below meth c T' (locs ++ L) (cells + mc) (slots + ms) ∧ (∀ z ∈ L, free z.base) ∧ T'.heap = t.heap ∧ T'.vm = t.vm ∧ XC E st₀ t ∧ t.heap[q]? = some ce ∧ ce.vm = .none ∧ s.vm.findClass E = some ce.cls ∧
      Steps p.tables e below (T.setTop g) ((T'.setTop { g with stack := rest }).pushFrame (.throwing q)))
def vx_X {S : Type} (px : S → Prop) (B : String → S → State → Prop) (A : Nat → Prop) : String → State → State → Prop := fun E st t => ∃ u : S, px u ∧ B E u t ∧ va_F A st t
section Runs
variable {p : Program} {l : Launch} {e : Env} {R : Room} {s : State} {m : MethodId} {args : Array Value} {below : List Frame} {meth : Method} {c : Code} {H : Heap} {locs : List Loc} {cells slots : Nat}
variable {y : MethodName} {bytes cc : ByteArray} {maxL nL mc ms n index : Nat} {ret : Option FieldType} {ws : List Cond} {rm : Room} {Pc : Array Value → State → Prop} {Qc : Array Value → State → Outcome → State → Prop} {XC : String → State → State → Prop} {free : Addr → Prop} {Ts : List Cond} {own C : String} {b : Addr} {As rest : List Value} {g : JFrame}
theorem vx_callBack (cb : CallB R s args own index y bytes maxL ret ws rm mc ms n) (hM : vx_Met l y ws rm Pc Qc XC mc ms free) (hbl : FrameBlind Pc) : vx_Back l R p e below s args y 3 8 (PreOf R mc ms Pc) (PostOf Qc mc ms free) (vx_Post XC mc ms free) := by
  obtain ⟨hrc, hrs, hfr, hlo, hws, hcw, -, hini, -⟩ := cb
  exact vx_back (bytes := bytes) (maxL := maxL) (ret := ret) hM hbl hrc hrs hfr hlo hws hcw (fun a' U hW => word_at hW (Or.inl (by first | rfl | simp [Cond.onTables, Cond.keeps, Cond.steady])) hini)
theorem vx_runV (S : CallFix p m c cc nL s args Ts own) (hM : vx_Met l y ws rm Pc Qc XC mc ms free) (cw : CallW R s args own C index y bytes maxL ret ws rm mc ms n) (hp : PreV s H C b Pc As)
    (hg : g.method = m) (hn : As.length = n) (hsize : g.locals.size = nL) (hstack : g.stack = As.reverse ++ .ref b :: rest) (hW : 2 * g.monitorRoom + (rest.map fun v => v.category).sum ≤ 8) (hdg : decode cc g.pc = .ok (.invokevirtual index, 3)) (hf : cells + mc ≤ R.cells ∧ slots + ms ≤ R.slots) :
    vx_Run p l e R s m args below meth c H locs cells slots mc ms g rest (Qc (Value.ref b :: As).toArray) XC free := by
  have hK : vx_Back l R p e below s args y 3 8 (PreOf R mc ms Pc) (PostOf Qc mc ms free) (vx_Post XC mc ms free) := vx_callBack cw.1 hM hp.1
  obtain ⟨⟨-, -, -, -, -, -, hcode, -, hy, hlen, hl⟩, hin, hse⟩ := cw
  obtain ⟨hx, hb, hml, ho, -⟩ := S
  obtain ⟨-, ⟨cellB, hcB, hoB, hclB⟩, hPc⟩ := hp
  intro T hT X
  rcases vx_callV X hx (C := C) (bytes := bytes) (maxL := maxL) (ret := ret) ho hl hin hse hcode hy hK (by rw [hT]; exact hcB) hoB hclB hg (hsize.trans hml.symm) (argsL := As) (rest := rest) (fun sig h => hn.trans (hlen sig h)) hstack hW (by rw [hb]; exact hdg)
    (fun vm₁ hW₁ => ⟨hf.1, hf.2, hPc (T.setVm vm₁) hT hW₁⟩) with ⟨v, vm₁, ⟨U', l2, c2, s2⟩, hW₁, X', ⟨g', mk, t, L, e1, e2, hq, h1, hL, h2, h3⟩, st⟩ | ⟨q, vm₁, ⟨U', l2, c2, s2⟩, hW₁, X', ⟨g', mk, t, L, E, ce, e1, e2, hq, hce, hcv, hcl, h1, hL, h2, h3⟩, st⟩
  · dsimp only [Pt.U, Pt.locs, Pt.cells, Pt.slots] at X' e1 e2 h1 h2 h3 st
    subst h1; subst h2; subst h3
    exact Or.inl ⟨v, (T.setVm vm₁).calling g' mk (Value.ref b :: As).toArray, t, U', L, hT, X', hL, e1, e2, hq, st⟩
  · dsimp only [Pt.U, Pt.locs, Pt.cells, Pt.slots] at X' e1 e2 h1 h2 h3 st hcl
    subst h1; subst h2; subst h3
    exact Or.inr ⟨q, (T.setVm vm₁).calling g' mk (Value.ref b :: As).toArray, t, U', L, E, ce, hT, X', hL, e1, e2, hq, hce, hcv, vx_cls hW₁ hcl, st⟩
theorem vx_runS (S : CallFix p m c cc nL s args Ts own) (hM : vx_Met l y ws rm Pc Qc XC mc ms free) (cw : CallB R s args own index y bytes maxL ret ws rm mc ms n ∧ (Cond.static y).before args s = true) (hp : PreS s H Pc As)
    (hg : g.method = m) (hn : As.length = n) (hsize : g.locals.size = nL) (hstack : g.stack = As.reverse ++ rest) (hW : 2 * g.monitorRoom + (rest.map fun v => v.category).sum ≤ 8) (hdg : decode cc g.pc = .ok (.invokestatic index, 3)) (hf : cells + mc ≤ R.cells ∧ slots + ms ≤ R.slots) :
    vx_Run p l e R s m args below meth c H locs cells slots mc ms g rest (Qc As.toArray) XC free := by
  have hK : vx_Back l R p e below s args y 3 8 (PreOf R mc ms Pc) (PostOf Qc mc ms free) (vx_Post XC mc ms free) := vx_callBack cw.1 hM hp.1
  obtain ⟨⟨-, -, -, -, -, -, hcode, hini, hy, hlen, hl⟩, hstt⟩ := cw
  obtain ⟨hx, hb, hml, ho, -⟩ := S
  intro T hT X
  rcases vx_callS X hx (bytes := bytes) (maxL := maxL) (ret := ret) ho hl hstt hini hcode hy hK hg (hsize.trans hml.symm) (argsL := As) (rest := rest) (fun sig h => hn.trans (hlen sig h)) hstack hW (by rw [hb]; exact hdg)
    (fun vm₁ hW₁ => ⟨hf.1, hf.2, hp.2 (T.setVm vm₁) hT hW₁⟩) with ⟨v, vm₁, ⟨U', l2, c2, s2⟩, hW₁, X', ⟨g', mk, t, L, e1, e2, hq, h1, hL, h2, h3⟩, st⟩ | ⟨q, vm₁, ⟨U', l2, c2, s2⟩, hW₁, X', ⟨g', mk, t, L, E, ce, e1, e2, hq, hce, hcv, hcl, h1, hL, h2, h3⟩, st⟩
  · dsimp only [Pt.U, Pt.locs, Pt.cells, Pt.slots] at X' e1 e2 h1 h2 h3 st
    subst h1; subst h2; subst h3
    exact Or.inl ⟨v, (T.setVm vm₁).calling g' mk As.toArray, t, U', L, hT, X', hL, e1, e2, hq, st⟩
  · dsimp only [Pt.U, Pt.locs, Pt.cells, Pt.slots] at X' e1 e2 h1 h2 h3 st hcl
    subst h1; subst h2; subst h3
    exact Or.inr ⟨q, (T.setVm vm₁).calling g' mk As.toArray, t, U', L, E, ce, hT, X', hL, e1, e2, hq, hce, hcv, vx_cls hW₁ hcl, st⟩
end Runs
section Rows
variable {p : Program} {l : Launch} {e : Env} {R : Room} {s : State} {m : MethodId} {args : Array Value} {below : List Frame} {meth : Method} {c : Code} {H : Heap} {locs : List Loc} {cells slots : Nat} {Q : State → Prop}
variable {mc ms : Nat} {free : Addr → Prop} {A0 A1 : Nat → Prop} {H0 : Heap} {a : Array Value} {pc : Nat} {ls : Array Slot} {st0 rest : List Value}
theorem vx_keep {st₀ t T' : State} {L : List Loc} (h0 : st₀.heap = H) (e1 : T'.heap = t.heap) (hS : va_S A0 H0 H locs) (hA : ∀ q, q < H.size → A1 q → A0 q) (hf : ∀ q, free q → A0 q) (hL : ∀ q ∈ L, free q.base) (hF : va_F A1 st₀ t) :
    H.size ≤ T'.heap.size ∧ (∀ q : Nat, q < H.size → ¬ A1 q → T'.heap[q]? = H[q]?) ∧ va_S A0 H0 T'.heap (locs ++ L) := by
  obtain ⟨hz, hk⟩ := hF
  rw [h0] at hz hk
  exact ⟨by rw [e1]; exact hz, fun q h1 h2 => by rw [e1]; exact hk q h1 h2,
    ⟨Nat.le_trans hS.1 (by rw [e1]; exact hz), fun q h1 h2 => by rw [e1, hk q (Nat.lt_of_lt_of_le h1 hS.1) (fun z => h2 (hA q (Nat.lt_of_lt_of_le h1 hS.1) z))]; exact hS.2.1 q h1 h2, fun q hq => by
      rcases List.mem_append.mp hq with h | h
      · exact hS.2.2 q h
      · exact hf _ (hL q h)⟩⟩
theorem vx_calli {S SX : Type} {post : Int32 → S → Prop} {px : SX → Prop} {B : S → State → Prop} {BX : String → SX → State → Prop} {AX : Nat → Prop} (hr : vx_Run p l e R s m args below meth c H locs cells slots mc ms (F0 m pc ls st0) rest (va_Qi post B A1 a) (vx_X px BX AX) free) (hS : va_S A0 H0 H locs) (hA : ∀ q, q < H.size → A1 q → A0 q) (hf : ∀ q, free q → A0 q) (hAX : ∀ q, q < H.size → AX q → A0 q)
    (kx : ∀ (E : String) (ce : Cell) (q9 : Addr) (u : SX) (t : State) (H1 : Heap) (locs1 : List Loc), t.heap = H1 → s.vm.Alike t.vm → px u → BX E u t → H.size ≤ H1.size → (∀ q : Nat, q < H.size → ¬ AX q → H1[q]? = H[q]?) → va_S A0 H0 H1 locs1 → H1[q9]? = some ce → ce.vm = .none → s.vm.findClass E = some ce.cls → vx_W p l e R s m args below meth c H1 locs1 (cells + mc) (slots + ms) Q (F0 m pc ls rest) q9)
    (kk : ∀ (r : Int32) (u : S) (t : State) (H1 : Heap) (locs1 : List Loc), t.heap = H1 → s.vm.Alike t.vm → post r u → B u t → H.size ≤ H1.size → (∀ q : Nat, q < H.size → ¬ A1 q → H1[q]? = H[q]?) → va_S A0 H0 H1 locs1 → W p l e R s m args below meth c H1 locs1 (cells + mc) (slots + ms) Q (F0 m (pc + 3) ls (.int r :: rest))) : W p l e R s m args below meth c H locs cells slots Q (F0 m pc ls st0) := by
  intro T hT X
  rcases hr T hT X with ⟨v, st₀, t, T', L, h0, X', hL, e1, e2, ⟨⟨r, u, hv, hp, hb⟩, hF⟩, st⟩ | ⟨q, st₀, t, T', L, E, ce, h0, X', hL, e1, e2, ⟨u, hp, hb, hF⟩, hce, hcv, hcl, st⟩
  · cases hv
    obtain ⟨k1, k2, k3⟩ := vx_keep h0 e1 hS hA hf hL hF
    obtain ⟨t2, a1, b1⟩ := kk r u t T'.heap (locs ++ L) e1.symm (by rw [← e2]; exact X'.warmed.alike) hp hb k1 k2 k3 T' rfl X'
    exact ⟨t2, st t2 a1, b1⟩
  · obtain ⟨k1, k2, k3⟩ := vx_keep h0 e1 hS hAX hf hL hF
    obtain ⟨t2, a1, b1⟩ := kx E ce q u t T'.heap (locs ++ L) e1.symm (by rw [← e2]; exact X'.warmed.alike) hp hb k1 k2 k3 (by rw [e1]; exact hce) hcv hcl T' rfl X'
    exact ⟨t2, st.trans a1, b1⟩
theorem vx_calll {S SX : Type} {post : Int64 → S → Prop} {px : SX → Prop} {B : S → State → Prop} {BX : String → SX → State → Prop} {AX : Nat → Prop} (hr : vx_Run p l e R s m args below meth c H locs cells slots mc ms (F0 m pc ls st0) rest (va_Ql post B A1 a) (vx_X px BX AX) free) (hS : va_S A0 H0 H locs) (hA : ∀ q, q < H.size → A1 q → A0 q) (hf : ∀ q, free q → A0 q) (hAX : ∀ q, q < H.size → AX q → A0 q)
    (kx : ∀ (E : String) (ce : Cell) (q9 : Addr) (u : SX) (t : State) (H1 : Heap) (locs1 : List Loc), t.heap = H1 → s.vm.Alike t.vm → px u → BX E u t → H.size ≤ H1.size → (∀ q : Nat, q < H.size → ¬ AX q → H1[q]? = H[q]?) → va_S A0 H0 H1 locs1 → H1[q9]? = some ce → ce.vm = .none → s.vm.findClass E = some ce.cls → vx_W p l e R s m args below meth c H1 locs1 (cells + mc) (slots + ms) Q (F0 m pc ls rest) q9)
    (kk : ∀ (r : Int64) (u : S) (t : State) (H1 : Heap) (locs1 : List Loc), t.heap = H1 → s.vm.Alike t.vm → post r u → B u t → H.size ≤ H1.size → (∀ q : Nat, q < H.size → ¬ A1 q → H1[q]? = H[q]?) → va_S A0 H0 H1 locs1 → W p l e R s m args below meth c H1 locs1 (cells + mc) (slots + ms) Q (F0 m (pc + 3) ls (.long r :: rest))) : W p l e R s m args below meth c H locs cells slots Q (F0 m pc ls st0) := by
  intro T hT X
  rcases hr T hT X with ⟨v, st₀, t, T', L, h0, X', hL, e1, e2, ⟨⟨r, u, hv, hp, hb⟩, hF⟩, st⟩ | ⟨q, st₀, t, T', L, E, ce, h0, X', hL, e1, e2, ⟨u, hp, hb, hF⟩, hce, hcv, hcl, st⟩
  · cases hv
    obtain ⟨k1, k2, k3⟩ := vx_keep h0 e1 hS hA hf hL hF
    obtain ⟨t2, a1, b1⟩ := kk r u t T'.heap (locs ++ L) e1.symm (by rw [← e2]; exact X'.warmed.alike) hp hb k1 k2 k3 T' rfl X'
    exact ⟨t2, st t2 a1, b1⟩
  · obtain ⟨k1, k2, k3⟩ := vx_keep h0 e1 hS hAX hf hL hF
    obtain ⟨t2, a1, b1⟩ := kx E ce q u t T'.heap (locs ++ L) e1.symm (by rw [← e2]; exact X'.warmed.alike) hp hb k1 k2 k3 (by rw [e1]; exact hce) hcv hcl T' rfl X'
    exact ⟨t2, st.trans a1, b1⟩
theorem vx_callf {S SX : Type} {post : UInt32 → S → Prop} {px : SX → Prop} {B : S → State → Prop} {BX : String → SX → State → Prop} {AX : Nat → Prop} (hr : vx_Run p l e R s m args below meth c H locs cells slots mc ms (F0 m pc ls st0) rest (va_Qf post B A1 a) (vx_X px BX AX) free) (hS : va_S A0 H0 H locs) (hA : ∀ q, q < H.size → A1 q → A0 q) (hf : ∀ q, free q → A0 q) (hAX : ∀ q, q < H.size → AX q → A0 q)
    (kx : ∀ (E : String) (ce : Cell) (q9 : Addr) (u : SX) (t : State) (H1 : Heap) (locs1 : List Loc), t.heap = H1 → s.vm.Alike t.vm → px u → BX E u t → H.size ≤ H1.size → (∀ q : Nat, q < H.size → ¬ AX q → H1[q]? = H[q]?) → va_S A0 H0 H1 locs1 → H1[q9]? = some ce → ce.vm = .none → s.vm.findClass E = some ce.cls → vx_W p l e R s m args below meth c H1 locs1 (cells + mc) (slots + ms) Q (F0 m pc ls rest) q9)
    (kk : ∀ (r : UInt32) (u : S) (t : State) (H1 : Heap) (locs1 : List Loc), t.heap = H1 → s.vm.Alike t.vm → post r u → B u t → H.size ≤ H1.size → (∀ q : Nat, q < H.size → ¬ A1 q → H1[q]? = H[q]?) → va_S A0 H0 H1 locs1 → W p l e R s m args below meth c H1 locs1 (cells + mc) (slots + ms) Q (F0 m (pc + 3) ls (.float r :: rest))) : W p l e R s m args below meth c H locs cells slots Q (F0 m pc ls st0) := by
  intro T hT X
  rcases hr T hT X with ⟨v, st₀, t, T', L, h0, X', hL, e1, e2, ⟨⟨r, u, hv, hp, hb⟩, hF⟩, st⟩ | ⟨q, st₀, t, T', L, E, ce, h0, X', hL, e1, e2, ⟨u, hp, hb, hF⟩, hce, hcv, hcl, st⟩
  · cases hv
    obtain ⟨k1, k2, k3⟩ := vx_keep h0 e1 hS hA hf hL hF
    obtain ⟨t2, a1, b1⟩ := kk r u t T'.heap (locs ++ L) e1.symm (by rw [← e2]; exact X'.warmed.alike) hp hb k1 k2 k3 T' rfl X'
    exact ⟨t2, st t2 a1, b1⟩
  · obtain ⟨k1, k2, k3⟩ := vx_keep h0 e1 hS hAX hf hL hF
    obtain ⟨t2, a1, b1⟩ := kx E ce q u t T'.heap (locs ++ L) e1.symm (by rw [← e2]; exact X'.warmed.alike) hp hb k1 k2 k3 (by rw [e1]; exact hce) hcv hcl T' rfl X'
    exact ⟨t2, st.trans a1, b1⟩
theorem vx_calld {S SX : Type} {post : UInt64 → S → Prop} {px : SX → Prop} {B : S → State → Prop} {BX : String → SX → State → Prop} {AX : Nat → Prop} (hr : vx_Run p l e R s m args below meth c H locs cells slots mc ms (F0 m pc ls st0) rest (va_Qd post B A1 a) (vx_X px BX AX) free) (hS : va_S A0 H0 H locs) (hA : ∀ q, q < H.size → A1 q → A0 q) (hf : ∀ q, free q → A0 q) (hAX : ∀ q, q < H.size → AX q → A0 q)
    (kx : ∀ (E : String) (ce : Cell) (q9 : Addr) (u : SX) (t : State) (H1 : Heap) (locs1 : List Loc), t.heap = H1 → s.vm.Alike t.vm → px u → BX E u t → H.size ≤ H1.size → (∀ q : Nat, q < H.size → ¬ AX q → H1[q]? = H[q]?) → va_S A0 H0 H1 locs1 → H1[q9]? = some ce → ce.vm = .none → s.vm.findClass E = some ce.cls → vx_W p l e R s m args below meth c H1 locs1 (cells + mc) (slots + ms) Q (F0 m pc ls rest) q9)
    (kk : ∀ (r : UInt64) (u : S) (t : State) (H1 : Heap) (locs1 : List Loc), t.heap = H1 → s.vm.Alike t.vm → post r u → B u t → H.size ≤ H1.size → (∀ q : Nat, q < H.size → ¬ A1 q → H1[q]? = H[q]?) → va_S A0 H0 H1 locs1 → W p l e R s m args below meth c H1 locs1 (cells + mc) (slots + ms) Q (F0 m (pc + 3) ls (.double r :: rest))) : W p l e R s m args below meth c H locs cells slots Q (F0 m pc ls st0) := by
  intro T hT X
  rcases hr T hT X with ⟨v, st₀, t, T', L, h0, X', hL, e1, e2, ⟨⟨r, u, hv, hp, hb⟩, hF⟩, st⟩ | ⟨q, st₀, t, T', L, E, ce, h0, X', hL, e1, e2, ⟨u, hp, hb, hF⟩, hce, hcv, hcl, st⟩
  · cases hv
    obtain ⟨k1, k2, k3⟩ := vx_keep h0 e1 hS hA hf hL hF
    obtain ⟨t2, a1, b1⟩ := kk r u t T'.heap (locs ++ L) e1.symm (by rw [← e2]; exact X'.warmed.alike) hp hb k1 k2 k3 T' rfl X'
    exact ⟨t2, st t2 a1, b1⟩
  · obtain ⟨k1, k2, k3⟩ := vx_keep h0 e1 hS hAX hf hL hF
    obtain ⟨t2, a1, b1⟩ := kx E ce q u t T'.heap (locs ++ L) e1.symm (by rw [← e2]; exact X'.warmed.alike) hp hb k1 k2 k3 (by rw [e1]; exact hce) hcv hcl T' rfl X'
    exact ⟨t2, st.trans a1, b1⟩
theorem vx_callv {S SX : Type} {post : S → Prop} {px : SX → Prop} {B : S → State → Prop} {BX : String → SX → State → Prop} {AX : Nat → Prop} (hr : vx_Run p l e R s m args below meth c H locs cells slots mc ms (F0 m pc ls st0) rest (va_Qv post B A1 a) (vx_X px BX AX) free) (hS : va_S A0 H0 H locs) (hA : ∀ q, q < H.size → A1 q → A0 q) (hf : ∀ q, free q → A0 q) (hAX : ∀ q, q < H.size → AX q → A0 q)
    (kx : ∀ (E : String) (ce : Cell) (q9 : Addr) (u : SX) (t : State) (H1 : Heap) (locs1 : List Loc), t.heap = H1 → s.vm.Alike t.vm → px u → BX E u t → H.size ≤ H1.size → (∀ q : Nat, q < H.size → ¬ AX q → H1[q]? = H[q]?) → va_S A0 H0 H1 locs1 → H1[q9]? = some ce → ce.vm = .none → s.vm.findClass E = some ce.cls → vx_W p l e R s m args below meth c H1 locs1 (cells + mc) (slots + ms) Q (F0 m pc ls rest) q9)
    (kk : ∀ (u : S) (t : State) (H1 : Heap) (locs1 : List Loc), t.heap = H1 → s.vm.Alike t.vm → post u → B u t → H.size ≤ H1.size → (∀ q : Nat, q < H.size → ¬ A1 q → H1[q]? = H[q]?) → va_S A0 H0 H1 locs1 → W p l e R s m args below meth c H1 locs1 (cells + mc) (slots + ms) Q (F0 m (pc + 3) ls (rest))) : W p l e R s m args below meth c H locs cells slots Q (F0 m pc ls st0) := by
  intro T hT X
  rcases hr T hT X with ⟨v, st₀, t, T', L, h0, X', hL, e1, e2, ⟨⟨u, hv, hp, hb⟩, hF⟩, st⟩ | ⟨q, st₀, t, T', L, E, ce, h0, X', hL, e1, e2, ⟨u, hp, hb, hF⟩, hce, hcv, hcl, st⟩
  · cases hv
    obtain ⟨k1, k2, k3⟩ := vx_keep h0 e1 hS hA hf hL hF
    obtain ⟨t2, a1, b1⟩ := kk u t T'.heap (locs ++ L) e1.symm (by rw [← e2]; exact X'.warmed.alike) hp hb k1 k2 k3 T' rfl X'
    exact ⟨t2, st t2 a1, b1⟩
  · obtain ⟨k1, k2, k3⟩ := vx_keep h0 e1 hS hAX hf hL hF
    obtain ⟨t2, a1, b1⟩ := kx E ce q u t T'.heap (locs ++ L) e1.symm (by rw [← e2]; exact X'.warmed.alike) hp hb k1 k2 k3 (by rw [e1]; exact hce) hcv hcl T' rfl X'
    exact ⟨t2, st.trans a1, b1⟩
/-- caught by the row x of this method's table; the rows ahead don't take it -/
theorem vx_catch {own name : String} {E : String} {ce : Cell} {q : Addr} (hown : s.vm.findClass own = some m.cls) (pre : List ExceptionTableEntry) (x : ExceptionTableEntry) (suf : List ExceptionTableEntry) (hsplit : c.exceptionTable.toList = pre ++ x :: suf)
    (hpass : ∀ z ∈ pre, covers z pc = false ∨ (z.catchType ≠ 0 ∧ ∃ nm : String, (Cond.classLink own z.catchType nm).before args s = true ∧ va_Nc E nm s)) (hx : covers x pc = true) (h0 : x.catchType ≠ 0)
    (hlink : (Cond.classLink own x.catchType name).before args s = true) (hcast : (Cond.castable E name).before args s = true) (hcell : H[q]? = some ce) (hv : ce.vm = .none) (hcl : s.vm.findClass E = some ce.cls)
    (kk : W p l e R s m args below meth c H locs cells slots Q (F0 m x.handlerPc ls [.ref q])) : vx_W p l e R s m args below meth c H locs cells slots Q (F0 m pc ls rest) q := by
  intro T hT X
  have hpl : e.platform.magicAccessors = ({} : Platform).magicAccessors := by rw [X.admits.platform]
  obtain ⟨c3, c4, hc3, hc4, hasg⟩ := Cond.castable_spec hcast
  cases Option.some.inj (hc3.symm.trans hcl)
  obtain ⟨c5, hc5, hcl5⟩ := Cond.classLink_spec hown hlink e.platform hpl
  cases Option.some.inj (hc4.symm.trans hc5)
  obtain ⟨vm', X', st⟩ := X.thenCaughtThrough q (g := F0 m pc ls rest) rfl (Steps.refl _) (by rw [hT]; exact hcell) (by rw [hv]; rfl) (by obtain ⟨k9, h9, -⟩ := Vm.findClass_spec hcl; exact ⟨k9, h9⟩) pre x suf hsplit
    (fun z hz => by
      rcases hpass z hz with h | ⟨hz0, nm, hl1, hn1⟩
      · exact Or.inl h
      · obtain ⟨c6, hc6, hcl6⟩ := Cond.classLink_spec hown hl1 e.platform hpl
        obtain ⟨a8, b8, h1, h2, h3⟩ := hn1
        cases Option.some.inj (h1.symm.trans hcl)
        cases Option.some.inj (h2.symm.trans hc6)
        exact Or.inr ⟨hz0, _, hcl6, h3⟩) hx (Or.inr ⟨h0, c4, hcl5, hasg⟩)
  obtain ⟨t, a1, b1⟩ := kk (T.setVm vm') hT X'
  exact ⟨t, st.trans a1, b1⟩
end Rows
section Ends
variable {p : Program} {l : Launch} {e : Env} {R : Room} {s : State} {m : MethodId} {args : Array Value} {below : List Frame} {meth : Method} {c : Code} {H : Heap} {locs : List Loc} {cells slots : Nat} {Q : State → Prop}
variable {mc ms : Nat} {free : Addr → Prop} {A0 A1 : Nat → Prop} {H0 : Heap} {a : Array Value} {ls : Array Slot} {st0 rest : List Value}
variable {Qc : Array Value → State → Outcome → State → Prop} {XC : String → State → State → Prop}
/-- what a body that may throw owes at its end -/
def vx_MQ (below : List Frame) (Qc : Array Value → State → Outcome → State → Prop) (XC : String → State → State → Prop) (a : Array Value) (s : State) (mc ms : Nat) (free : Addr → Prop) : State → Prop := fun t =>
  ∃ o, t.status = .running ∧ Ended t below o ∧ vx_Q Qc XC mc ms free a s o t
theorem vx_ret {g : JFrame} {mc ms : Nat} (k : W p l e R s m args below meth c H locs cells slots (MQ below Qc args s mc ms free) g) : W p l e R s m args below meth c H locs cells slots (vx_MQ below Qc XC args s mc ms free) g := by
  intro T hT X
  obtain ⟨t, a1, o, b1, b2, b3, b4⟩ := k T hT X
  exact ⟨t, a1, o, b1, b2, Or.inl ⟨b3, b4⟩⟩
/-- not caught here: it goes on to the caller -/
theorem vx_widen {g : JFrame} {q : Addr} {k n : Nat} (h1 : cells ≤ k) (h2 : slots ≤ n) (kk : vx_W p l e R s m args below meth c H locs k n Q g q) : vx_W p l e R s m args below meth c H locs cells slots Q g q := fun T hT X => kk T hT (stand_widen X h1 h2)
theorem vx_out {pc : Nat} {E : String} {ce : Cell} {q : Addr} {mc ms : Nat} (hout : ∀ x ∈ c.exceptionTable.toList, covers x pc = false) (hlocks : meth.locks = false) (hcell : H[q]? = some ce) (hv : ce.vm = .none) (hcl : s.vm.findClass E = some ce.cls)
    (hx : ∀ t : State, t.heap = H → s.vm.Alike t.vm → XC E s t) (hf : ∀ z ∈ locs, free z.base) (hc : cells ≤ mc) (hs : slots ≤ ms) :
    vx_W p l e R s m args below meth c H locs cells slots (vx_MQ below Qc XC args s mc ms free) (F0 m pc ls rest) q := by
  intro T hT X
  obtain ⟨st1, hrun, hend, hW, hsm⟩ := X.leaveThrown q (g := F0 m pc ls rest) rfl rfl rfl hout hlocks
  have hcell9 : (T.setFrames (.throwing q :: below)).heap[q]? = some ce := by
    show T.heap[q]? = some ce
    rw [hT]; exact hcell
  exact ⟨_, st1, .threw q, hrun, hend, Or.inr ⟨q, rfl, E, ce, locs, hx _ hT hW.alike, hcell9, hv, hcl, hW, hsm.mono hc hs, hf⟩⟩
theorem vx_frame {U : State} {k n : Nat} (h : s.sameButNew ({ U with vm := s.vm } : State) locs k n) : s.heap.size ≤ U.heap.size ∧ ∀ q : Nat, q < s.heap.size → (∀ z ∈ locs, z.base ≠ q) → U.heap[q]? = s.heap[q]? := by
  obtain ⟨-, h2, -, -, -, h6⟩ := h
  refine ⟨h2, fun q hq hz => ?_⟩
  obtain ⟨c9, e1, e2, e3, e4⟩ := h6 q _ (Array.getElem?_eq_getElem hq)
  have hs : c9.slots = (s.heap[q]).slots := Array.ext_getElem? fun i => e4 i fun hm => hz _ hm rfl
  have h9 : c9 = s.heap[q] := by
    rw [hs] at e2
    exact e2
  have e5 : U.heap[q]? = some c9 := e1
  rw [e5, h9, Array.getElem?_eq_getElem hq]
/-- the words of a throw but the four that speak of the heap -/
def vx_no (w : Cond) : Bool := decide (w ≠ .isRef (.static Bundle.tN "UNASSIGNED_STACK" Bundle.steD)) && decide (w ≠ .isRef (.static Bundle.tN "SUPPRESSED_SENTINEL" Bundle.listD)) && decide (w ≠ .laysStatic Bundle.tN "UNASSIGNED_STACK" Bundle.steD) && decide (w ≠ .laysStatic Bundle.tN "SUPPRESSED_SENTINEL" Bundle.listD)
def vx_at0 (own : String) (ic : Nat) (X : String) (names : List String) : List Cond := (Bundle.ownAtoms0 own ic X names).filter vx_no
def vx_atS (own : String) (ic : Nat) (X : String) (names : List String) : List Cond := (Bundle.ownAtoms own ic X names).filter vx_no
/-- a word that the tables alone decide, or a good one -/
def vx_ot (w : Cond) : Bool := w.onTables || goodWord w
theorem vx_ot_at {args a' : Array Value} {s U : State} {w : Cond} (hW : s.WarmedH U.vm) (hvm : s.vm = U.vm) (hg : vx_ot w = true) (h : w.before args s = true) : w.before a' U = true := by
  simp only [vx_ot, Bool.or_eq_true] at hg
  rcases hg with hg | hg
  · exact va_tabs hg hvm h
  · exact word_at hW (good_of_word hg) h
/-- a list's words: the good ones out of the method's own list, the others by premises of their own -/
theorem vx_hat {args : Array Value} {s : State} {L B : List Cond} (h1 : ∀ w ∈ L.filter goodWord, w.before args s = true) (h2 : ∀ w ∈ L.filter (fun w => !goodWord w), w ∈ B) (h3 : ∀ w ∈ B, w.before args s = true) : ∀ w ∈ L, w.before args s = true := by
  intro w hw
  by_cases g : goodWord w = true
  · exact h1 w (List.mem_filter.mpr ⟨hw, g⟩)
  · refine h3 w (h2 w (List.mem_filter.mpr ⟨hw, ?_⟩))
    show (!goodWord w) = true
    cases hgw : goodWord w
    · rfl
    · exact absurd hgw g
theorem vx_c {args : Array Value} {s : State} {w : Cond} {B : List Cond} (h : w.before args s = true) (t : ∀ w ∈ B, w.before args s = true) : ∀ w' ∈ w :: B, w'.before args s = true := fun w' h' => (List.mem_cons.mp h').elim (fun e => by rw [e]; exact h) (t w')
theorem vx_n {args : Array Value} {s : State} : ∀ w ∈ ([] : List Cond), w.before args s = true := fun _ h => nomatch h
theorem vx_own {args : Array Value} {s : State} {L : List Cond} (h1 : ∀ w ∈ L.filter vx_no, w.before args s = true)
    (hU : (Cond.isRef (.static Bundle.tN "UNASSIGNED_STACK" Bundle.steD)).before args s = true) (hN : (Cond.isRef (.static Bundle.tN "SUPPRESSED_SENTINEL" Bundle.listD)).before args s = true)
    (lU : (Cond.laysStatic Bundle.tN "UNASSIGNED_STACK" Bundle.steD).before args s = true) (lN : (Cond.laysStatic Bundle.tN "SUPPRESSED_SENTINEL" Bundle.listD).before args s = true) : ∀ w ∈ L, w.before args s = true := by
  intro w hw
  by_cases e1 : w = .isRef (.static Bundle.tN "UNASSIGNED_STACK" Bundle.steD)
  · rw [e1]; exact hU
  · by_cases e2 : w = .isRef (.static Bundle.tN "SUPPRESSED_SENTINEL" Bundle.listD)
    · rw [e2]; exact hN
    · by_cases e3 : w = .laysStatic Bundle.tN "UNASSIGNED_STACK" Bundle.steD
      · rw [e3]; exact lU
      · by_cases e4 : w = .laysStatic Bundle.tN "SUPPRESSED_SENTINEL" Bundle.listD
        · rw [e4]; exact lN
        · exact h1 w (List.mem_filter.mpr ⟨hw, by unfold vx_no; rw [decide_eq_true e1, decide_eq_true e2, decide_eq_true e3, decide_eq_true e4]; rfl⟩)
/-- where a static field lies, its class's statics cell in H -/
def vx_L (C n d : String) (A : Nat → Prop) (U : State) (H : Heap) : Prop := ∃ (c : ClassId) (k : Class) (i : Nat) (f : Field) (a : Nat) (cell : Cell), U.vm.findClass C = some c ∧ U.fieldFound? C n d = some (c, k, i, f) ∧ f.isStatic = true ∧ k.statics = some a ∧ H[a]? = some cell ∧ cell.vm.isStatics = true ∧ cell.cls = c ∧ f.slot < cell.slots.size ∧ k.staticTypes[f.slot]? = some f.type ∧ ¬ A a
theorem vx_L.moved {C n d : String} {A : Nat → Prop} {u U : State} {H : Heap} (hvm : u.vm.Alike U.vm) (h : vx_L C n d A u H) : vx_L C n d A U H := by
  obtain ⟨c, k, i, f, a, cell, h1, h2, h3, h4, h5, h6, h7, h8, h9, h10⟩ := h
  obtain ⟨k', hi', he⟩ := State.fieldFound?_setVm hvm h2
  exact ⟨c, k', i, f, a, cell, by rw [hvm.findClass]; exact h1, hi', h3, by rw [he]; exact h4, h5, h6, h7, h8, by rw [he]; exact h9, h10⟩
theorem vx_L.kept {C n d : String} {A : Nat → Prop} {U : State} {H H1 : Heap} (h : vx_L C n d A U H) (hq : ∀ a : Nat, a < H.size → ¬ A a → H1[a]? = H[a]?) : vx_L C n d A U H1 := by
  obtain ⟨c, k, i, f, a, cell, h1, h2, h3, h4, h5, h6, h7, h8, h9, h10⟩ := h
  exact ⟨c, k, i, f, a, cell, h1, h2, h3, h4, by rw [hq a (Array.getElem?_eq_some_iff.mp h5).1 h10]; exact h5, h6, h7, h8, h9, h10⟩
theorem vx_L.narrow {C n d : String} {A B : Nat → Prop} {U : State} {H : Heap} (h : vx_L C n d A U H) (hAB : ∀ q, B q → A q) : vx_L C n d B U H := by
  obtain ⟨c, k, i, f, a, cell, h1, h2, h3, h4, h5, h6, h7, h8, h9, h10⟩ := h
  exact ⟨c, k, i, f, a, cell, h1, h2, h3, h4, h5, h6, h7, h8, h9, fun z => h10 (hAB _ z)⟩
theorem vx_L.word {C n d : String} {A : Nat → Prop} {s : State} {args : Array Value} (h : vx_L C n d A s s.heap) : (Cond.laysStatic C n d).before args s = true := by
  obtain ⟨c, k, i, f, a, cell, h1, h2, h3, h4, h5, h6, h7, h8, h9, -⟩ := h
  show (Cond.laysStatic C n d).holds args s none s [] = true
  exact Cond.laysStatic_of h1 h2 h3 h4 h5 h6 h7 h8 h9
/-- .. and what it holds: null or some reference -/
def vx_Zq (C n d : String) (A : Nat → Prop) (U : State) (H : Heap) : Prop := va_Zq C n d A U H ∧ vx_L C n d A U H
theorem vx_Zq.moved {C n d : String} {A : Nat → Prop} {u U : State} {H : Heap} (hvm : u.vm.Alike U.vm) (h : vx_Zq C n d A u H) : vx_Zq C n d A U H := ⟨va_Zq.moved hvm h.1, vx_L.moved hvm h.2⟩
theorem vx_Zq.kept {C n d : String} {A : Nat → Prop} {U : State} {H H1 : Heap} (h : vx_Zq C n d A U H) (hq : ∀ a : Nat, a < H.size → ¬ A a → H1[a]? = H[a]?) : vx_Zq C n d A U H1 := ⟨va_Zq.kept h.1 hq, vx_L.kept h.2 hq⟩
theorem vx_Zq.narrow {C n d : String} {A B : Nat → Prop} {U : State} {H : Heap} (h : vx_Zq C n d A U H) (hAB : ∀ q, B q → A q) : vx_Zq C n d B U H := ⟨va_Zq.narrow h.1 hAB, vx_L.narrow h.2 hAB⟩
theorem vx_Zqof {args : Array Value} {s : State} {C n d : String} {A : Nat → Prop} (hl : (Cond.laysStatic C n d).before args s = true) (hini : (Cond.initialized C).before args s = true) (h : (Cond.isRef (.static C n d)).before args s = true) (hA : ∀ a : Nat, a < s.heap.size → ¬ A a) : vx_Zq C n d A s s.heap := by
  refine ⟨va_Zqof hl hini h hA, ?_⟩
  obtain ⟨c, k, i, f, a, cell, h1, h2, h3, h4, h5, h6, h7, h8, h9⟩ := Cond.laysStatic_spec hl
  exact ⟨c, k, i, f, a, cell, h1, h2, h3, h4, h5, h6, h7, h8, h9, hA a (Array.getElem?_eq_some_iff.mp h5).1⟩
theorem vx_isRef {C n d : String} {v : Value} {A : Nat → Prop} {s : State} {args : Array Value} (h : va_Z C n d v A s s.heap) (hv : v.isRef = true) : (Cond.isRef (.static C n d)).before args s = true := by
  obtain ⟨cf, kf, fi, f, a, cell, h1, h2, h3, h4, h5, h6, h7, -⟩ := h
  have he : (Term.static C n d).eval args s none [] s = some v := by
    simp [Term.eval, State.fieldNamed?, h1, h2, h4, h5, h6, h7]
  simp only [Cond.before, Cond.holds, Cond.value, he]
  cases v <;> simp_all [Value.isRef]
theorem vx_isRefq {C n d : String} {A : Nat → Prop} {s : State} {args : Array Value} (h : va_Zq C n d A s s.heap) : (Cond.isRef (.static C n d)).before args s = true := by
  rcases h with h | ⟨t, h⟩
  · exact vx_isRef h rfl
  · exact vx_isRef h rfl
/-- the same frame, seen from here: as if the method were called anew in this heap -/
theorem vx_rebase {T : State} (X : Stand p l e R s m args below meth c T locs cells slots) {R' : Room} (hf : R'.frames ≤ R.frames) (hl : R'.locals ≤ R.locals) (hc : cells + R'.cells ≤ R.cells) (hs : slots + R'.slots ≤ R.slots) :
    Stand p l e R' ((T.setVm s.vm).setFrames (.invoking m args :: below)) m args below meth c T [] 0 0 := by
  have htop : (T.setVm s.vm).topJava?.isSome := X.here.top
  have hF : ((T.setVm s.vm).setFrames (.invoking m args :: below)).frames = .invoking m args :: below := State.frames_setFrames _ (State.cur_lt_of_top htop)
  obtain ⟨g₀, hg0⟩ := Option.isSome_iff_exists.mp htop
  obtain ⟨r, hr⟩ := State.topJava?_eq_some.mp hg0
  have hl9 : e.platform.stackLimits (T.setVm s.vm).me = e.platform.stackLimits s.me := X.limits
  have hb9 : (T.setVm s.vm).me.stackBytes = s.me.stackBytes := X.bytes
  refine ⟨X.admits, X.cas, X.clock, hF, ?_, X.hears, X.method, X.code, X.here, X.tail, X.warmed, ?_, ?_, ?_⟩
  · have h := X.room
    have hU : ((T.setVm s.vm).setFrames (.invoking m args :: below)).localsInUse = s.localsInUse := by
      rw [State.localsInUse_invoking hF (meth := meth) (c := c) X.method X.code, State.localsInUse_invoking X.frames X.method X.code]
    simp only [State.hasRoom, Bool.and_eq_true, decide_eq_true_eq] at h ⊢
    obtain ⟨⟨⟨⟨h1, h2, h3, h4, h5, h6⟩, h7⟩, h8⟩, h9⟩ := h
    rw [X.frames, List.length_cons] at h2 h3
    have q1 := X.heapSize
    have q2 := X.used
    simp only [hF, hU, List.length_cons, State.stackLimits_setFrames, State.stackBytes_setFrames, hl9, hb9]
    refine ⟨⟨⟨⟨by omega, by omega, by omega, by omega, by omega, h6⟩, ?_⟩, ?_⟩, X.book⟩
    · show T.heap.size + R'.cells ≤ e.platform.maxCells
      omega
    · show T.slotsUsed + R'.slots ≤ e.platform.maxSlots
      omega
  · rw [State.stackLimits_setFrames]; rfl
  · rw [State.stackBytes_setFrames]; rfl
  · refine ⟨?_, Nat.le_refl _, Nat.le_refl _, ?_, ?_, fun a c9 h9 => ⟨c9, h9, rfl, rfl, fun _ _ => rfl⟩⟩
    · obtain ⟨t, ht, -⟩ := State.frames_cons hr
      show T.setVm s.vm = { ((T.setVm s.vm).setFrames (.invoking m args :: below)).setFrames (T.setVm s.vm).frames with heap := T.heap, slotsUsed := T.slotsUsed }
      rw [State.setFrames_setFrames, State.setFrames_self ht]
      rfl
    · show T.slotsUsed = T.slotsUsed + ((T.heap.toList.drop T.heap.size).map (·.slots.size)).sum
      rw [List.drop_eq_nil_of_le (Nat.le_of_eq Array.length_toList)]
      rfl
    · show ((T.heap.toList.drop T.heap.size).map (·.slots.size)).sum ≤ 0
      rw [List.drop_eq_nil_of_le (Nat.le_of_eq Array.length_toList)]
      exact Nat.le_refl _
/-- 'throw new E()': new; dup; invokespecial; athrow -/
theorem vx_throw0 {cc : ByteArray} {pc : Nat} (hexec : p.tables.exec = Jvm.exec) (hb : c.code = cc) (hl : l.stackTraces = false) {own cls : String} {names : List String} {ik ic mc ms : Nat} {A : Nat → Prop}
    (hown : s.vm.findClass own = some m.cls) (hcls : Bundle.fit cls = true) (hnames : ∀ n ∈ names, Bundle.fit n = true)
    (hk : (Cond.classLink own ik cls).before args s = true) (hini : (Cond.initialized cls).before args s = true) (hat : ∀ w ∈ vx_at0 own ic cls names, w.before args s = true)
    (hgood : ∀ w ∈ Cond.classLink own ik cls :: Cond.initialized cls :: vx_at0 own ic cls names, vx_ot w = true)
    (hU : vx_Zq Bundle.tN "UNASSIGNED_STACK" Bundle.steD A s s.heap) (hN : vx_Zq Bundle.tN "SUPPRESSED_SENTINEL" Bundle.listD A s s.heap) (hS : va_S A s.heap H locs) (hsize : ls.size = c.maxLocals)
    (d0 : decode cc pc = .ok (.new ik, 3)) (d3 : decode cc (pc + 3) = .ok (.dup, 1)) (d4 : decode cc (pc + 4) = .ok (.invokespecial ic, 3)) (d7 : decode cc (pc + 7) = .ok (.athrow, 1))
    (hout : ∀ x ∈ c.exceptionTable.toList, covers x (pc + 7) = false)
    (hRframes : names.length + 3 < R.frames) (hRlocals : (rest.map fun v => v.category).sum + (13 * (names.length + 1) + 42) ≤ R.locals) (hRcells : cells + 1 ≤ R.cells) (hRslots : slots + 6 ≤ R.slots) (hlocks : meth.locks = false)
    (hx : ∀ t : State, s.vm.Alike t.vm → H.size ≤ t.heap.size → (∀ q : Nat, q < H.size → t.heap[q]? = H[q]?) → XC cls s t)
    (hf : ∀ z ∈ locs, free z.base) (hc : cells + 1 ≤ mc) (hs : slots + 6 ≤ ms) :
    W p l e R s m args below meth c H locs cells slots (vx_MQ below Qc XC args s mc ms free) (F0 m pc ls rest) := by
  intro T hT X
  have htr : e.platform.stackTraces = false := (show e.platform.stackTraces = l.stackTraces by rw [X.admits.platform]).trans hl
  have Y := vx_rebase X (R' := { frames := R.frames, locals := R.locals, cells := 1, slots := 6 }) (Nat.le_refl _) (Nat.le_refl _) hRcells hRslots
  obtain ⟨s', hA⟩ : ∃ z, z = (T.setVm s.vm).setFrames (.invoking m args :: below) := ⟨_, rfl⟩
  rw [← hA] at Y
  have hvm : s'.vm = s.vm := by rw [hA]; rfl
  have hhp : s'.heap = H := by rw [hA]; exact hT
  have hW0 : s.WarmedH s'.vm := by rw [hvm]; exact State.WarmedH.refl s
  have hat' : ∀ w ∈ vx_at0 own ic cls names, w.before args s' = true := fun w hw => vx_ot_at hW0 hvm.symm (hgood w (List.mem_cons_of_mem _ (List.mem_cons_of_mem _ hw))) (hat w hw)
  have hk' : (Cond.classLink own ik cls).before args s' = true := vx_ot_at hW0 hvm.symm (hgood _ List.mem_cons_self) hk
  have hini' : (Cond.initialized cls).before args s' = true := vx_ot_at hW0 hvm.symm (hgood _ (List.mem_cons_of_mem _ List.mem_cons_self)) hini
  have hU' : vx_Zq Bundle.tN "UNASSIGNED_STACK" Bundle.steD A s' s'.heap := by rw [hhp]; exact vx_Zq.moved hW0.alike (hU.kept hS.2.1)
  have hN' : vx_Zq Bundle.tN "SUPPRESSED_SENTINEL" Bundle.listD A s' s'.heap := by rw [hhp]; exact vx_Zq.moved hW0.alike (hN.kept hS.2.1)
  have h : ∀ w ∈ Bundle.ownAtoms0 own ic cls names, w.before args s' = true := vx_own hat' (vx_isRefq hU'.1) (vx_isRefq hN'.1) hU'.2.word hN'.2.word
  have hown' : s'.vm.findClass own = some m.cls := by rw [hvm]; exact hown
  have hins : (Cond.instantiable cls 6).before args s' = true := h _ (by simp [Bundle.ownAtoms0])
  obtain ⟨vm₁, cX, kX, hfX, hkX, -, -, X₁, st1⟩ := Y.newCold hexec (own := own) (C := cls) (index := ik) (n := 6) hown' hk' hins hini'
    (g := F0 m pc ls rest) rfl (by rw [hb]; exact d0) (Nat.le_refl _) (Nat.le_refl _)
  generalize hT1 : (T.setVm vm₁).pushCell { cls := cX, slots := kX.instanceTypes.map defaultValue, vm := .none } = T1 at X₁ st1
  have hcat : (Value.ref T.heap.size).category = 1 := rfl
  have hcellA : T1.heap[T.heap.size]? = some (freshCell cX kX) := by rw [← hT1]; exact State.heap_pushCell_size _ _
  have d3' : decode c.code (pc + 3) = .ok (.dup, 1) := by rw [hb]; exact d3
  obtain ⟨U, hsteps, hrun, hend, hW, hsame, ce, hce, hO⟩ := X₁.ctorThrow0 hexec htr (own := own) (cls := cls) (names := names) (ic := ic) hown' hcls hnames h (fun x hx => nomatch hx) hfX hkX hcellA (by rw [hhp, hT]; exact Nat.le_refl _)
    (g := { method := m, pc := pc + 4, locals := ls, stack := .ref T.heap.size :: .ref T.heap.size :: rest, locked := none }) rfl hsize rfl rfl (rest := rest) rfl
    (by rw [hb]; exact d4) (by rw [hb]; exact d7) hout hRframes (by simp only [List.map_cons, List.sum_cons, hcat]; omega) hlocks
  obtain ⟨f1, f2⟩ := vx_frame hsame
  rw [hhp] at f1 f2
  have hWs : s.WarmedH U.vm := State.WarmedH.trans hW0 hW
  have hcl : s.vm.findClass cls = some ce.cls := by
    have h9 := hO.cls
    rw [hvm] at h9
    exact h9
  have hall : s.sameButNew ({ U with vm := s.vm } : State) locs mc ms := by
    subst hA
    obtain ⟨e1, e2⟩ := hsame
    rw [State.setFrames_setFrames] at e1
    have h2 : (T.setVm s.vm).sameButNew ({ U with vm := s.vm } : State) [] (0 + 1) (0 + 6) := ⟨e1, e2⟩
    have h3 := X.same.trans h2
    rw [List.append_nil] at h3
    exact h3.mono hc hs
  refine ⟨U, ?_, .threw T.heap.size, hrun, hend, Or.inr ⟨T.heap.size, rfl, cls, ce, locs, hx U hWs.alike f1 (fun q hq => f2 q hq (fun z hz => nomatch hz)), hce, hO.vm, hcl, hWs, hall, hf⟩⟩
  refine st1 _ ?_
  show Steps p.tables e below (T1.setTop { method := m, pc := pc + 3, locals := ls, stack := .ref T.heap.size :: rest, locked := none }) _
  jvm_step X₁.here [X₁.here.top, hexec, d3', Value.category]
  exact hsteps
/-- 'throw new E("text")': new; dup; ldc; invokespecial; athrow -/
theorem vx_throwS {cc : ByteArray} {pc : Nat} (hexec : p.tables.exec = Jvm.exec) (hb : c.code = cc) (hl : l.stackTraces = false) {own cls text : String} {names : List String} {ik is ic mc ms sa : Nat} {A : Nat → Prop}
    (hown : s.vm.findClass own = some m.cls) (hcls : Bundle.fit cls = true) (hnames : ∀ n ∈ names, Bundle.fit n = true)
    (hk : (Cond.classLink own ik cls).before args s = true) (hini : (Cond.initialized cls).before args s = true) (hstr : vk_R own is text sa s) (hat : ∀ w ∈ vx_atS own ic cls names, w.before args s = true)
    (hgood : ∀ w ∈ Cond.classLink own ik cls :: Cond.initialized cls :: vx_atS own ic cls names, vx_ot w = true)
    (hU : vx_Zq Bundle.tN "UNASSIGNED_STACK" Bundle.steD A s s.heap) (hN : vx_Zq Bundle.tN "SUPPRESSED_SENTINEL" Bundle.listD A s s.heap) (hS : va_S A s.heap H locs) (hsize : ls.size = c.maxLocals)
    (d0 : decode cc pc = .ok (.new ik, 3)) (d3 : decode cc (pc + 3) = .ok (.dup, 1)) (d4 : decode cc (pc + 4) = .ok (.ldc is, 2)) (d6 : decode cc (pc + 6) = .ok (.invokespecial ic, 3)) (d9 : decode cc (pc + 9) = .ok (.athrow, 1))
    (hout : ∀ x ∈ c.exceptionTable.toList, covers x (pc + 9) = false)
    (hRframes : names.length + 3 < R.frames) (hRlocals : (rest.map fun v => v.category).sum + (13 * (names.length + 1) + 43) ≤ R.locals) (hRcells : cells + 1 ≤ R.cells) (hRslots : slots + 6 ≤ R.slots) (hlocks : meth.locks = false)
    (hx : ∀ t : State, s.vm.Alike t.vm → H.size ≤ t.heap.size → (∀ q : Nat, q < H.size → t.heap[q]? = H[q]?) → XC cls s t)
    (hf : ∀ z ∈ locs, free z.base) (hc : cells + 1 ≤ mc) (hs : slots + 6 ≤ ms) :
    W p l e R s m args below meth c H locs cells slots (vx_MQ below Qc XC args s mc ms free) (F0 m pc ls rest) := by
  intro T hT X
  have htr : e.platform.stackTraces = false := (show e.platform.stackTraces = l.stackTraces by rw [X.admits.platform]).trans hl
  have Y := vx_rebase X (R' := { frames := R.frames, locals := R.locals, cells := 1, slots := 6 }) (Nat.le_refl _) (Nat.le_refl _) hRcells hRslots
  obtain ⟨s', hA⟩ : ∃ z, z = (T.setVm s.vm).setFrames (.invoking m args :: below) := ⟨_, rfl⟩
  rw [← hA] at Y
  have hvm : s'.vm = s.vm := by rw [hA]; rfl
  have hhp : s'.heap = H := by rw [hA]; exact hT
  have hW0 : s.WarmedH s'.vm := by rw [hvm]; exact State.WarmedH.refl s
  have hat' : ∀ w ∈ vx_atS own ic cls names, w.before args s' = true := fun w hw => vx_ot_at hW0 hvm.symm (hgood w (List.mem_cons_of_mem _ (List.mem_cons_of_mem _ hw))) (hat w hw)
  have hk' : (Cond.classLink own ik cls).before args s' = true := vx_ot_at hW0 hvm.symm (hgood _ List.mem_cons_self) hk
  have hini' : (Cond.initialized cls).before args s' = true := vx_ot_at hW0 hvm.symm (hgood _ (List.mem_cons_of_mem _ List.mem_cons_self)) hini
  have hU' : vx_Zq Bundle.tN "UNASSIGNED_STACK" Bundle.steD A s' s'.heap := by rw [hhp]; exact vx_Zq.moved hW0.alike (hU.kept hS.2.1)
  have hN' : vx_Zq Bundle.tN "SUPPRESSED_SENTINEL" Bundle.listD A s' s'.heap := by rw [hhp]; exact vx_Zq.moved hW0.alike (hN.kept hS.2.1)
  have h : ∀ w ∈ Bundle.ownAtoms own ic cls names, w.before args s' = true := vx_own hat' (vx_isRefq hU'.1) (vx_isRefq hN'.1) hU'.2.word hN'.2.word
  have hown' : s'.vm.findClass own = some m.cls := by rw [hvm]; exact hown
  have hins : (Cond.instantiable cls 6).before args s' = true := h _ (by simp [Bundle.ownAtoms])
  obtain ⟨vm₁, cX, kX, hfX, hkX, -, -, X₁, st1⟩ := Y.newCold hexec (own := own) (C := cls) (index := ik) (n := 6) hown' hk' hins hini'
    (g := F0 m pc ls rest) rfl (by rw [hb]; exact d0) (Nat.le_refl _) (Nat.le_refl _)
  generalize hT1 : (T.setVm vm₁).pushCell { cls := cX, slots := kX.instanceTypes.map defaultValue, vm := .none } = T1 at X₁ st1
  have hcat : (Value.ref T.heap.size).category = 1 := rfl
  have hcellA : T1.heap[T.heap.size]? = some (freshCell cX kX) := by rw [← hT1]; exact State.heap_pushCell_size _ _
  have d3' : decode c.code (pc + 3) = .ok (.dup, 1) := by rw [hb]; exact d3
  have d4' : decode c.code (pc + 4) = .ok (.ldc is, 2) := by rw [hb]; exact d4
  have hstr' : vk_R own is text sa s' := vk_R.warm hW0 hstr
  obtain ⟨U, hsteps, hrun, hend, hW, hsame, ce, hce, hO⟩ := X₁.ctorThrowS hexec htr (own := own) (cls := cls) (names := names) (ic := ic) hown' hcls hnames h (fun x hx => nomatch hx) hfX hkX hcellA (by rw [hhp, hT]; exact Nat.le_refl _) (msg := .ref sa) rfl
    (g := { method := m, pc := pc + 6, locals := ls, stack := .ref sa :: .ref T.heap.size :: .ref T.heap.size :: rest, locked := none }) rfl hsize rfl rfl (rest := rest) rfl
    (by rw [hb]; exact d6) (by rw [hb]; exact d9) hout hRframes (by simp only [List.map_cons, List.sum_cons, hcat]; omega) hlocks
  obtain ⟨f1, f2⟩ := vx_frame hsame
  rw [hhp] at f1 f2
  have hWs : s.WarmedH U.vm := State.WarmedH.trans hW0 hW
  have hcl : s.vm.findClass cls = some ce.cls := by
    have h9 := hO.cls
    rw [hvm] at h9
    exact h9
  have hall : s.sameButNew ({ U with vm := s.vm } : State) locs mc ms := by
    subst hA
    obtain ⟨e1, e2⟩ := hsame
    rw [State.setFrames_setFrames] at e1
    have h2 : (T.setVm s.vm).sameButNew ({ U with vm := s.vm } : State) [] (0 + 1) (0 + 6) := ⟨e1, e2⟩
    have h3 := X.same.trans h2
    rw [List.append_nil] at h3
    exact h3.mono hc hs
  refine ⟨U, ?_, .threw T.heap.size, hrun, hend, Or.inr ⟨T.heap.size, rfl, cls, ce, locs, hx U hWs.alike f1 (fun q hq => f2 q hq (fun z hz => nomatch hz)), hce, hO.vm, hcl, hWs, hall, hf⟩⟩
  refine st1 _ ?_
  show Steps p.tables e below (T1.setTop { method := m, pc := pc + 3, locals := ls, stack := .ref T.heap.size :: rest, locked := none }) _
  jvm_step X₁.here [X₁.here.top, hexec, d3', Value.category]
  exact X₁.ldcString hexec (own := own) (text := text) (index := is) (a := sa) hown' hstr'.1 hstr'.2
    (g := { method := m, pc := pc + 4, locals := ls, stack := .ref T.heap.size :: .ref T.heap.size :: rest, locked := none }) rfl d4' _ hsteps
/-- 'throw new E("text")', the text by a wide index -/
theorem vx_throwSW {cc : ByteArray} {pc : Nat} (hexec : p.tables.exec = Jvm.exec) (hb : c.code = cc) (hl : l.stackTraces = false) {own cls text : String} {names : List String} {ik is ic mc ms sa : Nat} {A : Nat → Prop}
    (hown : s.vm.findClass own = some m.cls) (hcls : Bundle.fit cls = true) (hnames : ∀ n ∈ names, Bundle.fit n = true)
    (hk : (Cond.classLink own ik cls).before args s = true) (hini : (Cond.initialized cls).before args s = true) (hstr : vk_R own is text sa s) (hat : ∀ w ∈ vx_atS own ic cls names, w.before args s = true)
    (hgood : ∀ w ∈ Cond.classLink own ik cls :: Cond.initialized cls :: vx_atS own ic cls names, vx_ot w = true)
    (hU : vx_Zq Bundle.tN "UNASSIGNED_STACK" Bundle.steD A s s.heap) (hN : vx_Zq Bundle.tN "SUPPRESSED_SENTINEL" Bundle.listD A s s.heap) (hS : va_S A s.heap H locs) (hsize : ls.size = c.maxLocals)
    (d0 : decode cc pc = .ok (.new ik, 3)) (d3 : decode cc (pc + 3) = .ok (.dup, 1)) (d4 : decode cc (pc + 4) = .ok (.ldc_w is, 3)) (d7 : decode cc (pc + 7) = .ok (.invokespecial ic, 3)) (d10 : decode cc (pc + 10) = .ok (.athrow, 1))
    (hout : ∀ x ∈ c.exceptionTable.toList, covers x (pc + 10) = false)
    (hRframes : names.length + 3 < R.frames) (hRlocals : (rest.map fun v => v.category).sum + (13 * (names.length + 1) + 43) ≤ R.locals) (hRcells : cells + 1 ≤ R.cells) (hRslots : slots + 6 ≤ R.slots) (hlocks : meth.locks = false)
    (hx : ∀ t : State, s.vm.Alike t.vm → H.size ≤ t.heap.size → (∀ q : Nat, q < H.size → t.heap[q]? = H[q]?) → XC cls s t)
    (hf : ∀ z ∈ locs, free z.base) (hc : cells + 1 ≤ mc) (hs : slots + 6 ≤ ms) :
    W p l e R s m args below meth c H locs cells slots (vx_MQ below Qc XC args s mc ms free) (F0 m pc ls rest) := by
  intro T hT X
  have htr : e.platform.stackTraces = false := (show e.platform.stackTraces = l.stackTraces by rw [X.admits.platform]).trans hl
  have Y := vx_rebase X (R' := { frames := R.frames, locals := R.locals, cells := 1, slots := 6 }) (Nat.le_refl _) (Nat.le_refl _) hRcells hRslots
  obtain ⟨s', hA⟩ : ∃ z, z = (T.setVm s.vm).setFrames (.invoking m args :: below) := ⟨_, rfl⟩
  rw [← hA] at Y
  have hvm : s'.vm = s.vm := by rw [hA]; rfl
  have hhp : s'.heap = H := by rw [hA]; exact hT
  have hW0 : s.WarmedH s'.vm := by rw [hvm]; exact State.WarmedH.refl s
  have hat' : ∀ w ∈ vx_atS own ic cls names, w.before args s' = true := fun w hw => vx_ot_at hW0 hvm.symm (hgood w (List.mem_cons_of_mem _ (List.mem_cons_of_mem _ hw))) (hat w hw)
  have hk' : (Cond.classLink own ik cls).before args s' = true := vx_ot_at hW0 hvm.symm (hgood _ List.mem_cons_self) hk
  have hini' : (Cond.initialized cls).before args s' = true := vx_ot_at hW0 hvm.symm (hgood _ (List.mem_cons_of_mem _ List.mem_cons_self)) hini
  have hU' : vx_Zq Bundle.tN "UNASSIGNED_STACK" Bundle.steD A s' s'.heap := by rw [hhp]; exact vx_Zq.moved hW0.alike (hU.kept hS.2.1)
  have hN' : vx_Zq Bundle.tN "SUPPRESSED_SENTINEL" Bundle.listD A s' s'.heap := by rw [hhp]; exact vx_Zq.moved hW0.alike (hN.kept hS.2.1)
  have h : ∀ w ∈ Bundle.ownAtoms own ic cls names, w.before args s' = true := vx_own hat' (vx_isRefq hU'.1) (vx_isRefq hN'.1) hU'.2.word hN'.2.word
  have hown' : s'.vm.findClass own = some m.cls := by rw [hvm]; exact hown
  have hins : (Cond.instantiable cls 6).before args s' = true := h _ (by simp [Bundle.ownAtoms])
  obtain ⟨vm₁, cX, kX, hfX, hkX, -, -, X₁, st1⟩ := Y.newCold hexec (own := own) (C := cls) (index := ik) (n := 6) hown' hk' hins hini'
    (g := F0 m pc ls rest) rfl (by rw [hb]; exact d0) (Nat.le_refl _) (Nat.le_refl _)
  generalize hT1 : (T.setVm vm₁).pushCell { cls := cX, slots := kX.instanceTypes.map defaultValue, vm := .none } = T1 at X₁ st1
  have hcat : (Value.ref T.heap.size).category = 1 := rfl
  have hcellA : T1.heap[T.heap.size]? = some (freshCell cX kX) := by rw [← hT1]; exact State.heap_pushCell_size _ _
  have d3' : decode c.code (pc + 3) = .ok (.dup, 1) := by rw [hb]; exact d3
  have d4' : decode c.code (pc + 4) = .ok (.ldc_w is, 3) := by rw [hb]; exact d4
  have hstr' : vk_R own is text sa s' := vk_R.warm hW0 hstr
  obtain ⟨U, hsteps, hrun, hend, hW, hsame, ce, hce, hO⟩ := X₁.ctorThrowS hexec htr (own := own) (cls := cls) (names := names) (ic := ic) hown' hcls hnames h (fun x hx => nomatch hx) hfX hkX hcellA (by rw [hhp, hT]; exact Nat.le_refl _) (msg := .ref sa) rfl
    (g := { method := m, pc := pc + 7, locals := ls, stack := .ref sa :: .ref T.heap.size :: .ref T.heap.size :: rest, locked := none }) rfl hsize rfl rfl (rest := rest) rfl
    (by rw [hb]; exact d7) (by rw [hb]; exact d10) hout hRframes (by simp only [List.map_cons, List.sum_cons, hcat]; omega) hlocks
  obtain ⟨f1, f2⟩ := vx_frame hsame
  rw [hhp] at f1 f2
  have hWs : s.WarmedH U.vm := State.WarmedH.trans hW0 hW
  have hcl : s.vm.findClass cls = some ce.cls := by
    have h9 := hO.cls
    rw [hvm] at h9
    exact h9
  have hall : s.sameButNew ({ U with vm := s.vm } : State) locs mc ms := by
    subst hA
    obtain ⟨e1, e2⟩ := hsame
    rw [State.setFrames_setFrames] at e1
    have h2 : (T.setVm s.vm).sameButNew ({ U with vm := s.vm } : State) [] (0 + 1) (0 + 6) := ⟨e1, e2⟩
    have h3 := X.same.trans h2
    rw [List.append_nil] at h3
    exact h3.mono hc hs
  refine ⟨U, ?_, .threw T.heap.size, hrun, hend, Or.inr ⟨T.heap.size, rfl, cls, ce, locs, hx U hWs.alike f1 (fun q hq => f2 q hq (fun z hz => nomatch hz)), hce, hO.vm, hcl, hWs, hall, hf⟩⟩
  refine st1 _ ?_
  show Steps p.tables e below (T1.setTop { method := m, pc := pc + 3, locals := ls, stack := .ref T.heap.size :: rest, locked := none }) _
  jvm_step X₁.here [X₁.here.top, hexec, d3', Value.category]
  exact X₁.ldcStringW hexec (own := own) (text := text) (index := is) (a := sa) hown' hstr'.1 hstr'.2
    (g := { method := m, pc := pc + 4, locals := ls, stack := .ref T.heap.size :: .ref T.heap.size :: rest, locked := none }) rfl d4' _ hsteps
end Ends
section Bodies
variable {l : Launch}
theorem vx_ofW {y : MethodName} {ws ws' : List Cond} {rm : Room} {Pc : Array Value → State → Prop} {Qc : Array Value → State → Outcome → State → Prop} {XC : String → State → State → Prop} {mc ms : Nat} {free : Addr → Prop} {cc : ByteArray} {maxL : Nat} {ret : Option FieldType}
    (hy : plainName y.cls = true) (hw : ws = Cond.code y cc maxL ret :: ws')
    (body : ∀ p e s m args below meth c s₁, BodyLoose p l y (headSpec ws rm) cc maxL ret e s m args below meth c s₁ → c.maxLocals = maxL → (∀ x ∈ c.exceptionTable.toList, False) → Pc args s →
      W p l e (headSpec ws rm).room s m args below meth c s.heap [] 0 0 (vx_MQ below Qc XC args s mc ms free) (entryFrame m args maxL)) : vx_Met l y ws rm Pc Qc XC mc ms free := by
  refine MetFree.of_bodyS (code := cc) (maxLocals := maxL) (ret := ret) hy ?_ ?_
  · intro args s m h hn
    obtain ⟨meth, c, h1, h2, h3, h4, h5, h6, -, -⟩ := Cond.code_spec hn (atoms_spec (ws := ws) h _ (by rw [hw]; exact List.mem_cons_self))
    exact ⟨meth, c, h1, h2, h3, h4, h5, h6⟩
  · intro p e s m args below meth c s₁ B hml hP _
    have hh0 : s₁.heap = s.heap := by rw [B.state]; rfl
    have ht : ∀ x ∈ c.exceptionTable.toList, False := by
      obtain ⟨meth9, c9, h1, h2, -, -, -, -, h7, -⟩ := Cond.code_spec B.named (atoms_spec (ws := ws) B.pre _ (by rw [hw]; exact List.mem_cons_self))
      cases Option.some.inj (h1.symm.trans B.method)
      cases Option.some.inj (h2.symm.trans (Stand.of_body B).code)
      intro x hx
      rw [Array.isEmpty_iff.mp h7] at hx
      cases hx
    obtain ⟨t, a1, o, b1, b2, b3⟩ := body p e s m args below meth c s₁ B hml ht hP s₁ hh0 (Stand.of_body B)
    exact ⟨t, o, a1, b1, b2, b3⟩
/-- the table of a body with handlers -/
theorem vx_table {p : Program} {x y : MethodName} {S : Spec} {cc bytes : ByteArray} {maxL maxL' : Nat} {ret ret' : Option FieldType} {e : Env} {s s₁ : State} {m : MethodId} {args : Array Value} {below : List Frame} {meth : Method} {c : Code} {hh : List (Nat × Nat × Nat × Nat)}
    (B : BodyLoose p l y S cc maxL ret e s m args below meth c s₁) (h : (Cond.codeWith y bytes maxL' ret' hh).before args s = true) : c.exceptionTable.toList = tableOf hh := by
  obtain ⟨m9, meth9, c9, hn9, h1, h2, -, -, h6, -⟩ := Cond.codeWith_spec h
  cases Option.some.inj (hn9.symm.trans B.named)
  cases Option.some.inj (h1.symm.trans B.method)
  cases Option.some.inj (h2.symm.trans (Stand.of_body B).code)
  rw [← h6, table_eq]
end Bodies
end VXA
/-! ===== END ===== -/
/-! ===== BEGIN a static call of a method with an exception table ===== -/
section VXS
variable {p : Program} {l : Launch} {e : Env} {R : Room} {s : State} {m : MethodId} {args : Array Value} {below : List Frame} {meth : Method} {c : Code} {T : State} {H : Heap} {locs : List Loc} {cells slots : Nat}
abbrev vx_CSW (R : Room) (s : State) (args : Array Value) (own : String) (index : Nat) (y : MethodName) (bytes : ByteArray) (maxL : Nat) (ret : Option FieldType) (hh : List (Nat × Nat × Nat × Nat)) (ws : List Cond) (rm : Room) (mc ms n : Nat) : Prop :=
  (rm.cells = mc ∧ rm.slots = ms ∧ rm.frames + 1 ≤ R.frames ∧ 8 + (maxL + 11) + rm.locals ≤ R.locals ∧ (∀ w ∈ ws, ∀ (a' : Array Value) (U : State), s.WarmedH U.vm → w.before a' U = true) ∧ Cond.codeWith y bytes maxL ret hh ∈ ws) ∧
  (Cond.codeWith y bytes maxL ret hh).before args s = true ∧ (Cond.initialized y.cls).before args s = true ∧ (y.cls ≠ "java/lang/invoke/MethodHandle" ∧ y.cls ≠ "java/lang/invoke/VarHandle") ∧
  (∀ sig, parseMethodDescriptor y.desc = some sig → n = sig.parameters.length) ∧ (Cond.methodLink own index y).before args s = true ∧ (Cond.static y).before args s = true
theorem vx_cwSW {own : String} {index maxL mc ms : Nat} {y : MethodName} {bytes : ByteArray} {ret : Option FieldType} {hh : List (Nat × Nat × Nat × Nat)} {Ts ws ws' : List Cond} {rm : Room} (n : Nat) (ht : ∀ w ∈ Ts, w.before args s = true) (hT : GoodIn Ts (va_wsS own index y ws)) (hw : ws = Cond.codeWith y bytes maxL ret hh :: ws') (hrc : rm.cells = mc) (hrs : rm.slots = ms)
    (hd : y.cls ≠ "java/lang/invoke/MethodHandle" ∧ y.cls ≠ "java/lang/invoke/VarHandle" ∧ (parseMethodDescriptor y.desc).map (fun d => d.parameters.length) = some n) (hR : rm.frames + 1 ≤ R.frames ∧ 8 + (maxL + 11) + rm.locals ≤ R.locals) :
    vx_CSW R s args own index y bytes maxL ret hh ws rm mc ms n := by
  have ok : ∀ w ∈ va_wsS own index y ws, w.before args s = true := fun w h => ht w (hT w h).1
  have hG : GoodIn Ts ws := fun w h => hT w (by unfold va_wsS; exact List.mem_append_right _ h)
  have hc : Cond.codeWith y bytes maxL ret hh ∈ ws := by rw [hw]; exact List.mem_cons_self
  refine ⟨⟨hrc, hrs, hR.1, hR.2, pay_in ht hG, hc⟩, ht _ (hG _ hc).1, ok _ (by simp [va_wsS]), ⟨hd.1, hd.2.1⟩, fun sig h => ?_, ok _ (by simp [va_wsS]), ok _ (by simp [va_wsS])⟩
  have h2 := hd.2.2
  rw [h] at h2
  exact (Option.some.inj h2).symm
theorem vx_callSW (X : Stand p l e R s m args below meth c T locs cells slots) (hexec : p.tables.exec = Jvm.exec) {own : String} {index : Nat} {y : MethodName} {bytes : ByteArray} {maxL : Nat} {ret : Option FieldType} {hh : List (Nat × Nat × Nat × Nat)}
    (hown : s.vm.findClass own = some m.cls) (hlink : (Cond.methodLink own index y).before args s = true) (hstat : (Cond.static y).before args s = true) (hinit : (Cond.initialized y.cls).before args s = true)
    (hcode : (Cond.codeWith y bytes maxL ret hh).before args s = true) (hy : y.cls ≠ "java/lang/invoke/MethodHandle" ∧ y.cls ≠ "java/lang/invoke/VarHandle")
    {W9 : Nat} {Pre : Pt → Array Value → Prop} {Post : Pt → Array Value → Option Value → Pt → Prop} (hK : Back l R p e below s args y 3 W9 Pre Post)
    {g : JFrame} (hg : g.method = m) (hsize : g.locals.size = c.maxLocals) {argsL rest : List Value} (hlen : ∀ sig, parseMethodDescriptor y.desc = some sig → argsL.length = sig.parameters.length)
    (hstack : g.stack = argsL.reverse ++ rest) (hW : 2 * g.monitorRoom + (rest.map fun v => v.category).sum ≤ W9) (hdg : decode c.code g.pc = .ok (.invokestatic index, 3))
    (hpre : ∀ vm₁, s.WarmedH vm₁ → Pre ⟨T.setVm vm₁, locs, cells, slots⟩ argsL.toArray) :
    ∃ (v : Option Value) (vm₁ : Vm) (B : Pt), s.WarmedH vm₁ ∧ Stand p l e R s m args below meth c B.U B.locs B.cells B.slots ∧ Post ⟨T.setVm vm₁, locs, cells, slots⟩ argsL.toArray v B ∧
      ∀ target, Steps p.tables e below (B.U.setTop { g with pc := g.pc + 3, stack := v.toList ++ rest }) target → Steps p.tables e below (T.setTop g) target := by
  obtain ⟨mk, methM, cM, hnamed, hmethM, -, -, -, -, -, -, hsigM⟩ := Cond.codeWith_spec hcode
  have hstatic : methM.isStatic = true := Cond.static_spec hnamed hmethM hstat
  obtain ⟨kP, hkP, -⟩ := className_of_methodNamed hnamed
  have hinitP : kP.init = .initialized := Cond.initialized_spec (findClass_of_methodNamed hnamed) hkP hinit
  obtain ⟨vm₁, X₁, hstep₁⟩ := X.invokestatic hexec hown hlink hnamed hmethM hstatic hkP hinitP hy (g := g) hg (argsL := argsL) (rest := rest) (hlen _ hsigM) hstack hdg
  obtain ⟨v, B, X', hpost, hsteps⟩ := hK m meth c ⟨T.setVm vm₁, locs, cells, slots⟩ { g with stack := rest } (.invokestatic index) mk argsL.toArray X₁ hg hsize hdg hW (X₁.named hnamed) (hpre vm₁ X₁.warmed)
  exact ⟨v, vm₁, B, X₁.warmed, X', hpost, fun target h => hstep₁ _ fun acts => by rw [doInvoke_state]; exact hsteps.trans h⟩
theorem vx_runSW {y : MethodName} {bytes cc : ByteArray} {maxL nL mc ms n index : Nat} {ret : Option FieldType} {hh : List (Nat × Nat × Nat × Nat)} {ws : List Cond} {rm : Room} {Pc : Array Value → State → Prop} {Qc : Array Value → State → Outcome → State → Prop} {free : Addr → Prop} {Ts : List Cond} {own : String} {As rest : List Value} {g : JFrame}
    (S : CallFix p m c cc nL s args Ts own) (hM : Met l y ws rm Pc Qc mc ms free) (cw : vx_CSW R s args own index y bytes maxL ret hh ws rm mc ms n) (hp : PreS s H Pc As)
    (hg : g.method = m) (hn : As.length = n) (hsize : g.locals.size = nL) (hstack : g.stack = As.reverse ++ rest) (hW : 2 * g.monitorRoom + (rest.map fun v => v.category).sum ≤ 8) (hdg : decode cc g.pc = .ok (.invokestatic index, 3)) (hf : cells + mc ≤ R.cells ∧ slots + ms ≤ R.slots) :
    va_Run p l e R s m args below meth c H locs cells slots mc ms g rest (Qc As.toArray) (free) := by
  obtain ⟨⟨hrc, hrs, hfr, hlo, hws, hcw⟩, hcode, hini, hy, hlen, hl, hstt⟩ := cw
  have hK : Back l R p e below s args y 3 8 (PreOf R mc ms Pc) (PostOf Qc mc ms free) := va_backW (hh := hh) (bytes := bytes) (maxL := maxL) (ret := ret) hM hp.1 hrc hrs hfr hlo hws hcw (fun a' U hW => word_at hW (Or.inl (by first | rfl | simp [Cond.onTables, Cond.keeps, Cond.steady])) hini)
  obtain ⟨hx, hb, hml, ho, -⟩ := S
  intro T hT X
  obtain ⟨v, vm₁, ⟨U', l2, c2, s2⟩, hW₁, X', ⟨g', mk, t, L, e1, e2, hq, h1, hL, h2, h3⟩, st⟩ := vx_callSW X hx (hh := hh) (bytes := bytes) (maxL := maxL) (ret := ret) ho hl hstt hini hcode hy hK hg (hsize.trans hml.symm) (argsL := As) (rest := rest) (fun sig h => hn.trans (hlen sig h)) hstack hW (by rw [hb]; exact hdg)
    (fun vm₁ hW₁ => ⟨hf.1, hf.2, hp.2 (T.setVm vm₁) hT hW₁⟩)
  dsimp only [Pt.U, Pt.locs, Pt.cells, Pt.slots] at X' e1 e2 h1 h2 h3 st
  subst h1; subst h2; subst h3
  exact ⟨v, (T.setVm vm₁).calling g' mk As.toArray, t, U', L, hT, X', hL, e1, e2, hq, st⟩
/-- not caught here, past rows that name other classes: it goes on to the caller -/
theorem vx_outP {p : Program} {l : Launch} {e : Env} {R : Room} {s : State} {m : MethodId} {args : Array Value} {below : List Frame} {meth : Method} {c : Code} {H : Heap} {locs : List Loc} {cells slots : Nat} {free : Addr → Prop} {ls : Array Slot} {rest : List Value} {Qc : Array Value → State → Outcome → State → Prop} {XC : String → State → State → Prop}
    {pc : Nat} {own E : String} {ce : Cell} {q : Addr} {mc ms : Nat} (hown : s.vm.findClass own = some m.cls) (hlocks : meth.locks = false)
    (hpass : ∀ z ∈ c.exceptionTable.toList, covers z pc = false ∨ (z.catchType ≠ 0 ∧ ∃ nm : String, (Cond.classLink own z.catchType nm).before args s = true ∧ va_Nc E nm s)) (hcell : H[q]? = some ce) (hv : ce.vm = .none) (hcl : s.vm.findClass E = some ce.cls)
    (hx : ∀ t : State, t.heap = H → s.vm.Alike t.vm → XC E s t) (hf : ∀ z ∈ locs, free z.base) (hc : cells ≤ mc) (hs : slots ≤ ms) :
    vx_W p l e R s m args below meth c H locs cells slots (vx_MQ below Qc XC args s mc ms free) (F0 m pc ls rest) q := by
  intro T hT X
  have hpl : e.platform.magicAccessors = ({} : Platform).magicAccessors := by rw [X.admits.platform]
  obtain ⟨vm', hW', X', st⟩ := X.outThrough hlocks q (g := F0 m pc ls rest) rfl rfl rfl (cell := ce) (by rw [hT]; exact hcell) (by rw [hv]; rfl)
    (by obtain ⟨k9, h9, -⟩ := Vm.findClass_spec hcl; exact ⟨k9, h9⟩) (fun z hz => by
      rcases hpass z hz with h | ⟨hz0, nm, hl1, hn1⟩
      · exact Or.inl h
      · obtain ⟨c6, hc6, hcl6⟩ := Cond.classLink_spec hown hl1 e.platform hpl
        obtain ⟨a8, b8, h1, h2, h3⟩ := hn1
        cases Option.some.inj (h1.symm.trans hcl)
        cases Option.some.inj (h2.symm.trans hc6)
        exact Or.inr ⟨hz0, _, hcl6, h3⟩)
  obtain ⟨g₀, hfr⟩ := X'.frames_eq
  have hcell9 : ((T.setVm vm').setFrames (.throwing q :: below)).heap[q]? = some ce := by
    show T.heap[q]? = some ce
    rw [hT]; exact hcell
  have hend : Ended ((T.setVm vm').setFrames (.throwing q :: below)) below (.threw q) := State.frames_setFrames _ (State.cur_lt_of_frames hfr)
  refine ⟨(T.setVm vm').setFrames (.throwing q :: below), ?_, .threw q, X'.here.running, hend, Or.inr ⟨q, rfl, E, ce, locs, hx _ hT (X'.ends _).1.alike, hcell9, hv, hcl, (X'.ends _).1, (X'.ends _).2.mono hc hs, hf⟩⟩
  rw [X.pushThrowing_eq]
  exact st
/-- a thing of a world lies in the heap -/
theorem vx_lt {D : va_G} {cl : List vw_C} {ws : va_W} {H1 : Heap} (h : va_P D cl ws H1) {k : Nat} {q : Nat × va_E} (hk : ws[k]? = some q) : q.1 < H1.size := (h k q hk).lt
end VXS
/-! ===== END ===== -/
/-! ===== BEGIN methods with a table of their own: called by a name, returning or throwing ===== -/
section VXH
/-! vx_backW, vx_callVX, vx_callSX, vx_callVW, vx_runVW, vx_runVX, vx_runSX, vx_ofWH follow the same proofs as their sisters above (Free/Laws.lean, Shelf42/LK1.lean); vx_outP calls Shelf42/NT130.lean (outThrough). -/
section
variable {l : Launch} {R : Room} {p : Program} {e : Env} {below : List Frame} {s : State} {sargs : Array Value} {y : MethodName} {len W9 : Nat}
theorem vx_backW {ws : List Cond} {rm : Room} {Pc : Array Value → State → Prop} {Qc : Array Value → State → Outcome → State → Prop} {XC : String → State → State → Prop} {mc ms : Nat} {free : Addr → Prop} {bytes : ByteArray} {maxL : Nat} {ret : Option FieldType} {hh : List (Nat × Nat × Nat × Nat)}
    (hM : vx_Met l y ws rm Pc Qc XC mc ms free) (hblind : FrameBlind Pc) (hrc : rm.cells = mc) (hrs : rm.slots = ms)
    (hframes : rm.frames + 1 ≤ R.frames) (hlocals : W9 + (maxL + 11) + rm.locals ≤ R.locals)
    (hws : ∀ w ∈ ws, ∀ a' U, s.WarmedH U.vm → w.before a' U = true) (hcode : Cond.codeWith y bytes maxL ret hh ∈ ws) (hinit : ∀ a' U, s.WarmedH U.vm → (Cond.initialized y.cls).before a' U = true) :
    vx_Back l R p e below s sargs y len W9 (PreOf R mc ms Pc) (PostOf Qc mc ms free) (vx_Post XC mc ms free) := by
  intro m meth c A g ig mk a X hg hsize hdg hW hn hp
  have h1 : (headSpec ws rm).pre.before a A.U = true := atoms_intro fun w hw => hws w hw _ _ X.warmed
  have h2 : (Cond.codeWith y bytes maxL ret hh).before a A.U = true := hws _ hcode _ _ X.warmed
  have h3 : (Cond.initialized y.cls).before a A.U = true := hinit _ _ X.warmed
  have h4 : A.cells + (headSpec ws rm).room.cells ≤ R.cells := by rw [show (headSpec ws rm).room.cells = mc from hrc]; exact hp.1
  have h5 : A.slots + (headSpec ws rm).room.slots ≤ R.slots := by rw [show (headSpec ws rm).room.slots = ms from hrs]; exact hp.2.1
  have hPc : Pc a (A.U.calling g mk a) := hblind _ _ _ _ hp.2.2
  obtain ⟨U, Ls, c0, s0⟩ := A
  dsimp only [Pt.U, Pt.locs, Pt.cells, Pt.slots] at h1 h2 h3 h4 h5 X hn hPc ⊢
  obtain ⟨m9, methY, cY, hn9, hmY, hcY, -, hlY, -⟩ := Cond.codeWith_spec h2
  cases Option.some.inj (hn9.symm.trans hn)
  obtain ⟨kY, hkY, -⟩ := className_of_methodNamed hn
  have hinitY : kY.init = .initialized := Cond.initialized_spec (findClass_of_methodNamed hn) hkY h3
  have h : At U g.method c below := by rw [hg]; exact X.here
  have hlocals9 : W9 + (maxL + 11) + (headSpec ws rm).room.locals ≤ R.locals := hlocals
  have happ : (headSpec ws rm).appliesLoose y e.platform (U.calling g mk a) = true :=
    Spec.appliesLoose_calling (g := g) h hdg hn hkY hinitY
      (X.room_calling (g := g) (R' := (headSpec ws rm).room) hsize hmY hcY hframes (by rw [hlY]; omega) h4 h5) h1
  obtain ⟨mid, hmid⟩ := h.above
  have hfr : (U.setTop g).frames = (.java g :: mid) ++ below := by rw [State.frames_setTop' g h.top, hmid]; rfl
  obtain ⟨o, s₂, hsteps, -, hend, hq⟩ := Steps.callFree hM p X.admits X.cas X.clock (acts := []) hfr happ hPc trivial
  have hq' : vx_Q Qc XC mc ms free a (U.calling g mk a) o s₂ := hq
  rw [State.frames_setTop' g h.top] at hend
  obtain ⟨g₀, hg0⟩ := Option.isSome_iff_exists.mp h.top
  obtain ⟨r, hr⟩ := State.topJava?_eq_some.mp hg0
  have hr' : (({ U with heap := s₂.heap, slotsUsed := s₂.slotsUsed } : State).setVm s₂.vm).frames = .java g₀ :: r := hr
  rcases hq' with ⟨hqc, L, hfe, hL⟩ | ⟨q, rfl, E, ce, L, hx, hce, hcv, hcl, hW₂, hsm, hL⟩
  · obtain ⟨⟨v, rfl⟩, hW₂, e2, q2, q3, q4, q5, q6⟩ := id hfe
    have e3 : s₂ = ({ (U.calling g mk a).setFrames s₂.frames with heap := s₂.heap, slotsUsed := s₂.slotsUsed } : State).setVm s₂.vm := by
      have : s₂ = ({ s₂ with vm := (U.calling g mk a).vm } : State).setVm s₂.vm := rfl
      rw [e2] at this
      exact this
    obtain ⟨c₂, i₂, len₂, hc₂, hd₂, hf₂⟩ := hend
    have hW' : U.WarmedH s₂.vm := hW₂
    have hcc : c₂ = c := by
      have h1 : s₂.code? g.method = U.code? g.method := by
        rw [State.code?_eq, State.code?_eq, hW'.alike.method?]
      exact Option.some.inj (hc₂.symm.trans (h1.trans h.code))
    subst hcc
    have hlen : len₂ = len := by rw [hdg] at hd₂; cases hd₂; rfl
    subst hlen
    have hs₂ : s₂ = (({ U with heap := s₂.heap, slotsUsed := s₂.slotsUsed } : State).setVm s₂.vm).setTop { g with pc := g.pc + len₂, stack := v.toList ++ g.stack } := by
      refine e3.trans ?_
      rw [hf₂, State.calling_eq h.top, State.setFrames_setFrames, State.setTop_of_frames _ hr', hr]
      rfl
    have hsame : U.sameButNew ({ U with heap := s₂.heap, slotsUsed := s₂.slotsUsed } : State) L mc ms := by
      refine ⟨?_, q2, q3, q4, q5, q6⟩
      obtain ⟨t, ht, -⟩ := State.frames_cons hr
      show ({ U with heap := s₂.heap, slotsUsed := s₂.slotsUsed } : State) = { U.setFrames U.frames with heap := s₂.heap, slotsUsed := s₂.slotsUsed }
      rw [State.setFrames_self ht]
    subst hg
    refine Or.inl ⟨v, ⟨(({ U with heap := s₂.heap, slotsUsed := s₂.slotsUsed } : State).setVm s₂.vm), Ls ++ L, c0 + mc, s0 + ms⟩,
      ⟨X.admits, X.cas, X.clock, X.frames, X.room, X.hears, X.method, X.code, (X.here.setHeapUsed s₂.heap s₂.slotsUsed).setVm hW'.alike, X.tail, State.WarmedH.trans X.warmed hW', X.limits, X.bytes, X.same.trans (hsame.setVm s.vm)⟩,
      ⟨g, mk, s₂, L, rfl, rfl, hqc, rfl, hL, rfl, rfl⟩, ?_⟩
    show Steps p.tables e below _ ((({ U with heap := s₂.heap, slotsUsed := s₂.slotsUsed } : State).setVm s₂.vm).setTop { g with pc := g.pc + len₂, stack := v.toList ++ g.stack })
    rw [← hs₂]
    exact hsteps
  · obtain ⟨e2, q2, q3, q4, q5, q6⟩ := id hsm
    have e3 : s₂ = ({ (U.calling g mk a).setFrames s₂.frames with heap := s₂.heap, slotsUsed := s₂.slotsUsed } : State).setVm s₂.vm := by
      have : s₂ = ({ s₂ with vm := (U.calling g mk a).vm } : State).setVm s₂.vm := rfl
      rw [e2] at this
      exact this
    have hf₂ : s₂.frames = .throwing q :: .java g :: U.frames.tail := hend
    have hW' : U.WarmedH s₂.vm := hW₂
    have hs₂ : s₂ = ((({ U with heap := s₂.heap, slotsUsed := s₂.slotsUsed } : State).setVm s₂.vm).setTop g).pushFrame (.throwing q) := by
      refine e3.trans ?_
      rw [hf₂, State.calling_eq h.top, State.setFrames_setFrames, State.pushFrame, State.frames_setTop _ hr', State.setTop_of_frames _ hr', State.setFrames_setFrames, hr]
      rfl
    have hsame : U.sameButNew ({ U with heap := s₂.heap, slotsUsed := s₂.slotsUsed } : State) L mc ms := by
      refine ⟨?_, q2, q3, q4, q5, q6⟩
      obtain ⟨t, ht, -⟩ := State.frames_cons hr
      show ({ U with heap := s₂.heap, slotsUsed := s₂.slotsUsed } : State) = { U.setFrames U.frames with heap := s₂.heap, slotsUsed := s₂.slotsUsed }
      rw [State.setFrames_self ht]
    subst hg
    refine Or.inr ⟨q, ⟨(({ U with heap := s₂.heap, slotsUsed := s₂.slotsUsed } : State).setVm s₂.vm), Ls ++ L, c0 + mc, s0 + ms⟩,
      ⟨X.admits, X.cas, X.clock, X.frames, X.room, X.hears, X.method, X.code, (X.here.setHeapUsed s₂.heap s₂.slotsUsed).setVm hW'.alike, X.tail, State.WarmedH.trans X.warmed hW', X.limits, X.bytes, X.same.trans (hsame.setVm s.vm)⟩,
      ⟨g, mk, s₂, L, E, ce, rfl, rfl, hx, hce, hcv, hcl, rfl, hL, rfl, rfl⟩, ?_⟩
    show Steps p.tables e below _ (((({ U with heap := s₂.heap, slotsUsed := s₂.slotsUsed } : State).setVm s₂.vm).setTop g).pushFrame (.throwing q))
    rw [← hs₂]
    exact hsteps
end
variable {p : Program} {l : Launch} {e : Env} {R : Room} {s : State} {m : MethodId} {args : Array Value} {below : List Frame} {meth : Method} {c : Code} {T : State} {H : Heap} {locs : List Loc} {cells slots : Nat}
theorem vx_callVX (X : Stand p l e R s m args below meth c T locs cells slots) (hexec : p.tables.exec = Jvm.exec) {own C : String} {index : Nat} {y : MethodName} {bytes : ByteArray} {maxL : Nat} {ret : Option FieldType} {hh : List (Nat × Nat × Nat × Nat)}
    (hown : s.vm.findClass own = some m.cls) (hlink : (Cond.methodLink own index y).before args s = true) (hinst : (Cond.instanceMethod y).before args s = true) (hsel : (Cond.selects C y y).before args s = true)
    (hcode : (Cond.codeWith y bytes maxL ret hh).before args s = true) (hy : y.cls ≠ "java/lang/invoke/MethodHandle" ∧ y.cls ≠ "java/lang/invoke/VarHandle")
    {W9 : Nat} {Pre : Pt → Array Value → Prop} {Post : Pt → Array Value → Option Value → Pt → Prop} {PostX : Pt → Array Value → Addr → Pt → Prop} (hK : vx_Back l R p e below s args y 3 W9 Pre Post PostX)
    {b : Addr} {cellB : Cell} (hcell : T.heap[b]? = some cellB) (hobj : cellB.vm.isStatics = false) (hcls : s.vm.findClass C = some cellB.cls)
    {g : JFrame} (hg : g.method = m) (hsize : g.locals.size = c.maxLocals) {argsL rest : List Value} (hlen : ∀ sig, parseMethodDescriptor y.desc = some sig → argsL.length = sig.parameters.length)
    (hstack : g.stack = argsL.reverse ++ .ref b :: rest) (hW : 2 * g.monitorRoom + (rest.map fun v => v.category).sum ≤ W9) (hdg : decode c.code g.pc = .ok (.invokevirtual index, 3))
    (hpre : ∀ vm₁, s.WarmedH vm₁ → Pre ⟨T.setVm vm₁, locs, cells, slots⟩ (Value.ref b :: argsL).toArray) :
    (∃ (v : Option Value) (vm₁ : Vm) (B : Pt), s.WarmedH vm₁ ∧ Stand p l e R s m args below meth c B.U B.locs B.cells B.slots ∧ Post ⟨T.setVm vm₁, locs, cells, slots⟩ (Value.ref b :: argsL).toArray v B ∧
      ∀ target, Steps p.tables e below (B.U.setTop { g with pc := g.pc + 3, stack := v.toList ++ rest }) target → Steps p.tables e below (T.setTop g) target) ∨
    (∃ (q : Addr) (vm₁ : Vm) (B : Pt), s.WarmedH vm₁ ∧ Stand p l e R s m args below meth c B.U B.locs B.cells B.slots ∧ PostX ⟨T.setVm vm₁, locs, cells, slots⟩ (Value.ref b :: argsL).toArray q B ∧
      Steps p.tables e below (T.setTop g) ((B.U.setTop { g with stack := rest }).pushFrame (.throwing q))) := by
  obtain ⟨mk, methM, hnamed, hmethM, hstM, habM⟩ := Cond.instanceMethod_spec hinst
  obtain ⟨m8, methM', cM, hn8, hmethM', -, -, -, -, -, -, hsigM⟩ := Cond.codeWith_spec hcode
  cases Option.some.inj (hn8.symm.trans hnamed)
  cases hmethM.symm.trans hmethM'
  obtain ⟨c2, r2, m2, q1, q2, q3, q4, kP, hkP, hkPi⟩ := Cond.selects_spec hsel
  cases hcls.symm.trans q1
  cases (State.methodFound?_of_named hnamed hy).symm.trans q2
  cases hnamed.symm.trans q3
  have hselP : selectMethod e.platform s.vm cellB.cls mk = .method mk := by rw [Launch.admits_selectMethod X.admits]; exact q4
  obtain ⟨vm₁, X₁, hstep₁⟩ := X.invokevirtual hexec hown hlink hnamed hmethM hstM hkP hkPi hy (a := b) (cell := cellB) hcell
    (fun z h => by rw [h] at hobj; cases hobj) hselP hmethM habM hkP hkPi (g := g) hg (argsL := argsL) (rest := rest) (hlen _ hsigM) hstack hdg
  rcases hK m meth c ⟨T.setVm vm₁, locs, cells, slots⟩ { g with stack := rest } (.invokevirtual index) mk (Value.ref b :: argsL).toArray X₁ hg hsize hdg hW (X₁.named hnamed) (hpre vm₁ X₁.warmed) with ⟨v, B, X', hpost, hsteps⟩ | ⟨q, B, X', hpost, hsteps⟩
  · exact Or.inl ⟨v, vm₁, B, X₁.warmed, X', hpost, fun target h => hstep₁ _ fun acts => by rw [doInvoke_state]; exact hsteps.trans h⟩
  · exact Or.inr ⟨q, vm₁, B, X₁.warmed, X', hpost, hstep₁ _ fun acts => by rw [doInvoke_state]; exact hsteps⟩
theorem vx_callSX (X : Stand p l e R s m args below meth c T locs cells slots) (hexec : p.tables.exec = Jvm.exec) {own : String} {index : Nat} {y : MethodName} {bytes : ByteArray} {maxL : Nat} {ret : Option FieldType} {hh : List (Nat × Nat × Nat × Nat)}
    (hown : s.vm.findClass own = some m.cls) (hlink : (Cond.methodLink own index y).before args s = true) (hstat : (Cond.static y).before args s = true) (hinit : (Cond.initialized y.cls).before args s = true)
    (hcode : (Cond.codeWith y bytes maxL ret hh).before args s = true) (hy : y.cls ≠ "java/lang/invoke/MethodHandle" ∧ y.cls ≠ "java/lang/invoke/VarHandle")
    {W9 : Nat} {Pre : Pt → Array Value → Prop} {Post : Pt → Array Value → Option Value → Pt → Prop} {PostX : Pt → Array Value → Addr → Pt → Prop} (hK : vx_Back l R p e below s args y 3 W9 Pre Post PostX)
    {g : JFrame} (hg : g.method = m) (hsize : g.locals.size = c.maxLocals) {argsL rest : List Value} (hlen : ∀ sig, parseMethodDescriptor y.desc = some sig → argsL.length = sig.parameters.length)
    (hstack : g.stack = argsL.reverse ++ rest) (hW : 2 * g.monitorRoom + (rest.map fun v => v.category).sum ≤ W9) (hdg : decode c.code g.pc = .ok (.invokestatic index, 3))
    (hpre : ∀ vm₁, s.WarmedH vm₁ → Pre ⟨T.setVm vm₁, locs, cells, slots⟩ argsL.toArray) :
    (∃ (v : Option Value) (vm₁ : Vm) (B : Pt), s.WarmedH vm₁ ∧ Stand p l e R s m args below meth c B.U B.locs B.cells B.slots ∧ Post ⟨T.setVm vm₁, locs, cells, slots⟩ argsL.toArray v B ∧
      ∀ target, Steps p.tables e below (B.U.setTop { g with pc := g.pc + 3, stack := v.toList ++ rest }) target → Steps p.tables e below (T.setTop g) target) ∨
    (∃ (q : Addr) (vm₁ : Vm) (B : Pt), s.WarmedH vm₁ ∧ Stand p l e R s m args below meth c B.U B.locs B.cells B.slots ∧ PostX ⟨T.setVm vm₁, locs, cells, slots⟩ argsL.toArray q B ∧
      Steps p.tables e below (T.setTop g) ((B.U.setTop { g with stack := rest }).pushFrame (.throwing q))) := by
  obtain ⟨mk, methM, cM, hnamed, hmethM, -, -, -, -, -, -, hsigM⟩ := Cond.codeWith_spec hcode
  have hstatic : methM.isStatic = true := Cond.static_spec hnamed hmethM hstat
  obtain ⟨kP, hkP, -⟩ := className_of_methodNamed hnamed
  have hinitP : kP.init = .initialized := Cond.initialized_spec (findClass_of_methodNamed hnamed) hkP hinit
  obtain ⟨vm₁, X₁, hstep₁⟩ := X.invokestatic hexec hown hlink hnamed hmethM hstatic hkP hinitP hy (g := g) hg (argsL := argsL) (rest := rest) (hlen _ hsigM) hstack hdg
  rcases hK m meth c ⟨T.setVm vm₁, locs, cells, slots⟩ { g with stack := rest } (.invokestatic index) mk argsL.toArray X₁ hg hsize hdg hW (X₁.named hnamed) (hpre vm₁ X₁.warmed) with ⟨v, B, X', hpost, hsteps⟩ | ⟨q, B, X', hpost, hsteps⟩
  · exact Or.inl ⟨v, vm₁, B, X₁.warmed, X', hpost, fun target h => hstep₁ _ fun acts => by rw [doInvoke_state]; exact hsteps.trans h⟩
  · exact Or.inr ⟨q, vm₁, B, X₁.warmed, X', hpost, hstep₁ _ fun acts => by rw [doInvoke_state]; exact hsteps⟩
theorem vx_callVW (X : Stand p l e R s m args below meth c T locs cells slots) (hexec : p.tables.exec = Jvm.exec) {own C : String} {index : Nat} {y : MethodName} {bytes : ByteArray} {maxL : Nat} {ret : Option FieldType} {hh : List (Nat × Nat × Nat × Nat)}
    (hown : s.vm.findClass own = some m.cls) (hlink : (Cond.methodLink own index y).before args s = true) (hinst : (Cond.instanceMethod y).before args s = true) (hsel : (Cond.selects C y y).before args s = true)
    (hcode : (Cond.codeWith y bytes maxL ret hh).before args s = true) (hy : y.cls ≠ "java/lang/invoke/MethodHandle" ∧ y.cls ≠ "java/lang/invoke/VarHandle")
    {W9 : Nat} {Pre : Pt → Array Value → Prop} {Post : Pt → Array Value → Option Value → Pt → Prop} (hK : Back l R p e below s args y 3 W9 Pre Post)
    {b : Addr} {cellB : Cell} (hcell : T.heap[b]? = some cellB) (hobj : cellB.vm.isStatics = false) (hcls : s.vm.findClass C = some cellB.cls)
    {g : JFrame} (hg : g.method = m) (hsize : g.locals.size = c.maxLocals) {argsL rest : List Value} (hlen : ∀ sig, parseMethodDescriptor y.desc = some sig → argsL.length = sig.parameters.length)
    (hstack : g.stack = argsL.reverse ++ .ref b :: rest) (hW : 2 * g.monitorRoom + (rest.map fun v => v.category).sum ≤ W9) (hdg : decode c.code g.pc = .ok (.invokevirtual index, 3))
    (hpre : ∀ vm₁, s.WarmedH vm₁ → Pre ⟨T.setVm vm₁, locs, cells, slots⟩ (Value.ref b :: argsL).toArray) :
    ∃ (v : Option Value) (vm₁ : Vm) (B : Pt), s.WarmedH vm₁ ∧ Stand p l e R s m args below meth c B.U B.locs B.cells B.slots ∧ Post ⟨T.setVm vm₁, locs, cells, slots⟩ (Value.ref b :: argsL).toArray v B ∧
      ∀ target, Steps p.tables e below (B.U.setTop { g with pc := g.pc + 3, stack := v.toList ++ rest }) target → Steps p.tables e below (T.setTop g) target := by
  obtain ⟨mk, methM, hnamed, hmethM, hstM, habM⟩ := Cond.instanceMethod_spec hinst
  obtain ⟨m8, methM', cM, hn8, hmethM', -, -, -, -, -, -, hsigM⟩ := Cond.codeWith_spec hcode
  cases Option.some.inj (hn8.symm.trans hnamed)
  cases hmethM.symm.trans hmethM'
  obtain ⟨c2, r2, m2, q1, q2, q3, q4, kP, hkP, hkPi⟩ := Cond.selects_spec hsel
  cases hcls.symm.trans q1
  cases (State.methodFound?_of_named hnamed hy).symm.trans q2
  cases hnamed.symm.trans q3
  have hselP : selectMethod e.platform s.vm cellB.cls mk = .method mk := by rw [Launch.admits_selectMethod X.admits]; exact q4
  obtain ⟨vm₁, X₁, hstep₁⟩ := X.invokevirtual hexec hown hlink hnamed hmethM hstM hkP hkPi hy (a := b) (cell := cellB) hcell
    (fun z h => by rw [h] at hobj; cases hobj) hselP hmethM habM hkP hkPi (g := g) hg (argsL := argsL) (rest := rest) (hlen _ hsigM) hstack hdg
  obtain ⟨v, B, X', hpost, hsteps⟩ := hK m meth c ⟨T.setVm vm₁, locs, cells, slots⟩ { g with stack := rest } (.invokevirtual index) mk (Value.ref b :: argsL).toArray X₁ hg hsize hdg hW (X₁.named hnamed) (hpre vm₁ X₁.warmed)
  exact ⟨v, vm₁, B, X₁.warmed, X', hpost, fun target h => hstep₁ _ fun acts => by rw [doInvoke_state]; exact hsteps.trans h⟩
abbrev vx_CVW (R : Room) (s : State) (args : Array Value) (own C : String) (index : Nat) (y : MethodName) (bytes : ByteArray) (maxL : Nat) (ret : Option FieldType) (hh : List (Nat × Nat × Nat × Nat)) (ws : List Cond) (rm : Room) (mc ms n : Nat) : Prop :=
  (rm.cells = mc ∧ rm.slots = ms ∧ rm.frames + 1 ≤ R.frames ∧ 8 + (maxL + 11) + rm.locals ≤ R.locals ∧ (∀ w ∈ ws, ∀ (a' : Array Value) (U : State), s.WarmedH U.vm → w.before a' U = true) ∧ Cond.codeWith y bytes maxL ret hh ∈ ws) ∧
  (Cond.codeWith y bytes maxL ret hh).before args s = true ∧ (Cond.initialized y.cls).before args s = true ∧ (y.cls ≠ "java/lang/invoke/MethodHandle" ∧ y.cls ≠ "java/lang/invoke/VarHandle") ∧
  (∀ sig, parseMethodDescriptor y.desc = some sig → n = sig.parameters.length) ∧ (Cond.methodLink own index y).before args s = true ∧ (Cond.instanceMethod y).before args s = true ∧ (Cond.selects C y y).before args s = true
theorem vx_cwVW {own C : String} {index maxL mc ms : Nat} {y : MethodName} {bytes : ByteArray} {ret : Option FieldType} {hh : List (Nat × Nat × Nat × Nat)} {Ts ws ws' : List Cond} {rm : Room} (n : Nat) (ht : ∀ w ∈ Ts, w.before args s = true) (hT : GoodIn Ts (wsV own index C y ws)) (hw : ws = Cond.codeWith y bytes maxL ret hh :: ws') (hrc : rm.cells = mc) (hrs : rm.slots = ms)
    (hd : y.cls = C ∧ y.cls ≠ "java/lang/invoke/MethodHandle" ∧ y.cls ≠ "java/lang/invoke/VarHandle" ∧ (parseMethodDescriptor y.desc).map (fun d => d.parameters.length) = some n) (hR : rm.frames + 1 ≤ R.frames ∧ 8 + (maxL + 11) + rm.locals ≤ R.locals) :
    vx_CVW R s args own C index y bytes maxL ret hh ws rm mc ms n := by
  obtain ⟨hC, hd⟩ := hd
  subst hC
  have ok : ∀ w ∈ wsV own index y.cls y ws, w.before args s = true := fun w h => ht w (hT w h).1
  have hG : GoodIn Ts ws := fun w h => hT w (by unfold wsV; exact List.mem_append_right _ h)
  have hc : Cond.codeWith y bytes maxL ret hh ∈ ws := by rw [hw]; exact List.mem_cons_self
  refine ⟨⟨hrc, hrs, hR.1, hR.2, pay_in ht hG, hc⟩, ht _ (hG _ hc).1, ok _ (by simp [wsV]), ⟨hd.1, hd.2.1⟩, fun sig h => ?_, ok _ (by simp [wsV]), ok _ (by simp [wsV]), ok _ (by simp [wsV])⟩
  have h2 := hd.2.2
  rw [h] at h2
  exact (Option.some.inj h2).symm
theorem vx_runVW {y : MethodName} {bytes cc : ByteArray} {maxL nL mc ms n index : Nat} {ret : Option FieldType} {hh : List (Nat × Nat × Nat × Nat)} {ws : List Cond} {rm : Room} {Pc : Array Value → State → Prop} {Qc : Array Value → State → Outcome → State → Prop} {free : Addr → Prop} {Ts : List Cond} {own C : String} {b : Addr} {As rest : List Value} {g : JFrame}
    (S : CallFix p m c cc nL s args Ts own) (hM : Met l y ws rm Pc Qc mc ms free) (cw : vx_CVW R s args own C index y bytes maxL ret hh ws rm mc ms n) (hp : PreV s H C b Pc As)
    (hg : g.method = m) (hn : As.length = n) (hsize : g.locals.size = nL) (hstack : g.stack = As.reverse ++ .ref b :: rest) (hW : 2 * g.monitorRoom + (rest.map fun v => v.category).sum ≤ 8) (hdg : decode cc g.pc = .ok (.invokevirtual index, 3)) (hf : cells + mc ≤ R.cells ∧ slots + ms ≤ R.slots) :
    va_Run p l e R s m args below meth c H locs cells slots mc ms g rest (Qc (Value.ref b :: As).toArray) free := by
  obtain ⟨⟨hrc, hrs, hfr, hlo, hws, hcw⟩, hcode, hini, hy, hlen, hl, hin, hse⟩ := cw
  have hK : Back l R p e below s args y 3 8 (PreOf R mc ms Pc) (PostOf Qc mc ms free) := va_backW (hh := hh) (bytes := bytes) (maxL := maxL) (ret := ret) hM hp.1 hrc hrs hfr hlo hws hcw (fun a' U hW => word_at hW (Or.inl (by first | rfl | simp [Cond.onTables, Cond.keeps, Cond.steady])) hini)
  obtain ⟨hx, hb, hml, ho, -⟩ := S
  obtain ⟨-, ⟨cellB, hcB, hoB, hclB⟩, hPc⟩ := hp
  intro T hT X
  obtain ⟨v, vm₁, ⟨U', l2, c2, s2⟩, hW₁, X', ⟨g', mk, t, L, e1, e2, hq, h1, hL, h2, h3⟩, st⟩ := vx_callVW X hx (C := C) (hh := hh) (bytes := bytes) (maxL := maxL) (ret := ret) ho hl hin hse hcode hy hK (by rw [hT]; exact hcB) hoB hclB hg (hsize.trans hml.symm) (argsL := As) (rest := rest) (fun sig h => hn.trans (hlen sig h)) hstack hW (by rw [hb]; exact hdg)
    (fun vm₁ hW₁ => ⟨hf.1, hf.2, hPc (T.setVm vm₁) hT hW₁⟩)
  dsimp only [Pt.U, Pt.locs, Pt.cells, Pt.slots] at X' e1 e2 h1 h2 h3 st
  subst h1; subst h2; subst h3
  exact ⟨v, (T.setVm vm₁).calling g' mk (Value.ref b :: As).toArray, t, U', L, hT, X', hL, e1, e2, hq, st⟩
section
variable {y : MethodName} {bytes cc : ByteArray} {maxL nL mc ms n index : Nat} {ret : Option FieldType} {ws : List Cond} {rm : Room} {Pc : Array Value → State → Prop} {Qc : Array Value → State → Outcome → State → Prop} {XC : String → State → State → Prop} {free : Addr → Prop} {Ts : List Cond} {own C : String} {b : Addr} {As rest : List Value} {g : JFrame}
theorem vx_runVX {hh : List (Nat × Nat × Nat × Nat)} (S : CallFix p m c cc nL s args Ts own) (hM : vx_Met l y ws rm Pc Qc XC mc ms free) (cw : vx_CVW R s args own C index y bytes maxL ret hh ws rm mc ms n) (hp : PreV s H C b Pc As)
    (hg : g.method = m) (hn : As.length = n) (hsize : g.locals.size = nL) (hstack : g.stack = As.reverse ++ .ref b :: rest) (hW : 2 * g.monitorRoom + (rest.map fun v => v.category).sum ≤ 8) (hdg : decode cc g.pc = .ok (.invokevirtual index, 3)) (hf : cells + mc ≤ R.cells ∧ slots + ms ≤ R.slots) :
    vx_Run p l e R s m args below meth c H locs cells slots mc ms g rest (Qc (Value.ref b :: As).toArray) XC free := by
  obtain ⟨⟨hrc, hrs, hfr, hlo, hws, hcw⟩, hcode, hini, hy, hlen, hl, hin, hse⟩ := cw
  have hK : vx_Back l R p e below s args y 3 8 (PreOf R mc ms Pc) (PostOf Qc mc ms free) (vx_Post XC mc ms free) := vx_backW (hh := hh) (bytes := bytes) (maxL := maxL) (ret := ret) hM hp.1 hrc hrs hfr hlo hws hcw (fun a' U hW => word_at hW (Or.inl (by first | rfl | simp [Cond.onTables, Cond.keeps, Cond.steady])) hini)
  obtain ⟨hx, hb, hml, ho, -⟩ := S
  obtain ⟨-, ⟨cellB, hcB, hoB, hclB⟩, hPc⟩ := hp
  intro T hT X
  rcases vx_callVX X hx (C := C) (hh := hh) (bytes := bytes) (maxL := maxL) (ret := ret) ho hl hin hse hcode hy hK (by rw [hT]; exact hcB) hoB hclB hg (hsize.trans hml.symm) (argsL := As) (rest := rest) (fun sig h => hn.trans (hlen sig h)) hstack hW (by rw [hb]; exact hdg)
    (fun vm₁ hW₁ => ⟨hf.1, hf.2, hPc (T.setVm vm₁) hT hW₁⟩) with ⟨v, vm₁, ⟨U', l2, c2, s2⟩, hW₁, X', ⟨g', mk, t, L, e1, e2, hq, h1, hL, h2, h3⟩, st⟩ | ⟨q, vm₁, ⟨U', l2, c2, s2⟩, hW₁, X', ⟨g', mk, t, L, E, ce, e1, e2, hq, hce, hcv, hcl, h1, hL, h2, h3⟩, st⟩
  · dsimp only [Pt.U, Pt.locs, Pt.cells, Pt.slots] at X' e1 e2 h1 h2 h3 st
    subst h1; subst h2; subst h3
    exact Or.inl ⟨v, (T.setVm vm₁).calling g' mk (Value.ref b :: As).toArray, t, U', L, hT, X', hL, e1, e2, hq, st⟩
  · dsimp only [Pt.U, Pt.locs, Pt.cells, Pt.slots] at X' e1 e2 h1 h2 h3 st hcl
    subst h1; subst h2; subst h3
    exact Or.inr ⟨q, (T.setVm vm₁).calling g' mk (Value.ref b :: As).toArray, t, U', L, E, ce, hT, X', hL, e1, e2, hq, hce, hcv, vx_cls hW₁ hcl, st⟩
theorem vx_runSX {hh : List (Nat × Nat × Nat × Nat)} (S : CallFix p m c cc nL s args Ts own) (hM : vx_Met l y ws rm Pc Qc XC mc ms free) (cw : vx_CSW R s args own index y bytes maxL ret hh ws rm mc ms n) (hp : PreS s H Pc As)
    (hg : g.method = m) (hn : As.length = n) (hsize : g.locals.size = nL) (hstack : g.stack = As.reverse ++ rest) (hW : 2 * g.monitorRoom + (rest.map fun v => v.category).sum ≤ 8) (hdg : decode cc g.pc = .ok (.invokestatic index, 3)) (hf : cells + mc ≤ R.cells ∧ slots + ms ≤ R.slots) :
    vx_Run p l e R s m args below meth c H locs cells slots mc ms g rest (Qc As.toArray) XC free := by
  obtain ⟨⟨hrc, hrs, hfr, hlo, hws, hcw⟩, hcode, hini, hy, hlen, hl, hstt⟩ := cw
  have hK : vx_Back l R p e below s args y 3 8 (PreOf R mc ms Pc) (PostOf Qc mc ms free) (vx_Post XC mc ms free) := vx_backW (hh := hh) (bytes := bytes) (maxL := maxL) (ret := ret) hM hp.1 hrc hrs hfr hlo hws hcw (fun a' U hW => word_at hW (Or.inl (by first | rfl | simp [Cond.onTables, Cond.keeps, Cond.steady])) hini)
  obtain ⟨hx, hb, hml, ho, -⟩ := S
  intro T hT X
  rcases vx_callSX X hx (hh := hh) (bytes := bytes) (maxL := maxL) (ret := ret) ho hl hstt hini hcode hy hK hg (hsize.trans hml.symm) (argsL := As) (rest := rest) (fun sig h => hn.trans (hlen sig h)) hstack hW (by rw [hb]; exact hdg)
    (fun vm₁ hW₁ => ⟨hf.1, hf.2, hp.2 (T.setVm vm₁) hT hW₁⟩) with ⟨v, vm₁, ⟨U', l2, c2, s2⟩, hW₁, X', ⟨g', mk, t, L, e1, e2, hq, h1, hL, h2, h3⟩, st⟩ | ⟨q, vm₁, ⟨U', l2, c2, s2⟩, hW₁, X', ⟨g', mk, t, L, E, ce, e1, e2, hq, hce, hcv, hcl, h1, hL, h2, h3⟩, st⟩
  · dsimp only [Pt.U, Pt.locs, Pt.cells, Pt.slots] at X' e1 e2 h1 h2 h3 st
    subst h1; subst h2; subst h3
    exact Or.inl ⟨v, (T.setVm vm₁).calling g' mk As.toArray, t, U', L, hT, X', hL, e1, e2, hq, st⟩
  · dsimp only [Pt.U, Pt.locs, Pt.cells, Pt.slots] at X' e1 e2 h1 h2 h3 st hcl
    subst h1; subst h2; subst h3
    exact Or.inr ⟨q, (T.setVm vm₁).calling g' mk As.toArray, t, U', L, E, ce, hT, X', hL, e1, e2, hq, hce, hcv, vx_cls hW₁ hcl, st⟩
end
end VXH
theorem vx_ofWH {l : Launch} {y : MethodName} {ws ws' : List Cond} {rm : Room} {Pc : Array Value → State → Prop} {Qc : Array Value → State → Outcome → State → Prop} {XC : String → State → State → Prop} {mc ms : Nat} {free : Addr → Prop} {cc : ByteArray} {maxL : Nat} {ret : Option FieldType} {hh : List (Nat × Nat × Nat × Nat)}
    (hy : plainName y.cls = true) (hw : ws = Cond.codeWith y cc maxL ret hh :: ws')
    (body : ∀ p e s m args below meth c s₁, BodyLoose p l y (headSpec ws rm) cc maxL ret e s m args below meth c s₁ → c.maxLocals = maxL → Pc args s →
      W p l e (headSpec ws rm).room s m args below meth c s.heap [] 0 0 (vx_MQ below Qc XC args s mc ms free) (entryFrame m args maxL)) : vx_Met l y ws rm Pc Qc XC mc ms free := by
  refine MetFree.of_bodyS (code := cc) (maxLocals := maxL) (ret := ret) hy ?_ ?_
  · intro args s m h hn
    obtain ⟨m9, meth, c, hn9, h1, h2, h3, h4, -, h5, h6, -⟩ := Cond.codeWith_spec (atoms_spec (ws := ws) h _ (by rw [hw]; exact List.mem_cons_self))
    cases hn.symm.trans hn9
    exact ⟨meth, c, h1, h2, h3, h4, h5, h6⟩
  · intro p e s m args below meth c s₁ B hml hP _
    have hh0 : s₁.heap = s.heap := by rw [B.state]; rfl
    obtain ⟨t, a1, o, b1, b2, b3⟩ := body p e s m args below meth c s₁ B hml hP s₁ hh0 (Stand.of_body B)
    exact ⟨t, o, a1, b1, b2, b3⟩
/-! ===== END ===== -/
end
section
/-! names, fields (printed by program) -/
def RX0 : String := "CandleRooms$DeedText"
def TX0 : u_T := fun k => match k with
  | 0 => ("CandleRooms$DeedText", "codes", "[C", true)
  | _ => ("CandleRooms$DeedText", "length", "I", false)
def tyX0 : Nat → FieldType := fun k => match k with
  | 0 => .array .char
  | _ => .int
abbrev wsX00 : List Cond := u_ws RX0 TX0 2
theorem nmX0 : ∀ a, a < 2 → ∀ b, b < 2 → a ≠ b → (TX0 a).2.1 ≠ (TX0 b).2.1 := by decide +kernel
theorem tyX0_ok : ∀ k, k < 2 → parseFieldDescriptor (TX0 k).2.2.1 = some (tyX0 k) := by decide +kernel
abbrev cX0_init : ByteArray := prog_2_method_1_code
def yX0_init : MethodName := ⟨RX0, "<init>", "()V"⟩
abbrev cX0_isFull : ByteArray := prog_2_method_2_code
def yX0_isFull : MethodName := ⟨RX0, "isFull", "()Z"⟩
abbrev cX0_add : ByteArray := prog_2_method_3_code
def yX0_add : MethodName := ⟨RX0, "add", "(C)I"⟩
abbrev cX0_empty : ByteArray := prog_2_method_4_code
def yX0_empty : MethodName := ⟨RX0, "empty", "()I"⟩
abbrev cX0_codeAt : ByteArray := prog_2_method_5_code
def yX0_codeAt : MethodName := ⟨RX0, "codeAt", "(I)I"⟩
abbrev cX0_isDigit : ByteArray := prog_2_method_6_code
def yX0_isDigit : MethodName := ⟨RX0, "isDigit", "(III)Z"⟩
abbrev cX0_digitAt : ByteArray := prog_2_method_7_code
def yX0_digitAt : MethodName := ⟨RX0, "digitAt", "(I)I"⟩
abbrev cX0_numberFrom : ByteArray := prog_2_method_8_code
def yX0_numberFrom : MethodName := ⟨RX0, "numberFrom", "(I)I"⟩
abbrev cX0_startsPart : ByteArray := prog_2_method_9_code
def yX0_startsPart : MethodName := ⟨RX0, "startsPart", "(I)Z"⟩
abbrev cX0_errorPlace : ByteArray := prog_2_method_10_code
def yX0_errorPlace : MethodName := ⟨RX0, "errorPlace", "()I"⟩
abbrev cX0_isComplete : ByteArray := prog_2_method_11_code
def yX0_isComplete : MethodName := ⟨RX0, "isComplete", "()Z"⟩
abbrev cX0_stateBehind : ByteArray := prog_2_method_12_code
def yX0_stateBehind : MethodName := ⟨RX0, "stateBehind", "(II)I"⟩
abbrev cX0_stateBehindSign : ByteArray := prog_2_method_13_code
def yX0_stateBehindSign : MethodName := ⟨RX0, "stateBehindSign", "(I)I"⟩
def RX1 : String := "CandleRooms$Room"
def TX1 : u_T := fun k => match k with
  | 0 => ("CandleRooms$Room", "keys", "[I", true)
  | 1 => ("CandleRooms$Room", "dark", "[I", true)
  | 2 => ("CandleRooms$Room", "things", "I", false)
  | 3 => ("CandleRooms$Room", "length", "I", false)
  | 4 => ("CandleRooms$Room", "burns", "Z", false)
  | 5 => ("CandleRooms$Room", "wick", "I", false)
  | 6 => ("CandleRooms$Room", "hasShield", "Z", false)
  | 7 => ("CandleRooms$Room", "doorIsOpen", "Z", false)
  | _ => ("CandleRooms$Room", "beatsBurnt", "I", false)
def tyX1 : Nat → FieldType := fun k => match k with
  | 0 => .array .int
  | 1 => .array .int
  | 2 => .int
  | 3 => .int
  | 4 => .boolean
  | 5 => .int
  | 6 => .boolean
  | 7 => .boolean
  | _ => .int
abbrev wsX10 : List Cond := u_ws RX1 TX1 9
theorem nmX1 : ∀ a, a < 9 → ∀ b, b < 9 → a ≠ b → (TX1 a).2.1 ≠ (TX1 b).2.1 := by decide +kernel
theorem tyX1_ok : ∀ k, k < 9 → parseFieldDescriptor (TX1 k).2.2.1 = some (tyX1 k) := by decide +kernel
abbrev cX1_init : ByteArray := prog_3_method_1_code
def yX1_init : MethodName := ⟨RX1, "<init>", "()V"⟩
abbrev cX1_copyRoom : ByteArray := prog_3_method_2_code
def yX1_copyRoom : MethodName := ⟨RX1, "copyRoom", "(LCandleRooms$Room;)V"⟩
abbrev cX1_number : ByteArray := prog_3_method_3_code
def yX1_number : MethodName := ⟨RX1, "number", "(I)I"⟩
abbrev cX1_keyAt : ByteArray := prog_3_method_4_code
def yX1_keyAt : MethodName := ⟨RX1, "keyAt", "(I)I"⟩
abbrev cX1_darkAt : ByteArray := prog_3_method_5_code
def yX1_darkAt : MethodName := ⟨RX1, "darkAt", "(I)I"⟩
abbrev cX1_placeOf : ByteArray := prog_3_method_6_code
def yX1_placeOf : MethodName := ⟨RX1, "placeOf", "(I)I"⟩
abbrev cX1_addThing : ByteArray := prog_3_method_7_code
def yX1_addThing : MethodName := ⟨RX1, "addThing", "(I)V"⟩
abbrev cX1_takeNewCandle : ByteArray := prog_3_method_8_code
def yX1_takeNewCandle : MethodName := ⟨RX1, "takeNewCandle", "()V"⟩
abbrev cX1_burntInBeat : ByteArray := prog_3_method_9_code
def yX1_burntInBeat : MethodName := ⟨RX1, "burntInBeat", "(I)I"⟩
abbrev cX1_burnForBeat : ByteArray := prog_3_method_10_code
def yX1_burnForBeat : MethodName := ⟨RX1, "burnForBeat", "()V"⟩
abbrev cX1_beatsUntrimmed : ByteArray := prog_3_method_11_code
def yX1_beatsUntrimmed : MethodName := ⟨RX1, "beatsUntrimmed", "()I"⟩
abbrev cX1_beatsSaved : ByteArray := prog_3_method_12_code
def yX1_beatsSaved : MethodName := ⟨RX1, "beatsSaved", "()I"⟩
abbrev cX1_ageThings : ByteArray := prog_3_method_13_code
def yX1_ageThings : MethodName := ⟨RX1, "ageThings", "(I)I"⟩
abbrev cX1_beatsToFirstForgotten : ByteArray := prog_3_method_14_code
def yX1_beatsToFirstForgotten : MethodName := ⟨RX1, "beatsToFirstForgotten", "(II)I"⟩
def RX2 : String := "CandleRooms$SavedStores"
def TX2 : u_T := fun k => match k with
  | 0 => ("CandleRooms$SavedStores", "rows", "[LCandleRooms$Store;", true)
  | _ => ("CandleRooms$SavedStores", "size", "I", false)
def tyX2 : Nat → FieldType := fun k => match k with
  | 0 => .array (.object "CandleRooms$Store")
  | _ => .int
abbrev wsX20 : List Cond := u_ws RX2 TX2 2
theorem nmX2 : ∀ a, a < 2 → ∀ b, b < 2 → a ≠ b → (TX2 a).2.1 ≠ (TX2 b).2.1 := by decide +kernel
theorem tyX2_ok : ∀ k, k < 2 → parseFieldDescriptor (TX2 k).2.2.1 = some (tyX2 k) := by decide +kernel
abbrev cX2_init : ByteArray := prog_4_method_1_code
def yX2_init : MethodName := ⟨RX2, "<init>", "()V"⟩
abbrev cX2_push : ByteArray := prog_4_method_2_code
def yX2_push : MethodName := ⟨RX2, "push", "(LCandleRooms$Store;)V"⟩
abbrev cX2_dropOldest : ByteArray := prog_4_method_3_code
def yX2_dropOldest : MethodName := ⟨RX2, "dropOldest", "()V"⟩
abbrev cX2_popInto : ByteArray := prog_4_method_4_code
def yX2_popInto : MethodName := ⟨RX2, "popInto", "(LCandleRooms$Store;)I"⟩
def RX3 : String := "CandleRooms$Store"
def TX3 : u_T := fun k => match k with
  | 0 => ("CandleRooms$Store", "rooms", "[LCandleRooms$Room;", true)
  | 1 => ("CandleRooms$Store", "beats", "I", false)
  | 2 => ("CandleRooms$Store", "box", "I", false)
  | 3 => ("CandleRooms$Store", "forgotten", "I", false)
  | 4 => ("CandleRooms$Store", "readings", "I", false)
  | 5 => ("CandleRooms$Store", "darkReadings", "I", false)
  | 6 => ("CandleRooms$Store", "blownOut", "I", false)
  | 7 => ("CandleRooms$Store", "draughtRoom", "I", false)
  | 8 => ("CandleRooms$Store", "draughtStrength", "I", false)
  | _ => ("CandleRooms$Store", "setting", "I", false)
def tyX3 : Nat → FieldType := fun k => match k with
  | 0 => .array (.object "CandleRooms$Room")
  | 1 => .int
  | 2 => .int
  | 3 => .int
  | 4 => .int
  | 5 => .int
  | 6 => .int
  | 7 => .int
  | 8 => .int
  | _ => .int
abbrev wsX30 : List Cond := u_ws RX3 TX3 10
theorem nmX3 : ∀ a, a < 10 → ∀ b, b < 10 → a ≠ b → (TX3 a).2.1 ≠ (TX3 b).2.1 := by decide +kernel
theorem tyX3_ok : ∀ k, k < 10 → parseFieldDescriptor (TX3 k).2.2.1 = some (tyX3 k) := by decide +kernel
abbrev cX3_init : ByteArray := prog_5_method_1_code
def yX3_init : MethodName := ⟨RX3, "<init>", "()V"⟩
abbrev cX3_copyFrom : ByteArray := prog_5_method_2_code
def yX3_copyFrom : MethodName := ⟨RX3, "copyFrom", "(LCandleRooms$Store;)V"⟩
abbrev cX3_roomAt : ByteArray := prog_5_method_3_code
def yX3_roomAt : MethodName := ⟨RX3, "roomAt", "(I)LCandleRooms$Room;"⟩
abbrev cX3_candlesBurning : ByteArray := prog_5_method_4_code
def yX3_candlesBurning : MethodName := ⟨RX3, "candlesBurning", "()I"⟩
abbrev cX3_candlesBurningFrom : ByteArray := prog_5_method_5_code
def yX3_candlesBurningFrom : MethodName := ⟨RX3, "candlesBurningFrom", "(II)I"⟩
abbrev cX3_thingsInAll : ByteArray := prog_5_method_6_code
def yX3_thingsInAll : MethodName := ⟨RX3, "thingsInAll", "()I"⟩
abbrev cX3_roomOf : ByteArray := prog_5_method_7_code
def yX3_roomOf : MethodName := ⟨RX3, "roomOf", "(I)I"⟩
abbrev cX3_thingNumber : ByteArray := prog_5_method_8_code
def yX3_thingNumber : MethodName := ⟨RX3, "thingNumber", "(II)I"⟩
abbrev cX3_canStrike : ByteArray := prog_5_method_9_code
def yX3_canStrike : MethodName := ⟨RX3, "canStrike", "(I)Z"⟩
abbrev cX3_canLight : ByteArray := prog_5_method_10_code
def yX3_canLight : MethodName := ⟨RX3, "canLight", "(II)Z"⟩
abbrev cX3_areJoined : ByteArray := prog_5_method_11_code
def yX3_areJoined : MethodName := ⟨RX3, "areJoined", "(II)Z"⟩
abbrev cX3_kindle : ByteArray := prog_5_method_12_code
def yX3_kindle : MethodName := ⟨RX3, "kindle", "(I)I"⟩
abbrev cX3_strikeIfPossible : ByteArray := prog_5_method_13_code
def yX3_strikeIfPossible : MethodName := ⟨RX3, "strikeIfPossible", "(I)Z"⟩
abbrev cX3_lightIfPossible : ByteArray := prog_5_method_14_code
def yX3_lightIfPossible : MethodName := ⟨RX3, "lightIfPossible", "(II)Z"⟩
abbrev cX3_hasNewCandle : ByteArray := prog_5_method_15_code
def yX3_hasNewCandle : MethodName := ⟨RX3, "hasNewCandle", "()Z"⟩
abbrev cX3_putNewCandle : ByteArray := prog_5_method_16_code
def yX3_putNewCandle : MethodName := ⟨RX3, "putNewCandle", "(I)I"⟩
abbrev cX3_renewIfPossible : ByteArray := prog_5_method_17_code
def yX3_renewIfPossible : MethodName := ⟨RX3, "renewIfPossible", "(I)Z"⟩
abbrev cX3_canKeep : ByteArray := prog_5_method_18_code
def yX3_canKeep : MethodName := ⟨RX3, "canKeep", "(II)Z"⟩
abbrev cX3_putThing : ByteArray := prog_5_method_19_code
def yX3_putThing : MethodName := ⟨RX3, "putThing", "(II)I"⟩
abbrev cX3_keepIfPossible : ByteArray := prog_5_method_20_code
def yX3_keepIfPossible : MethodName := ⟨RX3, "keepIfPossible", "(II)Z"⟩
abbrev cX3_beginDraught : ByteArray := prog_5_method_21_code
def yX3_beginDraught : MethodName := ⟨RX3, "beginDraught", "(II)I"⟩
abbrev cX3_roomsBlown : ByteArray := prog_5_method_22_code
def yX3_roomsBlown : MethodName := ⟨RX3, "roomsBlown", "()I"⟩
abbrev cX3_isInDraught : ByteArray := prog_5_method_23_code
def yX3_isInDraught : MethodName := ⟨RX3, "isInDraught", "(I)Z"⟩
abbrev cX3_blow : ByteArray := prog_5_method_24_code
def yX3_blow : MethodName := ⟨RX3, "blow", "()V"⟩
abbrev cX3_passBeats : ByteArray := prog_5_method_25_code
def yX3_passBeats : MethodName := ⟨RX3, "passBeats", "(I)I"⟩
abbrev cX3_passBeat : ByteArray := prog_5_method_26_code
def yX3_passBeat : MethodName := ⟨RX3, "passBeat", "()I"⟩
abbrev cX3_readThing : ByteArray := prog_5_method_27_code
def yX3_readThing : MethodName := ⟨RX3, "readThing", "(I)I"⟩
abbrev cX3_beatsLit : ByteArray := prog_5_method_28_code
def yX3_beatsLit : MethodName := ⟨RX3, "beatsLit", "(I)I"⟩
abbrev cX3_beatsToForgetting : ByteArray := prog_5_method_29_code
def yX3_beatsToForgetting : MethodName := ⟨RX3, "beatsToForgetting", "()I"⟩
abbrev cX3_candlesToLight : ByteArray := prog_5_method_30_code
def yX3_candlesToLight : MethodName := ⟨RX3, "candlesToLight", "(I)I"⟩
abbrev cX3_candlesOnWay : ByteArray := prog_5_method_31_code
def yX3_candlesOnWay : MethodName := ⟨RX3, "candlesOnWay", "(II)I"⟩
abbrev cX3_neediest : ByteArray := prog_5_method_32_code
def yX3_neediest : MethodName := ⟨RX3, "neediest", "()I"⟩
abbrev cX3_isNeedier : ByteArray := prog_5_method_33_code
def yX3_isNeedier : MethodName := ⟨RX3, "isNeedier", "(II)Z"⟩
abbrev cX3_shareInLight : ByteArray := prog_5_method_34_code
def yX3_shareInLight : MethodName := ⟨RX3, "shareInLight", "()D"⟩
def RX4 : String := "CandleRooms"
def TX4 : u_T := fun k => match k with
  | 0 => ("CandleRooms", "store", "LCandleRooms$Store;", true)
  | 1 => ("CandleRooms", "saved", "LCandleRooms$SavedStores;", true)
  | _ => ("CandleRooms", "text", "LCandleRooms$DeedText;", true)
def tyX4 : Nat → FieldType := fun k => match k with
  | 0 => .object "CandleRooms$Store"
  | 1 => .object "CandleRooms$SavedStores"
  | _ => .object "CandleRooms$DeedText"
abbrev wsX40 : List Cond := u_ws RX4 TX4 3
theorem nmX4 : ∀ a, a < 3 → ∀ b, b < 3 → a ≠ b → (TX4 a).2.1 ≠ (TX4 b).2.1 := by decide +kernel
theorem tyX4_ok : ∀ k, k < 3 → parseFieldDescriptor (TX4 k).2.2.1 = some (tyX4 k) := by decide +kernel
abbrev cX4_init : ByteArray := prog_1_method_1_code
def yX4_init : MethodName := ⟨RX4, "<init>", "()V"⟩
abbrev cX4_strike : ByteArray := prog_1_method_2_code
def yX4_strike : MethodName := ⟨RX4, "strike", "(I)I"⟩
abbrev cX4_light : ByteArray := prog_1_method_3_code
def yX4_light : MethodName := ⟨RX4, "light", "(II)I"⟩
abbrev cX4_fresh : ByteArray := prog_1_method_4_code
def yX4_fresh : MethodName := ⟨RX4, "fresh", "(I)I"⟩
abbrev cX4_door : ByteArray := prog_1_method_5_code
def yX4_door : MethodName := ⟨RX4, "door", "(IZ)I"⟩
abbrev cX4_shield : ByteArray := prog_1_method_6_code
def yX4_shield : MethodName := ⟨RX4, "shield", "(IZ)I"⟩
abbrev cX4_draught : ByteArray := prog_1_method_7_code
def yX4_draught : MethodName := ⟨RX4, "draught", "(II)I"⟩
abbrev cX4_set : ByteArray := prog_1_method_8_code
def yX4_set : MethodName := ⟨RX4, "set", "(I)I"⟩
abbrev cX4_keep : ByteArray := prog_1_method_9_code
def yX4_keep : MethodName := ⟨RX4, "keep", "(II)I"⟩
abbrev cX4_read : ByteArray := prog_1_method_10_code
def yX4_read : MethodName := ⟨RX4, "read", "(I)I"⟩
abbrev cX4_pass : ByteArray := prog_1_method_11_code
def yX4_pass : MethodName := ⟨RX4, "pass", "(I)I"⟩
abbrev cX4_append : ByteArray := prog_1_method_12_code
def yX4_append : MethodName := ⟨RX4, "append", "(I)I"⟩
abbrev cX4_clearBuffer : ByteArray := prog_1_method_13_code
def yX4_clearBuffer : MethodName := ⟨RX4, "clearBuffer", "()I"⟩
abbrev cX4_firstError : ByteArray := prog_1_method_14_code
def yX4_firstError : MethodName := ⟨RX4, "firstError", "()I"⟩
abbrev cX4_play : ByteArray := prog_1_method_15_code
def yX4_play : MethodName := ⟨RX4, "play", "()I"⟩
abbrev cX4_undo : ByteArray := prog_1_method_16_code
def yX4_undo : MethodName := ⟨RX4, "undo", "()I"⟩
abbrev cX4_room : ByteArray := prog_1_method_17_code
def yX4_room : MethodName := ⟨RX4, "room", "(II)I"⟩
abbrev cX4_thing : ByteArray := prog_1_method_18_code
def yX4_thing : MethodName := ⟨RX4, "thing", "(II)I"⟩
abbrev cX4_count : ByteArray := prog_1_method_19_code
def yX4_count : MethodName := ⟨RX4, "count", "(I)I"⟩
abbrev cX4_lasts : ByteArray := prog_1_method_20_code
def yX4_lasts : MethodName := ⟨RX4, "lasts", "(I)I"⟩
abbrev cX4_nextForgotten : ByteArray := prog_1_method_21_code
def yX4_nextForgotten : MethodName := ⟨RX4, "nextForgotten", "()I"⟩
abbrev cX4_carried : ByteArray := prog_1_method_22_code
def yX4_carried : MethodName := ⟨RX4, "carried", "(I)I"⟩
abbrev cX4_needy : ByteArray := prog_1_method_23_code
def yX4_needy : MethodName := ⟨RX4, "needy", "()I"⟩
abbrev cX4_saves : ByteArray := prog_1_method_24_code
def yX4_saves : MethodName := ⟨RX4, "saves", "(I)I"⟩
abbrev cX4_lit : ByteArray := prog_1_method_25_code
def yX4_lit : MethodName := ⟨RX4, "lit", "()D"⟩
abbrev cX4_digest : ByteArray := prog_1_method_26_code
def yX4_digest : MethodName := ⟨RX4, "digest", "()J"⟩
abbrev cX4_requireRoom : ByteArray := prog_1_method_27_code
def yX4_requireRoom : MethodName := ⟨RX4, "requireRoom", "(I)V"⟩
abbrev cX4_requireKey : ByteArray := prog_1_method_28_code
def yX4_requireKey : MethodName := ⟨RX4, "requireKey", "(I)V"⟩
abbrev cX4_requireNumber : ByteArray := prog_1_method_29_code
def yX4_requireNumber : MethodName := ⟨RX4, "requireNumber", "(II)V"⟩
abbrev cX4_isRoom : ByteArray := prog_1_method_30_code
def yX4_isRoom : MethodName := ⟨RX4, "isRoom", "(I)Z"⟩
abbrev cX4_asNumber : ByteArray := prog_1_method_31_code
def yX4_asNumber : MethodName := ⟨RX4, "asNumber", "(Z)I"⟩
abbrev cX4_countNumber : ByteArray := prog_1_method_32_code
def yX4_countNumber : MethodName := ⟨RX4, "countNumber", "(I)I"⟩
abbrev cX4_playDeeds : ByteArray := prog_1_method_33_code
def yX4_playDeeds : MethodName := ⟨RX4, "playDeeds", "()I"⟩
abbrev cX4_playDeed : ByteArray := prog_1_method_34_code
def yX4_playDeed : MethodName := ⟨RX4, "playDeed", "(I)Z"⟩
abbrev cX4_mix : ByteArray := prog_1_method_35_code
def yX4_mix : MethodName := ⟨RX4, "mix", "(JJ)J"⟩
abbrev cX4_mixRoom : ByteArray := prog_1_method_36_code
def yX4_mixRoom : MethodName := ⟨RX4, "mixRoom", "(JI)J"⟩
abbrev cX4_bitsOf : ByteArray := prog_1_method_37_code
def yX4_bitsOf : MethodName := ⟨RX4, "bitsOf", "(D)J"⟩
def RX5 : String := "CandleRoomsModel"
def TX5 : u_T := fun k => match k with
  | 0 => ("CandleRoomsModel", "now", "[I", true)
  | 1 => ("CandleRoomsModel", "then", "[I", true)
  | 2 => ("CandleRoomsModel", "past", "[I", true)
  | 3 => ("CandleRoomsModel", "kept", "I", false)
  | 4 => ("CandleRoomsModel", "text", "[I", true)
  | 5 => ("CandleRoomsModel", "typed", "I", false)
  | 6 => ("CandleRoomsModel", "thrown", "I", false)
  | 7 => ("CandleRoomsModel", "at", "I", false)
  | 8 => ("CandleRoomsModel", "isFault", "Z", false)
  | 9 => ("CandleRoomsModel", "told", "[I", true)
  | _ => ("CandleRoomsModel", "tolds", "I", false)
def tyX5 : Nat → FieldType := fun k => match k with
  | 0 => .array .int
  | 1 => .array .int
  | 2 => .array .int
  | 3 => .int
  | 4 => .array .int
  | 5 => .int
  | 6 => .int
  | 7 => .int
  | 8 => .boolean
  | 9 => .array .int
  | _ => .int
abbrev wsX50 : List Cond := u_ws RX5 TX5 11
theorem nmX5 : ∀ a, a < 11 → ∀ b, b < 11 → a ≠ b → (TX5 a).2.1 ≠ (TX5 b).2.1 := by decide +kernel
theorem tyX5_ok : ∀ k, k < 11 → parseFieldDescriptor (TX5 k).2.2.1 = some (tyX5 k) := by decide +kernel
abbrev cX5_init : ByteArray := prog_7_method_1_code
def yX5_init : MethodName := ⟨RX5, "<init>", "()V"⟩
abbrev cX5_thrown : ByteArray := prog_7_method_2_code
def yX5_thrown : MethodName := ⟨RX5, "thrown", "()I"⟩
abbrev cX5_fails : ByteArray := prog_7_method_3_code
def yX5_fails : MethodName := ⟨RX5, "fails", "(I)I"⟩
abbrev cX5_in : ByteArray := prog_7_method_4_code
def yX5_in : MethodName := ⟨RX5, "in", "(III)Z"⟩
abbrev cX5_isRoom : ByteArray := prog_7_method_5_code
def yX5_isRoom : MethodName := ⟨RX5, "isRoom", "(I)Z"⟩
abbrev cX5_of : ByteArray := prog_7_method_6_code
def yX5_of : MethodName := ⟨RX5, "of", "([III)I"⟩
abbrev cX5_isLit : ByteArray := prog_7_method_7_code
def yX5_isLit : MethodName := ⟨RX5, "isLit", "([II)Z"⟩
abbrev cX5_burning : ByteArray := prog_7_method_8_code
def yX5_burning : MethodName := ⟨RX5, "burning", "([I)I"⟩
abbrev cX5_copies : ByteArray := prog_7_method_9_code
def yX5_copies : MethodName := ⟨RX5, "copies", "([II[II)V"⟩
abbrev cX5_keepsState : ByteArray := prog_7_method_10_code
def yX5_keepsState : MethodName := ⟨RX5, "keepsState", "()V"⟩
abbrev cX5_undo : ByteArray := prog_7_method_11_code
def yX5_undo : MethodName := ⟨RX5, "undo", "()I"⟩
abbrev cX5_mayStrike : ByteArray := prog_7_method_12_code
def yX5_mayStrike : MethodName := ⟨RX5, "mayStrike", "([II)Z"⟩
abbrev cX5_isOpen : ByteArray := prog_7_method_13_code
def yX5_isOpen : MethodName := ⟨RX5, "isOpen", "([III)Z"⟩
abbrev cX5_mayLight : ByteArray := prog_7_method_14_code
def yX5_mayLight : MethodName := ⟨RX5, "mayLight", "([III)Z"⟩
abbrev cX5_lights : ByteArray := prog_7_method_15_code
def yX5_lights : MethodName := ⟨RX5, "lights", "([II)V"⟩
abbrev cX5_renews : ByteArray := prog_7_method_16_code
def yX5_renews : MethodName := ⟨RX5, "renews", "([II)V"⟩
abbrev cX5_reaches : ByteArray := prog_7_method_17_code
def yX5_reaches : MethodName := ⟨RX5, "reaches", "([III)I"⟩
abbrev cX5_blows : ByteArray := prog_7_method_18_code
def yX5_blows : MethodName := ⟨RX5, "blows", "([III)I"⟩
abbrev cX5_strike : ByteArray := prog_7_method_19_code
def yX5_strike : MethodName := ⟨RX5, "strike", "(I)I"⟩
abbrev cX5_light : ByteArray := prog_7_method_20_code
def yX5_light : MethodName := ⟨RX5, "light", "(II)I"⟩
abbrev cX5_fresh : ByteArray := prog_7_method_21_code
def yX5_fresh : MethodName := ⟨RX5, "fresh", "(I)I"⟩
abbrev cX5_switches : ByteArray := prog_7_method_22_code
def yX5_switches : MethodName := ⟨RX5, "switches", "(IIZ)I"⟩
abbrev cX5_door : ByteArray := prog_7_method_23_code
def yX5_door : MethodName := ⟨RX5, "door", "(IZ)I"⟩
abbrev cX5_shield : ByteArray := prog_7_method_24_code
def yX5_shield : MethodName := ⟨RX5, "shield", "(IZ)I"⟩
abbrev cX5_draught : ByteArray := prog_7_method_25_code
def yX5_draught : MethodName := ⟨RX5, "draught", "(II)I"⟩
abbrev cX5_set : ByteArray := prog_7_method_26_code
def yX5_set : MethodName := ⟨RX5, "set", "(I)I"⟩
abbrev cX5_burns : ByteArray := prog_7_method_27_code
def yX5_burns : MethodName := ⟨RX5, "burns", "([II)V"⟩
abbrev cX5_draws : ByteArray := prog_7_method_28_code
def yX5_draws : MethodName := ⟨RX5, "draws", "([I)V"⟩
abbrev cX5_ages : ByteArray := prog_7_method_29_code
def yX5_ages : MethodName := ⟨RX5, "ages", "([II)V"⟩
abbrev cX5_beats : ByteArray := prog_7_method_30_code
def yX5_beats : MethodName := ⟨RX5, "beats", "([II)V"⟩
abbrev cX5_find : ByteArray := prog_7_method_31_code
def yX5_find : MethodName := ⟨RX5, "find", "([II)I"⟩
abbrev cX5_mayKeep : ByteArray := prog_7_method_32_code
def yX5_mayKeep : MethodName := ⟨RX5, "mayKeep", "([III)Z"⟩
abbrev cX5_keeps : ByteArray := prog_7_method_33_code
def yX5_keeps : MethodName := ⟨RX5, "keeps", "([III)I"⟩
abbrev cX5_keep : ByteArray := prog_7_method_34_code
def yX5_keep : MethodName := ⟨RX5, "keep", "(II)I"⟩
abbrev cX5_read : ByteArray := prog_7_method_35_code
def yX5_read : MethodName := ⟨RX5, "read", "(I)I"⟩
abbrev cX5_pass : ByteArray := prog_7_method_36_code
def yX5_pass : MethodName := ⟨RX5, "pass", "(I)I"⟩
abbrev cX5_append : ByteArray := prog_7_method_37_code
def yX5_append : MethodName := ⟨RX5, "append", "(I)I"⟩
abbrev cX5_clearBuffer : ByteArray := prog_7_method_38_code
def yX5_clearBuffer : MethodName := ⟨RX5, "clearBuffer", "()I"⟩
abbrev cX5_isAt : ByteArray := prog_7_method_39_code
def yX5_isAt : MethodName := ⟨RX5, "isAt", "(II)Z"⟩
abbrev cX5_stops : ByteArray := prog_7_method_40_code
def yX5_stops : MethodName := ⟨RX5, "stops", "()Z"⟩
abbrev cX5_isPart : ByteArray := prog_7_method_41_code
def yX5_isPart : MethodName := ⟨RX5, "isPart", "()Z"⟩
abbrev cX5_isNumber : ByteArray := prog_7_method_42_code
def yX5_isNumber : MethodName := ⟨RX5, "isNumber", "(IIZ)Z"⟩
abbrev cX5_isText : ByteArray := prog_7_method_43_code
def yX5_isText : MethodName := ⟨RX5, "isText", "()Z"⟩
abbrev cX5_firstError : ByteArray := prog_7_method_44_code
def yX5_firstError : MethodName := ⟨RX5, "firstError", "()I"⟩
abbrev cX5_does : ByteArray := prog_7_method_45_code
def yX5_does : MethodName := ⟨RX5, "does", "(I)Z"⟩
abbrev cX5_play : ByteArray := prog_7_method_46_code
def yX5_play : MethodName := ⟨RX5, "play", "()I"⟩
abbrev cX5_ofRoom : ByteArray := prog_7_method_47_code
def yX5_ofRoom : MethodName := ⟨RX5, "ofRoom", "(II)I"⟩
abbrev cX5_room : ByteArray := prog_7_method_48_code
def yX5_room : MethodName := ⟨RX5, "room", "(II)I"⟩
abbrev cX5_thing : ByteArray := prog_7_method_49_code
def yX5_thing : MethodName := ⟨RX5, "thing", "(II)I"⟩
abbrev cX5_things : ByteArray := prog_7_method_50_code
def yX5_things : MethodName := ⟨RX5, "things", "()I"⟩
abbrev cX5_counted : ByteArray := prog_7_method_51_code
def yX5_counted : MethodName := ⟨RX5, "counted", "(I)I"⟩
abbrev cX5_count : ByteArray := prog_7_method_52_code
def yX5_count : MethodName := ⟨RX5, "count", "(I)I"⟩
abbrev cX5_stays : ByteArray := prog_7_method_53_code
def yX5_stays : MethodName := ⟨RX5, "stays", "(I)I"⟩
abbrev cX5_lasts : ByteArray := prog_7_method_54_code
def yX5_lasts : MethodName := ⟨RX5, "lasts", "(I)I"⟩
abbrev cX5_firstForgotten : ByteArray := prog_7_method_55_code
def yX5_firstForgotten : MethodName := ⟨RX5, "firstForgotten", "()I"⟩
abbrev cX5_nextForgotten : ByteArray := prog_7_method_56_code
def yX5_nextForgotten : MethodName := ⟨RX5, "nextForgotten", "()I"⟩
abbrev cX5_way : ByteArray := prog_7_method_57_code
def yX5_way : MethodName := ⟨RX5, "way", "(II)I"⟩
abbrev cX5_fewest : ByteArray := prog_7_method_58_code
def yX5_fewest : MethodName := ⟨RX5, "fewest", "(I)I"⟩
abbrev cX5_carried : ByteArray := prog_7_method_59_code
def yX5_carried : MethodName := ⟨RX5, "carried", "(I)I"⟩
abbrev cX5_neediest : ByteArray := prog_7_method_60_code
def yX5_neediest : MethodName := ⟨RX5, "neediest", "()I"⟩
abbrev cX5_needy : ByteArray := prog_7_method_61_code
def yX5_needy : MethodName := ⟨RX5, "needy", "()I"⟩
abbrev cX5_saved : ByteArray := prog_7_method_62_code
def yX5_saved : MethodName := ⟨RX5, "saved", "(I)I"⟩
abbrev cX5_saves : ByteArray := prog_7_method_63_code
def yX5_saves : MethodName := ⟨RX5, "saves", "(I)I"⟩
abbrev cX5_share : ByteArray := prog_7_method_64_code
def yX5_share : MethodName := ⟨RX5, "share", "()D"⟩
abbrev cX5_lit : ByteArray := prog_7_method_65_code
def yX5_lit : MethodName := ⟨RX5, "lit", "()D"⟩
abbrev cX5_digest : ByteArray := prog_7_method_66_code
def yX5_digest : MethodName := ⟨RX5, "digest", "()J"⟩
def RJxe99ae : String := "java/lang/Double"
def TJxe99ae : u_T := fun k => match k with
  | _ => ("", "", "", false)
def tyJxe99ae : Nat → FieldType := fun k => match k with
  | _ => .int
theorem nmJxe99ae : ∀ a, a < 0 → ∀ b, b < 0 → a ≠ b → (TJxe99ae a).2.1 ≠ (TJxe99ae b).2.1 := by decide +kernel
theorem tyJxe99ae_ok : ∀ k, k < 0 → parseFieldDescriptor (TJxe99ae k).2.2.1 = some (tyJxe99ae k) := by decide +kernel
abbrev cJxe99ae_isNaN_b9ae7 : ByteArray := prog_8_method_6_code
def yJxe99ae_isNaN_b9ae7 : MethodName := ⟨RJxe99ae, "isNaN", "(D)Z"⟩
abbrev cJxe99ae_doubleToLongBits_ccdee : ByteArray := prog_8_method_23_code
def yJxe99ae_doubleToLongBits_ccdee : MethodName := ⟨RJxe99ae, "doubleToLongBits", "(D)J"⟩
def RJ9 : String := "java/lang/Math"
def TJ9 : u_T := fun k => match k with
  | _ => ("", "", "", false)
def tyJ9 : Nat → FieldType := fun k => match k with
  | _ => .int
theorem nmJ9 : ∀ a, a < 0 → ∀ b, b < 0 → a ≠ b → (TJ9 a).2.1 ≠ (TJ9 b).2.1 := by decide +kernel
theorem tyJ9_ok : ∀ k, k < 0 → parseFieldDescriptor (TJ9 k).2.2.1 = some (tyJ9 k) := by decide +kernel
abbrev cJ9_floorMod_7cf53 : ByteArray := prog_13_method_50_code
def yJ9_floorMod_7cf53 : MethodName := ⟨RJ9, "floorMod", "(II)I"⟩
abbrev cJ9_max_7cf53 : ByteArray := prog_13_method_65_code
def yJ9_max_7cf53 : MethodName := ⟨RJ9, "max", "(II)I"⟩
abbrev cJ9_min_7cf53 : ByteArray := prog_13_method_69_code
def yJ9_min_7cf53 : MethodName := ⟨RJ9, "min", "(II)I"⟩
def RJ0 : String := "java/lang/String"
def TJ0 : u_T := fun k => match k with
  | _ => ("", "", "", false)
def tyJ0 : Nat → FieldType := fun k => match k with
  | _ => .int
theorem nmJ0 : ∀ a, a < 0 → ∀ b, b < 0 → a ≠ b → (TJ0 a).2.1 ≠ (TJ0 b).2.1 := by decide +kernel
theorem tyJ0_ok : ∀ k, k < 0 → parseFieldDescriptor (TJ0 k).2.2.1 = some (tyJ0 k) := by decide +kernel
def RJ10 : String := "java/lang/System"
def TJ10 : u_T := fun k => match k with
  | _ => ("", "", "", false)
def tyJ10 : Nat → FieldType := fun k => match k with
  | _ => .int
theorem nmJ10 : ∀ a, a < 0 → ∀ b, b < 0 → a ≠ b → (TJ10 a).2.1 ≠ (TJ10 b).2.1 := by decide +kernel
theorem tyJ10_ok : ∀ k, k < 0 → parseFieldDescriptor (TJ10 k).2.2.1 = some (tyJ10 k) := by decide +kernel
def RL : String := "CandleRoomsLaw"
abbrev cL_strike : ByteArray := method_3_code
def yL_strike : MethodName := ⟨RL, "strike", "(LCandleRooms;I[J)I"⟩
abbrev cL_light : ByteArray := method_4_code
def yL_light : MethodName := ⟨RL, "light", "(LCandleRooms;II[J)I"⟩
abbrev cL_fresh : ByteArray := method_5_code
def yL_fresh : MethodName := ⟨RL, "fresh", "(LCandleRooms;I[J)I"⟩
abbrev cL_door : ByteArray := method_6_code
def yL_door : MethodName := ⟨RL, "door", "(LCandleRooms;IZ[J)I"⟩
abbrev cL_shield : ByteArray := method_7_code
def yL_shield : MethodName := ⟨RL, "shield", "(LCandleRooms;IZ[J)I"⟩
abbrev cL_draught : ByteArray := method_8_code
def yL_draught : MethodName := ⟨RL, "draught", "(LCandleRooms;II[J)I"⟩
abbrev cL_set : ByteArray := method_9_code
def yL_set : MethodName := ⟨RL, "set", "(LCandleRooms;I[J)I"⟩
abbrev cL_keep : ByteArray := method_10_code
def yL_keep : MethodName := ⟨RL, "keep", "(LCandleRooms;II[J)I"⟩
abbrev cL_read : ByteArray := method_11_code
def yL_read : MethodName := ⟨RL, "read", "(LCandleRooms;I[J)I"⟩
abbrev cL_pass : ByteArray := method_12_code
def yL_pass : MethodName := ⟨RL, "pass", "(LCandleRooms;I[J)I"⟩
abbrev cL_append : ByteArray := method_13_code
def yL_append : MethodName := ⟨RL, "append", "(LCandleRooms;I[J)I"⟩
abbrev cL_play : ByteArray := method_14_code
def yL_play : MethodName := ⟨RL, "play", "(LCandleRooms;[J)I"⟩
abbrev cL_undo : ByteArray := method_15_code
def yL_undo : MethodName := ⟨RL, "undo", "(LCandleRooms;[J)I"⟩
abbrev cL_room : ByteArray := method_16_code
def yL_room : MethodName := ⟨RL, "room", "(LCandleRooms;II[J)I"⟩
abbrev cL_thing : ByteArray := method_17_code
def yL_thing : MethodName := ⟨RL, "thing", "(LCandleRooms;II[J)I"⟩
abbrev cL_count : ByteArray := method_18_code
def yL_count : MethodName := ⟨RL, "count", "(LCandleRooms;I[J)I"⟩
abbrev cL_lasts : ByteArray := method_19_code
def yL_lasts : MethodName := ⟨RL, "lasts", "(LCandleRooms;I[J)I"⟩
abbrev cL_carried : ByteArray := method_20_code
def yL_carried : MethodName := ⟨RL, "carried", "(LCandleRooms;I[J)I"⟩
abbrev cL_saves : ByteArray := method_21_code
def yL_saves : MethodName := ⟨RL, "saves", "(LCandleRooms;I[J)I"⟩
abbrev cL_law : ByteArray := code
def yL_law : MethodName := ⟨RL, "law", "([I)Z"⟩
abbrev vwCl : List vw_C := [(RX0, TX0, 2), (RX1, TX1, 9), (RX2, TX2, 2), (RX3, TX3, 10), (RX4, TX4, 3), (RX5, TX5, 11)]
/-- the words that hold anywhere -/
def WS : List Cond := lw_tbl.filter goodWord
theorem gws {w : Cond} (i : Nat) (h : lw_tbl[i]? = some w) (g : goodWord w = true) : w ∈ WS := List.mem_filter.mpr ⟨List.mem_of_getElem? h, g⟩
theorem WS_good : GoodIn WS WS := fun w h => ⟨h, good_of_word (List.mem_filter.mp h).2⟩
theorem WS_tbl {w : Cond} (h : w ∈ WS) : w ∈ lw_tbl := (List.mem_filter.mp h).1
end
section
/-! decode rows (printed by program) -/
theorem dL_strike_0 : decode cL_strike 0 = .ok (.aload_n 2, 1) := by decide +kernel
theorem dL_strike_1 : decode cL_strike 1 = .ok (.iconst 0, 1) := by decide +kernel
theorem dL_strike_2 : decode cL_strike 2 = .ok (.aload_n 0, 1) := by decide +kernel
theorem dL_strike_3 : decode cL_strike 3 = .ok (.iload_n 1, 1) := by decide +kernel
theorem dL_strike_4 : decode cL_strike 4 = .ok (.invokevirtual 7, 3) := by decide +kernel
theorem dL_strike_7 : decode cL_strike 7 = .ok (.i2l, 1) := by decide +kernel
theorem dL_strike_8 : decode cL_strike 8 = .ok (.lastore, 1) := by decide +kernel
theorem dL_strike_9 : decode cL_strike 9 = .ok (.goto 9, 3) := by decide +kernel
theorem dL_strike_12 : decode cL_strike 12 = .ok (.astore_n 3, 1) := by decide +kernel
theorem dL_strike_13 : decode cL_strike 13 = .ok (.iconst 1, 1) := by decide +kernel
theorem dL_strike_14 : decode cL_strike 14 = .ok (.ireturn, 1) := by decide +kernel
theorem dL_strike_15 : decode cL_strike 15 = .ok (.astore_n 3, 1) := by decide +kernel
theorem dL_strike_16 : decode cL_strike 16 = .ok (.iconst 2, 1) := by decide +kernel
theorem dL_strike_17 : decode cL_strike 17 = .ok (.ireturn, 1) := by decide +kernel
theorem dL_strike_18 : decode cL_strike 18 = .ok (.iconst 0, 1) := by decide +kernel
theorem dL_strike_19 : decode cL_strike 19 = .ok (.ireturn, 1) := by decide +kernel
theorem dL_light_0 : decode cL_light 0 = .ok (.aload_n 3, 1) := by decide +kernel
theorem dL_light_1 : decode cL_light 1 = .ok (.iconst 0, 1) := by decide +kernel
theorem dL_light_2 : decode cL_light 2 = .ok (.aload_n 0, 1) := by decide +kernel
theorem dL_light_3 : decode cL_light 3 = .ok (.iload_n 1, 1) := by decide +kernel
theorem dL_light_4 : decode cL_light 4 = .ok (.iload_n 2, 1) := by decide +kernel
theorem dL_light_5 : decode cL_light 5 = .ok (.invokevirtual 17, 3) := by decide +kernel
theorem dL_light_8 : decode cL_light 8 = .ok (.i2l, 1) := by decide +kernel
theorem dL_light_9 : decode cL_light 9 = .ok (.lastore, 1) := by decide +kernel
theorem dL_light_10 : decode cL_light 10 = .ok (.goto 11, 3) := by decide +kernel
theorem dL_light_13 : decode cL_light 13 = .ok (.astore 4, 2) := by decide +kernel
theorem dL_light_15 : decode cL_light 15 = .ok (.iconst 1, 1) := by decide +kernel
theorem dL_light_16 : decode cL_light 16 = .ok (.ireturn, 1) := by decide +kernel
theorem dL_light_17 : decode cL_light 17 = .ok (.astore 4, 2) := by decide +kernel
theorem dL_light_19 : decode cL_light 19 = .ok (.iconst 2, 1) := by decide +kernel
theorem dL_light_20 : decode cL_light 20 = .ok (.ireturn, 1) := by decide +kernel
theorem dL_light_21 : decode cL_light 21 = .ok (.iconst 0, 1) := by decide +kernel
theorem dL_light_22 : decode cL_light 22 = .ok (.ireturn, 1) := by decide +kernel
theorem dL_fresh_0 : decode cL_fresh 0 = .ok (.aload_n 2, 1) := by decide +kernel
theorem dL_fresh_1 : decode cL_fresh 1 = .ok (.iconst 0, 1) := by decide +kernel
theorem dL_fresh_2 : decode cL_fresh 2 = .ok (.aload_n 0, 1) := by decide +kernel
theorem dL_fresh_3 : decode cL_fresh 3 = .ok (.iload_n 1, 1) := by decide +kernel
theorem dL_fresh_4 : decode cL_fresh 4 = .ok (.invokevirtual 21, 3) := by decide +kernel
theorem dL_fresh_7 : decode cL_fresh 7 = .ok (.i2l, 1) := by decide +kernel
theorem dL_fresh_8 : decode cL_fresh 8 = .ok (.lastore, 1) := by decide +kernel
theorem dL_fresh_9 : decode cL_fresh 9 = .ok (.goto 9, 3) := by decide +kernel
theorem dL_fresh_12 : decode cL_fresh 12 = .ok (.astore_n 3, 1) := by decide +kernel
theorem dL_fresh_13 : decode cL_fresh 13 = .ok (.iconst 1, 1) := by decide +kernel
theorem dL_fresh_14 : decode cL_fresh 14 = .ok (.ireturn, 1) := by decide +kernel
theorem dL_fresh_15 : decode cL_fresh 15 = .ok (.astore_n 3, 1) := by decide +kernel
theorem dL_fresh_16 : decode cL_fresh 16 = .ok (.iconst 2, 1) := by decide +kernel
theorem dL_fresh_17 : decode cL_fresh 17 = .ok (.ireturn, 1) := by decide +kernel
theorem dL_fresh_18 : decode cL_fresh 18 = .ok (.iconst 0, 1) := by decide +kernel
theorem dL_fresh_19 : decode cL_fresh 19 = .ok (.ireturn, 1) := by decide +kernel
theorem dL_door_0 : decode cL_door 0 = .ok (.aload_n 3, 1) := by decide +kernel
theorem dL_door_1 : decode cL_door 1 = .ok (.iconst 0, 1) := by decide +kernel
theorem dL_door_2 : decode cL_door 2 = .ok (.aload_n 0, 1) := by decide +kernel
theorem dL_door_3 : decode cL_door 3 = .ok (.iload_n 1, 1) := by decide +kernel
theorem dL_door_4 : decode cL_door 4 = .ok (.iload_n 2, 1) := by decide +kernel
theorem dL_door_5 : decode cL_door 5 = .ok (.invokevirtual 24, 3) := by decide +kernel
theorem dL_door_8 : decode cL_door 8 = .ok (.i2l, 1) := by decide +kernel
theorem dL_door_9 : decode cL_door 9 = .ok (.lastore, 1) := by decide +kernel
theorem dL_door_10 : decode cL_door 10 = .ok (.goto 7, 3) := by decide +kernel
theorem dL_door_13 : decode cL_door 13 = .ok (.astore 4, 2) := by decide +kernel
theorem dL_door_15 : decode cL_door 15 = .ok (.iconst 1, 1) := by decide +kernel
theorem dL_door_16 : decode cL_door 16 = .ok (.ireturn, 1) := by decide +kernel
theorem dL_door_17 : decode cL_door 17 = .ok (.iconst 0, 1) := by decide +kernel
theorem dL_door_18 : decode cL_door 18 = .ok (.ireturn, 1) := by decide +kernel
theorem dL_shield_0 : decode cL_shield 0 = .ok (.aload_n 3, 1) := by decide +kernel
theorem dL_shield_1 : decode cL_shield 1 = .ok (.iconst 0, 1) := by decide +kernel
theorem dL_shield_2 : decode cL_shield 2 = .ok (.aload_n 0, 1) := by decide +kernel
theorem dL_shield_3 : decode cL_shield 3 = .ok (.iload_n 1, 1) := by decide +kernel
theorem dL_shield_4 : decode cL_shield 4 = .ok (.iload_n 2, 1) := by decide +kernel
theorem dL_shield_5 : decode cL_shield 5 = .ok (.invokevirtual 28, 3) := by decide +kernel
theorem dL_shield_8 : decode cL_shield 8 = .ok (.i2l, 1) := by decide +kernel
theorem dL_shield_9 : decode cL_shield 9 = .ok (.lastore, 1) := by decide +kernel
theorem dL_shield_10 : decode cL_shield 10 = .ok (.goto 7, 3) := by decide +kernel
theorem dL_shield_13 : decode cL_shield 13 = .ok (.astore 4, 2) := by decide +kernel
theorem dL_shield_15 : decode cL_shield 15 = .ok (.iconst 1, 1) := by decide +kernel
theorem dL_shield_16 : decode cL_shield 16 = .ok (.ireturn, 1) := by decide +kernel
theorem dL_shield_17 : decode cL_shield 17 = .ok (.iconst 0, 1) := by decide +kernel
theorem dL_shield_18 : decode cL_shield 18 = .ok (.ireturn, 1) := by decide +kernel
theorem dL_draught_0 : decode cL_draught 0 = .ok (.aload_n 3, 1) := by decide +kernel
theorem dL_draught_1 : decode cL_draught 1 = .ok (.iconst 0, 1) := by decide +kernel
theorem dL_draught_2 : decode cL_draught 2 = .ok (.aload_n 0, 1) := by decide +kernel
theorem dL_draught_3 : decode cL_draught 3 = .ok (.iload_n 1, 1) := by decide +kernel
theorem dL_draught_4 : decode cL_draught 4 = .ok (.iload_n 2, 1) := by decide +kernel
theorem dL_draught_5 : decode cL_draught 5 = .ok (.invokevirtual 31, 3) := by decide +kernel
theorem dL_draught_8 : decode cL_draught 8 = .ok (.i2l, 1) := by decide +kernel
theorem dL_draught_9 : decode cL_draught 9 = .ok (.lastore, 1) := by decide +kernel
theorem dL_draught_10 : decode cL_draught 10 = .ok (.goto 11, 3) := by decide +kernel
theorem dL_draught_13 : decode cL_draught 13 = .ok (.astore 4, 2) := by decide +kernel
theorem dL_draught_15 : decode cL_draught 15 = .ok (.iconst 1, 1) := by decide +kernel
theorem dL_draught_16 : decode cL_draught 16 = .ok (.ireturn, 1) := by decide +kernel
theorem dL_draught_17 : decode cL_draught 17 = .ok (.astore 4, 2) := by decide +kernel
theorem dL_draught_19 : decode cL_draught 19 = .ok (.iconst 2, 1) := by decide +kernel
theorem dL_draught_20 : decode cL_draught 20 = .ok (.ireturn, 1) := by decide +kernel
theorem dL_draught_21 : decode cL_draught 21 = .ok (.iconst 0, 1) := by decide +kernel
theorem dL_draught_22 : decode cL_draught 22 = .ok (.ireturn, 1) := by decide +kernel
theorem dL_set_0 : decode cL_set 0 = .ok (.aload_n 2, 1) := by decide +kernel
theorem dL_set_1 : decode cL_set 1 = .ok (.iconst 0, 1) := by decide +kernel
theorem dL_set_2 : decode cL_set 2 = .ok (.aload_n 0, 1) := by decide +kernel
theorem dL_set_3 : decode cL_set 3 = .ok (.iload_n 1, 1) := by decide +kernel
theorem dL_set_4 : decode cL_set 4 = .ok (.invokevirtual 36, 3) := by decide +kernel
theorem dL_set_7 : decode cL_set 7 = .ok (.i2l, 1) := by decide +kernel
theorem dL_set_8 : decode cL_set 8 = .ok (.lastore, 1) := by decide +kernel
theorem dL_set_9 : decode cL_set 9 = .ok (.goto 6, 3) := by decide +kernel
theorem dL_set_12 : decode cL_set 12 = .ok (.astore_n 3, 1) := by decide +kernel
theorem dL_set_13 : decode cL_set 13 = .ok (.iconst 1, 1) := by decide +kernel
theorem dL_set_14 : decode cL_set 14 = .ok (.ireturn, 1) := by decide +kernel
theorem dL_set_15 : decode cL_set 15 = .ok (.iconst 0, 1) := by decide +kernel
theorem dL_set_16 : decode cL_set 16 = .ok (.ireturn, 1) := by decide +kernel
theorem dL_keep_0 : decode cL_keep 0 = .ok (.aload_n 3, 1) := by decide +kernel
theorem dL_keep_1 : decode cL_keep 1 = .ok (.iconst 0, 1) := by decide +kernel
theorem dL_keep_2 : decode cL_keep 2 = .ok (.aload_n 0, 1) := by decide +kernel
theorem dL_keep_3 : decode cL_keep 3 = .ok (.iload_n 1, 1) := by decide +kernel
theorem dL_keep_4 : decode cL_keep 4 = .ok (.iload_n 2, 1) := by decide +kernel
theorem dL_keep_5 : decode cL_keep 5 = .ok (.invokevirtual 39, 3) := by decide +kernel
theorem dL_keep_8 : decode cL_keep 8 = .ok (.i2l, 1) := by decide +kernel
theorem dL_keep_9 : decode cL_keep 9 = .ok (.lastore, 1) := by decide +kernel
theorem dL_keep_10 : decode cL_keep 10 = .ok (.goto 15, 3) := by decide +kernel
theorem dL_keep_13 : decode cL_keep 13 = .ok (.astore 4, 2) := by decide +kernel
theorem dL_keep_15 : decode cL_keep 15 = .ok (.iconst 1, 1) := by decide +kernel
theorem dL_keep_16 : decode cL_keep 16 = .ok (.ireturn, 1) := by decide +kernel
theorem dL_keep_17 : decode cL_keep 17 = .ok (.astore 4, 2) := by decide +kernel
theorem dL_keep_19 : decode cL_keep 19 = .ok (.iconst 2, 1) := by decide +kernel
theorem dL_keep_20 : decode cL_keep 20 = .ok (.ireturn, 1) := by decide +kernel
theorem dL_keep_21 : decode cL_keep 21 = .ok (.astore 4, 2) := by decide +kernel
theorem dL_keep_23 : decode cL_keep 23 = .ok (.iconst 3, 1) := by decide +kernel
theorem dL_keep_24 : decode cL_keep 24 = .ok (.ireturn, 1) := by decide +kernel
theorem dL_keep_25 : decode cL_keep 25 = .ok (.iconst 0, 1) := by decide +kernel
theorem dL_keep_26 : decode cL_keep 26 = .ok (.ireturn, 1) := by decide +kernel
theorem dL_read_0 : decode cL_read 0 = .ok (.aload_n 2, 1) := by decide +kernel
theorem dL_read_1 : decode cL_read 1 = .ok (.iconst 0, 1) := by decide +kernel
theorem dL_read_2 : decode cL_read 2 = .ok (.aload_n 0, 1) := by decide +kernel
theorem dL_read_3 : decode cL_read 3 = .ok (.iload_n 1, 1) := by decide +kernel
theorem dL_read_4 : decode cL_read 4 = .ok (.invokevirtual 42, 3) := by decide +kernel
theorem dL_read_7 : decode cL_read 7 = .ok (.i2l, 1) := by decide +kernel
theorem dL_read_8 : decode cL_read 8 = .ok (.lastore, 1) := by decide +kernel
theorem dL_read_9 : decode cL_read 9 = .ok (.goto 6, 3) := by decide +kernel
theorem dL_read_12 : decode cL_read 12 = .ok (.astore_n 3, 1) := by decide +kernel
theorem dL_read_13 : decode cL_read 13 = .ok (.iconst 1, 1) := by decide +kernel
theorem dL_read_14 : decode cL_read 14 = .ok (.ireturn, 1) := by decide +kernel
theorem dL_read_15 : decode cL_read 15 = .ok (.iconst 0, 1) := by decide +kernel
theorem dL_read_16 : decode cL_read 16 = .ok (.ireturn, 1) := by decide +kernel
theorem dL_pass_0 : decode cL_pass 0 = .ok (.aload_n 2, 1) := by decide +kernel
theorem dL_pass_1 : decode cL_pass 1 = .ok (.iconst 0, 1) := by decide +kernel
theorem dL_pass_2 : decode cL_pass 2 = .ok (.aload_n 0, 1) := by decide +kernel
theorem dL_pass_3 : decode cL_pass 3 = .ok (.iload_n 1, 1) := by decide +kernel
theorem dL_pass_4 : decode cL_pass 4 = .ok (.invokevirtual 45, 3) := by decide +kernel
theorem dL_pass_7 : decode cL_pass 7 = .ok (.i2l, 1) := by decide +kernel
theorem dL_pass_8 : decode cL_pass 8 = .ok (.lastore, 1) := by decide +kernel
theorem dL_pass_9 : decode cL_pass 9 = .ok (.goto 6, 3) := by decide +kernel
theorem dL_pass_12 : decode cL_pass 12 = .ok (.astore_n 3, 1) := by decide +kernel
theorem dL_pass_13 : decode cL_pass 13 = .ok (.iconst 1, 1) := by decide +kernel
theorem dL_pass_14 : decode cL_pass 14 = .ok (.ireturn, 1) := by decide +kernel
theorem dL_pass_15 : decode cL_pass 15 = .ok (.iconst 0, 1) := by decide +kernel
theorem dL_pass_16 : decode cL_pass 16 = .ok (.ireturn, 1) := by decide +kernel
theorem dL_append_0 : decode cL_append 0 = .ok (.aload_n 2, 1) := by decide +kernel
theorem dL_append_1 : decode cL_append 1 = .ok (.iconst 0, 1) := by decide +kernel
theorem dL_append_2 : decode cL_append 2 = .ok (.aload_n 0, 1) := by decide +kernel
theorem dL_append_3 : decode cL_append 3 = .ok (.iload_n 1, 1) := by decide +kernel
theorem dL_append_4 : decode cL_append 4 = .ok (.invokevirtual 48, 3) := by decide +kernel
theorem dL_append_7 : decode cL_append 7 = .ok (.i2l, 1) := by decide +kernel
theorem dL_append_8 : decode cL_append 8 = .ok (.lastore, 1) := by decide +kernel
theorem dL_append_9 : decode cL_append 9 = .ok (.goto 9, 3) := by decide +kernel
theorem dL_append_12 : decode cL_append 12 = .ok (.astore_n 3, 1) := by decide +kernel
theorem dL_append_13 : decode cL_append 13 = .ok (.iconst 1, 1) := by decide +kernel
theorem dL_append_14 : decode cL_append 14 = .ok (.ireturn, 1) := by decide +kernel
theorem dL_append_15 : decode cL_append 15 = .ok (.astore_n 3, 1) := by decide +kernel
theorem dL_append_16 : decode cL_append 16 = .ok (.iconst 2, 1) := by decide +kernel
theorem dL_append_17 : decode cL_append 17 = .ok (.ireturn, 1) := by decide +kernel
theorem dL_append_18 : decode cL_append 18 = .ok (.iconst 0, 1) := by decide +kernel
theorem dL_append_19 : decode cL_append 19 = .ok (.ireturn, 1) := by decide +kernel
theorem dL_play_0 : decode cL_play 0 = .ok (.aload_n 1, 1) := by decide +kernel
theorem dL_play_1 : decode cL_play 1 = .ok (.iconst 0, 1) := by decide +kernel
theorem dL_play_2 : decode cL_play 2 = .ok (.aload_n 0, 1) := by decide +kernel
theorem dL_play_3 : decode cL_play 3 = .ok (.invokevirtual 51, 3) := by decide +kernel
theorem dL_play_6 : decode cL_play 6 = .ok (.i2l, 1) := by decide +kernel
theorem dL_play_7 : decode cL_play 7 = .ok (.lastore, 1) := by decide +kernel
theorem dL_play_8 : decode cL_play 8 = .ok (.goto 6, 3) := by decide +kernel
theorem dL_play_11 : decode cL_play 11 = .ok (.astore_n 2, 1) := by decide +kernel
theorem dL_play_12 : decode cL_play 12 = .ok (.iconst 1, 1) := by decide +kernel
theorem dL_play_13 : decode cL_play 13 = .ok (.ireturn, 1) := by decide +kernel
theorem dL_play_14 : decode cL_play 14 = .ok (.iconst 0, 1) := by decide +kernel
theorem dL_play_15 : decode cL_play 15 = .ok (.ireturn, 1) := by decide +kernel
theorem dL_undo_0 : decode cL_undo 0 = .ok (.aload_n 1, 1) := by decide +kernel
theorem dL_undo_1 : decode cL_undo 1 = .ok (.iconst 0, 1) := by decide +kernel
theorem dL_undo_2 : decode cL_undo 2 = .ok (.aload_n 0, 1) := by decide +kernel
theorem dL_undo_3 : decode cL_undo 3 = .ok (.invokevirtual 55, 3) := by decide +kernel
theorem dL_undo_6 : decode cL_undo 6 = .ok (.i2l, 1) := by decide +kernel
theorem dL_undo_7 : decode cL_undo 7 = .ok (.lastore, 1) := by decide +kernel
theorem dL_undo_8 : decode cL_undo 8 = .ok (.goto 6, 3) := by decide +kernel
theorem dL_undo_11 : decode cL_undo 11 = .ok (.astore_n 2, 1) := by decide +kernel
theorem dL_undo_12 : decode cL_undo 12 = .ok (.iconst 1, 1) := by decide +kernel
theorem dL_undo_13 : decode cL_undo 13 = .ok (.ireturn, 1) := by decide +kernel
theorem dL_undo_14 : decode cL_undo 14 = .ok (.iconst 0, 1) := by decide +kernel
theorem dL_undo_15 : decode cL_undo 15 = .ok (.ireturn, 1) := by decide +kernel
theorem dL_room_0 : decode cL_room 0 = .ok (.aload_n 3, 1) := by decide +kernel
theorem dL_room_1 : decode cL_room 1 = .ok (.iconst 0, 1) := by decide +kernel
theorem dL_room_2 : decode cL_room 2 = .ok (.aload_n 0, 1) := by decide +kernel
theorem dL_room_3 : decode cL_room 3 = .ok (.iload_n 1, 1) := by decide +kernel
theorem dL_room_4 : decode cL_room 4 = .ok (.iload_n 2, 1) := by decide +kernel
theorem dL_room_5 : decode cL_room 5 = .ok (.invokevirtual 58, 3) := by decide +kernel
theorem dL_room_8 : decode cL_room 8 = .ok (.i2l, 1) := by decide +kernel
theorem dL_room_9 : decode cL_room 9 = .ok (.lastore, 1) := by decide +kernel
theorem dL_room_10 : decode cL_room 10 = .ok (.goto 11, 3) := by decide +kernel
theorem dL_room_13 : decode cL_room 13 = .ok (.astore 4, 2) := by decide +kernel
theorem dL_room_15 : decode cL_room 15 = .ok (.iconst 1, 1) := by decide +kernel
theorem dL_room_16 : decode cL_room 16 = .ok (.ireturn, 1) := by decide +kernel
theorem dL_room_17 : decode cL_room 17 = .ok (.astore 4, 2) := by decide +kernel
theorem dL_room_19 : decode cL_room 19 = .ok (.iconst 2, 1) := by decide +kernel
theorem dL_room_20 : decode cL_room 20 = .ok (.ireturn, 1) := by decide +kernel
theorem dL_room_21 : decode cL_room 21 = .ok (.iconst 0, 1) := by decide +kernel
theorem dL_room_22 : decode cL_room 22 = .ok (.ireturn, 1) := by decide +kernel
theorem dL_thing_0 : decode cL_thing 0 = .ok (.aload_n 3, 1) := by decide +kernel
theorem dL_thing_1 : decode cL_thing 1 = .ok (.iconst 0, 1) := by decide +kernel
theorem dL_thing_2 : decode cL_thing 2 = .ok (.aload_n 0, 1) := by decide +kernel
theorem dL_thing_3 : decode cL_thing 3 = .ok (.iload_n 1, 1) := by decide +kernel
theorem dL_thing_4 : decode cL_thing 4 = .ok (.iload_n 2, 1) := by decide +kernel
theorem dL_thing_5 : decode cL_thing 5 = .ok (.invokevirtual 61, 3) := by decide +kernel
theorem dL_thing_8 : decode cL_thing 8 = .ok (.i2l, 1) := by decide +kernel
theorem dL_thing_9 : decode cL_thing 9 = .ok (.lastore, 1) := by decide +kernel
theorem dL_thing_10 : decode cL_thing 10 = .ok (.goto 7, 3) := by decide +kernel
theorem dL_thing_13 : decode cL_thing 13 = .ok (.astore 4, 2) := by decide +kernel
theorem dL_thing_15 : decode cL_thing 15 = .ok (.iconst 1, 1) := by decide +kernel
theorem dL_thing_16 : decode cL_thing 16 = .ok (.ireturn, 1) := by decide +kernel
theorem dL_thing_17 : decode cL_thing 17 = .ok (.iconst 0, 1) := by decide +kernel
theorem dL_thing_18 : decode cL_thing 18 = .ok (.ireturn, 1) := by decide +kernel
theorem dL_count_0 : decode cL_count 0 = .ok (.aload_n 2, 1) := by decide +kernel
theorem dL_count_1 : decode cL_count 1 = .ok (.iconst 0, 1) := by decide +kernel
theorem dL_count_2 : decode cL_count 2 = .ok (.aload_n 0, 1) := by decide +kernel
theorem dL_count_3 : decode cL_count 3 = .ok (.iload_n 1, 1) := by decide +kernel
theorem dL_count_4 : decode cL_count 4 = .ok (.invokevirtual 64, 3) := by decide +kernel
theorem dL_count_7 : decode cL_count 7 = .ok (.i2l, 1) := by decide +kernel
theorem dL_count_8 : decode cL_count 8 = .ok (.lastore, 1) := by decide +kernel
theorem dL_count_9 : decode cL_count 9 = .ok (.goto 6, 3) := by decide +kernel
theorem dL_count_12 : decode cL_count 12 = .ok (.astore_n 3, 1) := by decide +kernel
theorem dL_count_13 : decode cL_count 13 = .ok (.iconst 1, 1) := by decide +kernel
theorem dL_count_14 : decode cL_count 14 = .ok (.ireturn, 1) := by decide +kernel
theorem dL_count_15 : decode cL_count 15 = .ok (.iconst 0, 1) := by decide +kernel
theorem dL_count_16 : decode cL_count 16 = .ok (.ireturn, 1) := by decide +kernel
theorem dL_lasts_0 : decode cL_lasts 0 = .ok (.aload_n 2, 1) := by decide +kernel
theorem dL_lasts_1 : decode cL_lasts 1 = .ok (.iconst 0, 1) := by decide +kernel
theorem dL_lasts_2 : decode cL_lasts 2 = .ok (.aload_n 0, 1) := by decide +kernel
theorem dL_lasts_3 : decode cL_lasts 3 = .ok (.iload_n 1, 1) := by decide +kernel
theorem dL_lasts_4 : decode cL_lasts 4 = .ok (.invokevirtual 67, 3) := by decide +kernel
theorem dL_lasts_7 : decode cL_lasts 7 = .ok (.i2l, 1) := by decide +kernel
theorem dL_lasts_8 : decode cL_lasts 8 = .ok (.lastore, 1) := by decide +kernel
theorem dL_lasts_9 : decode cL_lasts 9 = .ok (.goto 6, 3) := by decide +kernel
theorem dL_lasts_12 : decode cL_lasts 12 = .ok (.astore_n 3, 1) := by decide +kernel
theorem dL_lasts_13 : decode cL_lasts 13 = .ok (.iconst 1, 1) := by decide +kernel
theorem dL_lasts_14 : decode cL_lasts 14 = .ok (.ireturn, 1) := by decide +kernel
theorem dL_lasts_15 : decode cL_lasts 15 = .ok (.iconst 0, 1) := by decide +kernel
theorem dL_lasts_16 : decode cL_lasts 16 = .ok (.ireturn, 1) := by decide +kernel
theorem dL_carried_0 : decode cL_carried 0 = .ok (.aload_n 2, 1) := by decide +kernel
theorem dL_carried_1 : decode cL_carried 1 = .ok (.iconst 0, 1) := by decide +kernel
theorem dL_carried_2 : decode cL_carried 2 = .ok (.aload_n 0, 1) := by decide +kernel
theorem dL_carried_3 : decode cL_carried 3 = .ok (.iload_n 1, 1) := by decide +kernel
theorem dL_carried_4 : decode cL_carried 4 = .ok (.invokevirtual 70, 3) := by decide +kernel
theorem dL_carried_7 : decode cL_carried 7 = .ok (.i2l, 1) := by decide +kernel
theorem dL_carried_8 : decode cL_carried 8 = .ok (.lastore, 1) := by decide +kernel
theorem dL_carried_9 : decode cL_carried 9 = .ok (.goto 6, 3) := by decide +kernel
theorem dL_carried_12 : decode cL_carried 12 = .ok (.astore_n 3, 1) := by decide +kernel
theorem dL_carried_13 : decode cL_carried 13 = .ok (.iconst 1, 1) := by decide +kernel
theorem dL_carried_14 : decode cL_carried 14 = .ok (.ireturn, 1) := by decide +kernel
theorem dL_carried_15 : decode cL_carried 15 = .ok (.iconst 0, 1) := by decide +kernel
theorem dL_carried_16 : decode cL_carried 16 = .ok (.ireturn, 1) := by decide +kernel
theorem dL_saves_0 : decode cL_saves 0 = .ok (.aload_n 2, 1) := by decide +kernel
theorem dL_saves_1 : decode cL_saves 1 = .ok (.iconst 0, 1) := by decide +kernel
theorem dL_saves_2 : decode cL_saves 2 = .ok (.aload_n 0, 1) := by decide +kernel
theorem dL_saves_3 : decode cL_saves 3 = .ok (.iload_n 1, 1) := by decide +kernel
theorem dL_saves_4 : decode cL_saves 4 = .ok (.invokevirtual 73, 3) := by decide +kernel
theorem dL_saves_7 : decode cL_saves 7 = .ok (.i2l, 1) := by decide +kernel
theorem dL_saves_8 : decode cL_saves 8 = .ok (.lastore, 1) := by decide +kernel
theorem dL_saves_9 : decode cL_saves 9 = .ok (.goto 6, 3) := by decide +kernel
theorem dL_saves_12 : decode cL_saves 12 = .ok (.astore_n 3, 1) := by decide +kernel
theorem dL_saves_13 : decode cL_saves 13 = .ok (.iconst 1, 1) := by decide +kernel
theorem dL_saves_14 : decode cL_saves 14 = .ok (.ireturn, 1) := by decide +kernel
theorem dL_saves_15 : decode cL_saves 15 = .ok (.iconst 0, 1) := by decide +kernel
theorem dL_saves_16 : decode cL_saves 16 = .ok (.ireturn, 1) := by decide +kernel
set_option maxRecDepth 20000 in
theorem dL_law_0 : decode cL_law 0 = .ok (.new 8, 3) := by decide +kernel
set_option maxRecDepth 20000 in
theorem dL_law_3 : decode cL_law 3 = .ok (.dup, 1) := by decide +kernel
set_option maxRecDepth 20000 in
theorem dL_law_4 : decode cL_law 4 = .ok (.invokespecial 76, 3) := by decide +kernel
set_option maxRecDepth 20000 in
theorem dL_law_7 : decode cL_law 7 = .ok (.astore_n 1, 1) := by decide +kernel
set_option maxRecDepth 20000 in
theorem dL_law_8 : decode cL_law 8 = .ok (.new 77, 3) := by decide +kernel
set_option maxRecDepth 20000 in
theorem dL_law_11 : decode cL_law 11 = .ok (.dup, 1) := by decide +kernel
set_option maxRecDepth 20000 in
theorem dL_law_12 : decode cL_law 12 = .ok (.invokespecial 79, 3) := by decide +kernel
set_option maxRecDepth 20000 in
theorem dL_law_15 : decode cL_law 15 = .ok (.astore_n 2, 1) := by decide +kernel
set_option maxRecDepth 20000 in
theorem dL_law_16 : decode cL_law 16 = .ok (.iconst 1, 1) := by decide +kernel
set_option maxRecDepth 20000 in
theorem dL_law_17 : decode cL_law 17 = .ok (.newarray .long, 2) := by decide +kernel
set_option maxRecDepth 20000 in
theorem dL_law_19 : decode cL_law 19 = .ok (.astore_n 3, 1) := by decide +kernel
set_option maxRecDepth 20000 in
theorem dL_law_20 : decode cL_law 20 = .ok (.iconst 0, 1) := by decide +kernel
set_option maxRecDepth 20000 in
theorem dL_law_21 : decode cL_law 21 = .ok (.istore 4, 2) := by decide +kernel
set_option maxRecDepth 20000 in
theorem dL_law_23 : decode cL_law 23 = .ok (.iload 4, 2) := by decide +kernel
set_option maxRecDepth 20000 in
theorem dL_law_25 : decode cL_law 25 = .ok (.aload_n 0, 1) := by decide +kernel
set_option maxRecDepth 20000 in
theorem dL_law_26 : decode cL_law 26 = .ok (.arraylength, 1) := by decide +kernel
set_option maxRecDepth 20000 in
theorem dL_law_27 : decode cL_law 27 = .ok (.iconst 3, 1) := by decide +kernel
set_option maxRecDepth 20000 in
theorem dL_law_28 : decode cL_law 28 = .ok (.isub, 1) := by decide +kernel
set_option maxRecDepth 20000 in
theorem dL_law_29 : decode cL_law 29 = .ok (.if_icmp .gt 1392, 3) := by decide +kernel
set_option maxRecDepth 20000 in
theorem dL_law_32 : decode cL_law 32 = .ok (.aload_n 0, 1) := by decide +kernel
set_option maxRecDepth 20000 in
theorem dL_law_33 : decode cL_law 33 = .ok (.iload 4, 2) := by decide +kernel
set_option maxRecDepth 20000 in
theorem dL_law_35 : decode cL_law 35 = .ok (.iaload, 1) := by decide +kernel
set_option maxRecDepth 20000 in
theorem dL_law_36 : decode cL_law 36 = .ok (.bipush 31, 2) := by decide +kernel
set_option maxRecDepth 20000 in
theorem dL_law_38 : decode cL_law 38 = .ok (.iand, 1) := by decide +kernel
set_option maxRecDepth 20000 in
theorem dL_law_39 : decode cL_law 39 = .ok (.tableswitch 1376 0 24 #[113, 169, 237, 293, 377, 461, 529, 585, 653, 709, 765, 821, 834, 847, 891, 935, 1003, 1071, 1127, 1183, 1196, 1252, 1265, 1321, 1362], 113) := by decide +kernel
set_option maxRecDepth 20000 in
theorem dL_law_152 : decode cL_law 152 = .ok (.aload_n 1, 1) := by decide +kernel
set_option maxRecDepth 20000 in
theorem dL_law_153 : decode cL_law 153 = .ok (.aload_n 0, 1) := by decide +kernel
set_option maxRecDepth 20000 in
theorem dL_law_154 : decode cL_law 154 = .ok (.iload 4, 2) := by decide +kernel
set_option maxRecDepth 20000 in
theorem dL_law_156 : decode cL_law 156 = .ok (.iconst 1, 1) := by decide +kernel
set_option maxRecDepth 20000 in
theorem dL_law_157 : decode cL_law 157 = .ok (.iadd, 1) := by decide +kernel
set_option maxRecDepth 20000 in
theorem dL_law_158 : decode cL_law 158 = .ok (.iaload, 1) := by decide +kernel
set_option maxRecDepth 20000 in
theorem dL_law_159 : decode cL_law 159 = .ok (.aload_n 3, 1) := by decide +kernel
set_option maxRecDepth 20000 in
theorem dL_law_160 : decode cL_law 160 = .ok (.invokestatic 80, 3) := by decide +kernel
set_option maxRecDepth 20000 in
theorem dL_law_163 : decode cL_law 163 = .ok (.istore 5, 2) := by decide +kernel
set_option maxRecDepth 20000 in
theorem dL_law_165 : decode cL_law 165 = .ok (.aload_n 2, 1) := by decide +kernel
set_option maxRecDepth 20000 in
theorem dL_law_166 : decode cL_law 166 = .ok (.aload_n 0, 1) := by decide +kernel
set_option maxRecDepth 20000 in
theorem dL_law_167 : decode cL_law 167 = .ok (.iload 4, 2) := by decide +kernel
set_option maxRecDepth 20000 in
theorem dL_law_169 : decode cL_law 169 = .ok (.iconst 1, 1) := by decide +kernel
set_option maxRecDepth 20000 in
theorem dL_law_170 : decode cL_law 170 = .ok (.iadd, 1) := by decide +kernel
set_option maxRecDepth 20000 in
theorem dL_law_171 : decode cL_law 171 = .ok (.iaload, 1) := by decide +kernel
set_option maxRecDepth 20000 in
theorem dL_law_172 : decode cL_law 172 = .ok (.invokevirtual 85, 3) := by decide +kernel
set_option maxRecDepth 20000 in
theorem dL_law_175 : decode cL_law 175 = .ok (.istore 6, 2) := by decide +kernel
set_option maxRecDepth 20000 in
theorem dL_law_177 : decode cL_law 177 = .ok (.aload_n 2, 1) := by decide +kernel
set_option maxRecDepth 20000 in
theorem dL_law_178 : decode cL_law 178 = .ok (.invokevirtual 86, 3) := by decide +kernel
set_option maxRecDepth 20000 in
theorem dL_law_181 : decode cL_law 181 = .ok (.iload 5, 2) := by decide +kernel
set_option maxRecDepth 20000 in
theorem dL_law_183 : decode cL_law 183 = .ok (.if_icmp .eq 5, 3) := by decide +kernel
set_option maxRecDepth 20000 in
theorem dL_law_186 : decode cL_law 186 = .ok (.iconst 0, 1) := by decide +kernel
set_option maxRecDepth 20000 in
theorem dL_law_187 : decode cL_law 187 = .ok (.ireturn, 1) := by decide +kernel
set_option maxRecDepth 20000 in
theorem dL_law_188 : decode cL_law 188 = .ok (.iload 5, 2) := by decide +kernel
set_option maxRecDepth 20000 in
theorem dL_law_190 : decode cL_law 190 = .ok (.ifCond .ne 15, 3) := by decide +kernel
set_option maxRecDepth 20000 in
theorem dL_law_193 : decode cL_law 193 = .ok (.aload_n 3, 1) := by decide +kernel
set_option maxRecDepth 20000 in
theorem dL_law_194 : decode cL_law 194 = .ok (.iconst 0, 1) := by decide +kernel
set_option maxRecDepth 20000 in
theorem dL_law_195 : decode cL_law 195 = .ok (.laload, 1) := by decide +kernel
set_option maxRecDepth 20000 in
theorem dL_law_196 : decode cL_law 196 = .ok (.iload 6, 2) := by decide +kernel
set_option maxRecDepth 20000 in
theorem dL_law_198 : decode cL_law 198 = .ok (.i2l, 1) := by decide +kernel
set_option maxRecDepth 20000 in
theorem dL_law_199 : decode cL_law 199 = .ok (.lcmp, 1) := by decide +kernel
set_option maxRecDepth 20000 in
theorem dL_law_200 : decode cL_law 200 = .ok (.ifCond .eq 5, 3) := by decide +kernel
set_option maxRecDepth 20000 in
theorem dL_law_203 : decode cL_law 203 = .ok (.iconst 0, 1) := by decide +kernel
set_option maxRecDepth 20000 in
theorem dL_law_204 : decode cL_law 204 = .ok (.ireturn, 1) := by decide +kernel
set_option maxRecDepth 20000 in
theorem dL_law_205 : decode cL_law 205 = .ok (.goto 1210, 3) := by decide +kernel
set_option maxRecDepth 20000 in
theorem dL_law_208 : decode cL_law 208 = .ok (.aload_n 1, 1) := by decide +kernel
set_option maxRecDepth 20000 in
theorem dL_law_209 : decode cL_law 209 = .ok (.aload_n 0, 1) := by decide +kernel
set_option maxRecDepth 20000 in
theorem dL_law_210 : decode cL_law 210 = .ok (.iload 4, 2) := by decide +kernel
set_option maxRecDepth 20000 in
theorem dL_law_212 : decode cL_law 212 = .ok (.iconst 1, 1) := by decide +kernel
set_option maxRecDepth 20000 in
theorem dL_law_213 : decode cL_law 213 = .ok (.iadd, 1) := by decide +kernel
set_option maxRecDepth 20000 in
theorem dL_law_214 : decode cL_law 214 = .ok (.iaload, 1) := by decide +kernel
set_option maxRecDepth 20000 in
theorem dL_law_215 : decode cL_law 215 = .ok (.aload_n 0, 1) := by decide +kernel
set_option maxRecDepth 20000 in
theorem dL_law_216 : decode cL_law 216 = .ok (.iload 4, 2) := by decide +kernel
set_option maxRecDepth 20000 in
theorem dL_law_218 : decode cL_law 218 = .ok (.iconst 2, 1) := by decide +kernel
set_option maxRecDepth 20000 in
theorem dL_law_219 : decode cL_law 219 = .ok (.iadd, 1) := by decide +kernel
set_option maxRecDepth 20000 in
theorem dL_law_220 : decode cL_law 220 = .ok (.iaload, 1) := by decide +kernel
set_option maxRecDepth 20000 in
theorem dL_law_221 : decode cL_law 221 = .ok (.aload_n 3, 1) := by decide +kernel
set_option maxRecDepth 20000 in
theorem dL_law_222 : decode cL_law 222 = .ok (.invokestatic 89, 3) := by decide +kernel
set_option maxRecDepth 20000 in
theorem dL_law_225 : decode cL_law 225 = .ok (.istore 5, 2) := by decide +kernel
set_option maxRecDepth 20000 in
theorem dL_law_227 : decode cL_law 227 = .ok (.aload_n 2, 1) := by decide +kernel
set_option maxRecDepth 20000 in
theorem dL_law_228 : decode cL_law 228 = .ok (.aload_n 0, 1) := by decide +kernel
set_option maxRecDepth 20000 in
theorem dL_law_229 : decode cL_law 229 = .ok (.iload 4, 2) := by decide +kernel
set_option maxRecDepth 20000 in
theorem dL_law_231 : decode cL_law 231 = .ok (.iconst 1, 1) := by decide +kernel
set_option maxRecDepth 20000 in
theorem dL_law_232 : decode cL_law 232 = .ok (.iadd, 1) := by decide +kernel
set_option maxRecDepth 20000 in
theorem dL_law_233 : decode cL_law 233 = .ok (.iaload, 1) := by decide +kernel
set_option maxRecDepth 20000 in
theorem dL_law_234 : decode cL_law 234 = .ok (.aload_n 0, 1) := by decide +kernel
set_option maxRecDepth 20000 in
theorem dL_law_235 : decode cL_law 235 = .ok (.iload 4, 2) := by decide +kernel
set_option maxRecDepth 20000 in
theorem dL_law_237 : decode cL_law 237 = .ok (.iconst 2, 1) := by decide +kernel
set_option maxRecDepth 20000 in
theorem dL_law_238 : decode cL_law 238 = .ok (.iadd, 1) := by decide +kernel
set_option maxRecDepth 20000 in
theorem dL_law_239 : decode cL_law 239 = .ok (.iaload, 1) := by decide +kernel
set_option maxRecDepth 20000 in
theorem dL_law_240 : decode cL_law 240 = .ok (.invokevirtual 92, 3) := by decide +kernel
set_option maxRecDepth 20000 in
theorem dL_law_243 : decode cL_law 243 = .ok (.istore 6, 2) := by decide +kernel
set_option maxRecDepth 20000 in
theorem dL_law_245 : decode cL_law 245 = .ok (.aload_n 2, 1) := by decide +kernel
set_option maxRecDepth 20000 in
theorem dL_law_246 : decode cL_law 246 = .ok (.invokevirtual 86, 3) := by decide +kernel
set_option maxRecDepth 20000 in
theorem dL_law_249 : decode cL_law 249 = .ok (.iload 5, 2) := by decide +kernel
set_option maxRecDepth 20000 in
theorem dL_law_251 : decode cL_law 251 = .ok (.if_icmp .eq 5, 3) := by decide +kernel
set_option maxRecDepth 20000 in
theorem dL_law_254 : decode cL_law 254 = .ok (.iconst 0, 1) := by decide +kernel
set_option maxRecDepth 20000 in
theorem dL_law_255 : decode cL_law 255 = .ok (.ireturn, 1) := by decide +kernel
set_option maxRecDepth 20000 in
theorem dL_law_256 : decode cL_law 256 = .ok (.iload 5, 2) := by decide +kernel
set_option maxRecDepth 20000 in
theorem dL_law_258 : decode cL_law 258 = .ok (.ifCond .ne 15, 3) := by decide +kernel
set_option maxRecDepth 20000 in
theorem dL_law_261 : decode cL_law 261 = .ok (.aload_n 3, 1) := by decide +kernel
set_option maxRecDepth 20000 in
theorem dL_law_262 : decode cL_law 262 = .ok (.iconst 0, 1) := by decide +kernel
set_option maxRecDepth 20000 in
theorem dL_law_263 : decode cL_law 263 = .ok (.laload, 1) := by decide +kernel
set_option maxRecDepth 20000 in
theorem dL_law_264 : decode cL_law 264 = .ok (.iload 6, 2) := by decide +kernel
set_option maxRecDepth 20000 in
theorem dL_law_266 : decode cL_law 266 = .ok (.i2l, 1) := by decide +kernel
set_option maxRecDepth 20000 in
theorem dL_law_267 : decode cL_law 267 = .ok (.lcmp, 1) := by decide +kernel
set_option maxRecDepth 20000 in
theorem dL_law_268 : decode cL_law 268 = .ok (.ifCond .eq 5, 3) := by decide +kernel
set_option maxRecDepth 20000 in
theorem dL_law_271 : decode cL_law 271 = .ok (.iconst 0, 1) := by decide +kernel
set_option maxRecDepth 20000 in
theorem dL_law_272 : decode cL_law 272 = .ok (.ireturn, 1) := by decide +kernel
set_option maxRecDepth 20000 in
theorem dL_law_273 : decode cL_law 273 = .ok (.goto 1142, 3) := by decide +kernel
set_option maxRecDepth 20000 in
theorem dL_law_276 : decode cL_law 276 = .ok (.aload_n 1, 1) := by decide +kernel
set_option maxRecDepth 20000 in
theorem dL_law_277 : decode cL_law 277 = .ok (.aload_n 0, 1) := by decide +kernel
set_option maxRecDepth 20000 in
theorem dL_law_278 : decode cL_law 278 = .ok (.iload 4, 2) := by decide +kernel
set_option maxRecDepth 20000 in
theorem dL_law_280 : decode cL_law 280 = .ok (.iconst 1, 1) := by decide +kernel
set_option maxRecDepth 20000 in
theorem dL_law_281 : decode cL_law 281 = .ok (.iadd, 1) := by decide +kernel
set_option maxRecDepth 20000 in
theorem dL_law_282 : decode cL_law 282 = .ok (.iaload, 1) := by decide +kernel
set_option maxRecDepth 20000 in
theorem dL_law_283 : decode cL_law 283 = .ok (.aload_n 3, 1) := by decide +kernel
set_option maxRecDepth 20000 in
theorem dL_law_284 : decode cL_law 284 = .ok (.invokestatic 93, 3) := by decide +kernel
set_option maxRecDepth 20000 in
theorem dL_law_287 : decode cL_law 287 = .ok (.istore 5, 2) := by decide +kernel
set_option maxRecDepth 20000 in
theorem dL_law_289 : decode cL_law 289 = .ok (.aload_n 2, 1) := by decide +kernel
set_option maxRecDepth 20000 in
theorem dL_law_290 : decode cL_law 290 = .ok (.aload_n 0, 1) := by decide +kernel
set_option maxRecDepth 20000 in
theorem dL_law_291 : decode cL_law 291 = .ok (.iload 4, 2) := by decide +kernel
set_option maxRecDepth 20000 in
theorem dL_law_293 : decode cL_law 293 = .ok (.iconst 1, 1) := by decide +kernel
set_option maxRecDepth 20000 in
theorem dL_law_294 : decode cL_law 294 = .ok (.iadd, 1) := by decide +kernel
set_option maxRecDepth 20000 in
theorem dL_law_295 : decode cL_law 295 = .ok (.iaload, 1) := by decide +kernel
set_option maxRecDepth 20000 in
theorem dL_law_296 : decode cL_law 296 = .ok (.invokevirtual 95, 3) := by decide +kernel
set_option maxRecDepth 20000 in
theorem dL_law_299 : decode cL_law 299 = .ok (.istore 6, 2) := by decide +kernel
set_option maxRecDepth 20000 in
theorem dL_law_301 : decode cL_law 301 = .ok (.aload_n 2, 1) := by decide +kernel
set_option maxRecDepth 20000 in
theorem dL_law_302 : decode cL_law 302 = .ok (.invokevirtual 86, 3) := by decide +kernel
set_option maxRecDepth 20000 in
theorem dL_law_305 : decode cL_law 305 = .ok (.iload 5, 2) := by decide +kernel
set_option maxRecDepth 20000 in
theorem dL_law_307 : decode cL_law 307 = .ok (.if_icmp .eq 5, 3) := by decide +kernel
set_option maxRecDepth 20000 in
theorem dL_law_310 : decode cL_law 310 = .ok (.iconst 0, 1) := by decide +kernel
set_option maxRecDepth 20000 in
theorem dL_law_311 : decode cL_law 311 = .ok (.ireturn, 1) := by decide +kernel
set_option maxRecDepth 20000 in
theorem dL_law_312 : decode cL_law 312 = .ok (.iload 5, 2) := by decide +kernel
set_option maxRecDepth 20000 in
theorem dL_law_314 : decode cL_law 314 = .ok (.ifCond .ne 15, 3) := by decide +kernel
set_option maxRecDepth 20000 in
theorem dL_law_317 : decode cL_law 317 = .ok (.aload_n 3, 1) := by decide +kernel
set_option maxRecDepth 20000 in
theorem dL_law_318 : decode cL_law 318 = .ok (.iconst 0, 1) := by decide +kernel
set_option maxRecDepth 20000 in
theorem dL_law_319 : decode cL_law 319 = .ok (.laload, 1) := by decide +kernel
set_option maxRecDepth 20000 in
theorem dL_law_320 : decode cL_law 320 = .ok (.iload 6, 2) := by decide +kernel
set_option maxRecDepth 20000 in
theorem dL_law_322 : decode cL_law 322 = .ok (.i2l, 1) := by decide +kernel
set_option maxRecDepth 20000 in
theorem dL_law_323 : decode cL_law 323 = .ok (.lcmp, 1) := by decide +kernel
set_option maxRecDepth 20000 in
theorem dL_law_324 : decode cL_law 324 = .ok (.ifCond .eq 5, 3) := by decide +kernel
set_option maxRecDepth 20000 in
theorem dL_law_327 : decode cL_law 327 = .ok (.iconst 0, 1) := by decide +kernel
set_option maxRecDepth 20000 in
theorem dL_law_328 : decode cL_law 328 = .ok (.ireturn, 1) := by decide +kernel
set_option maxRecDepth 20000 in
theorem dL_law_329 : decode cL_law 329 = .ok (.goto 1086, 3) := by decide +kernel
set_option maxRecDepth 20000 in
theorem dL_law_332 : decode cL_law 332 = .ok (.aload_n 1, 1) := by decide +kernel
set_option maxRecDepth 20000 in
theorem dL_law_333 : decode cL_law 333 = .ok (.aload_n 0, 1) := by decide +kernel
set_option maxRecDepth 20000 in
theorem dL_law_334 : decode cL_law 334 = .ok (.iload 4, 2) := by decide +kernel
set_option maxRecDepth 20000 in
theorem dL_law_336 : decode cL_law 336 = .ok (.iconst 1, 1) := by decide +kernel
set_option maxRecDepth 20000 in
theorem dL_law_337 : decode cL_law 337 = .ok (.iadd, 1) := by decide +kernel
set_option maxRecDepth 20000 in
theorem dL_law_338 : decode cL_law 338 = .ok (.iaload, 1) := by decide +kernel
set_option maxRecDepth 20000 in
theorem dL_law_339 : decode cL_law 339 = .ok (.aload_n 0, 1) := by decide +kernel
set_option maxRecDepth 20000 in
theorem dL_law_340 : decode cL_law 340 = .ok (.iload 4, 2) := by decide +kernel
set_option maxRecDepth 20000 in
theorem dL_law_342 : decode cL_law 342 = .ok (.iconst 2, 1) := by decide +kernel
set_option maxRecDepth 20000 in
theorem dL_law_343 : decode cL_law 343 = .ok (.iadd, 1) := by decide +kernel
set_option maxRecDepth 20000 in
theorem dL_law_344 : decode cL_law 344 = .ok (.iaload, 1) := by decide +kernel
set_option maxRecDepth 20000 in
theorem dL_law_345 : decode cL_law 345 = .ok (.ifCond .eq 7, 3) := by decide +kernel
set_option maxRecDepth 20000 in
theorem dL_law_348 : decode cL_law 348 = .ok (.iconst 1, 1) := by decide +kernel
set_option maxRecDepth 20000 in
theorem dL_law_349 : decode cL_law 349 = .ok (.goto 4, 3) := by decide +kernel
set_option maxRecDepth 20000 in
theorem dL_law_352 : decode cL_law 352 = .ok (.iconst 0, 1) := by decide +kernel
set_option maxRecDepth 20000 in
theorem dL_law_353 : decode cL_law 353 = .ok (.aload_n 3, 1) := by decide +kernel
set_option maxRecDepth 20000 in
theorem dL_law_354 : decode cL_law 354 = .ok (.invokestatic 96, 3) := by decide +kernel
set_option maxRecDepth 20000 in
theorem dL_law_357 : decode cL_law 357 = .ok (.istore 5, 2) := by decide +kernel
set_option maxRecDepth 20000 in
theorem dL_law_359 : decode cL_law 359 = .ok (.aload_n 2, 1) := by decide +kernel
set_option maxRecDepth 20000 in
theorem dL_law_360 : decode cL_law 360 = .ok (.aload_n 0, 1) := by decide +kernel
set_option maxRecDepth 20000 in
theorem dL_law_361 : decode cL_law 361 = .ok (.iload 4, 2) := by decide +kernel
set_option maxRecDepth 20000 in
theorem dL_law_363 : decode cL_law 363 = .ok (.iconst 1, 1) := by decide +kernel
set_option maxRecDepth 20000 in
theorem dL_law_364 : decode cL_law 364 = .ok (.iadd, 1) := by decide +kernel
set_option maxRecDepth 20000 in
theorem dL_law_365 : decode cL_law 365 = .ok (.iaload, 1) := by decide +kernel
set_option maxRecDepth 20000 in
theorem dL_law_366 : decode cL_law 366 = .ok (.aload_n 0, 1) := by decide +kernel
set_option maxRecDepth 20000 in
theorem dL_law_367 : decode cL_law 367 = .ok (.iload 4, 2) := by decide +kernel
set_option maxRecDepth 20000 in
theorem dL_law_369 : decode cL_law 369 = .ok (.iconst 2, 1) := by decide +kernel
set_option maxRecDepth 20000 in
theorem dL_law_370 : decode cL_law 370 = .ok (.iadd, 1) := by decide +kernel
set_option maxRecDepth 20000 in
theorem dL_law_371 : decode cL_law 371 = .ok (.iaload, 1) := by decide +kernel
set_option maxRecDepth 20000 in
theorem dL_law_372 : decode cL_law 372 = .ok (.ifCond .eq 7, 3) := by decide +kernel
set_option maxRecDepth 20000 in
theorem dL_law_375 : decode cL_law 375 = .ok (.iconst 1, 1) := by decide +kernel
set_option maxRecDepth 20000 in
theorem dL_law_376 : decode cL_law 376 = .ok (.goto 4, 3) := by decide +kernel
set_option maxRecDepth 20000 in
theorem dL_law_379 : decode cL_law 379 = .ok (.iconst 0, 1) := by decide +kernel
set_option maxRecDepth 20000 in
theorem dL_law_380 : decode cL_law 380 = .ok (.invokevirtual 99, 3) := by decide +kernel
set_option maxRecDepth 20000 in
theorem dL_law_383 : decode cL_law 383 = .ok (.istore 6, 2) := by decide +kernel
set_option maxRecDepth 20000 in
theorem dL_law_385 : decode cL_law 385 = .ok (.aload_n 2, 1) := by decide +kernel
set_option maxRecDepth 20000 in
theorem dL_law_386 : decode cL_law 386 = .ok (.invokevirtual 86, 3) := by decide +kernel
set_option maxRecDepth 20000 in
theorem dL_law_389 : decode cL_law 389 = .ok (.iload 5, 2) := by decide +kernel
set_option maxRecDepth 20000 in
theorem dL_law_391 : decode cL_law 391 = .ok (.if_icmp .eq 5, 3) := by decide +kernel
set_option maxRecDepth 20000 in
theorem dL_law_394 : decode cL_law 394 = .ok (.iconst 0, 1) := by decide +kernel
set_option maxRecDepth 20000 in
theorem dL_law_395 : decode cL_law 395 = .ok (.ireturn, 1) := by decide +kernel
set_option maxRecDepth 20000 in
theorem dL_law_396 : decode cL_law 396 = .ok (.iload 5, 2) := by decide +kernel
set_option maxRecDepth 20000 in
theorem dL_law_398 : decode cL_law 398 = .ok (.ifCond .ne 15, 3) := by decide +kernel
set_option maxRecDepth 20000 in
theorem dL_law_401 : decode cL_law 401 = .ok (.aload_n 3, 1) := by decide +kernel
set_option maxRecDepth 20000 in
theorem dL_law_402 : decode cL_law 402 = .ok (.iconst 0, 1) := by decide +kernel
set_option maxRecDepth 20000 in
theorem dL_law_403 : decode cL_law 403 = .ok (.laload, 1) := by decide +kernel
set_option maxRecDepth 20000 in
theorem dL_law_404 : decode cL_law 404 = .ok (.iload 6, 2) := by decide +kernel
set_option maxRecDepth 20000 in
theorem dL_law_406 : decode cL_law 406 = .ok (.i2l, 1) := by decide +kernel
set_option maxRecDepth 20000 in
theorem dL_law_407 : decode cL_law 407 = .ok (.lcmp, 1) := by decide +kernel
set_option maxRecDepth 20000 in
theorem dL_law_408 : decode cL_law 408 = .ok (.ifCond .eq 5, 3) := by decide +kernel
set_option maxRecDepth 20000 in
theorem dL_law_411 : decode cL_law 411 = .ok (.iconst 0, 1) := by decide +kernel
set_option maxRecDepth 20000 in
theorem dL_law_412 : decode cL_law 412 = .ok (.ireturn, 1) := by decide +kernel
set_option maxRecDepth 20000 in
theorem dL_law_413 : decode cL_law 413 = .ok (.goto 1002, 3) := by decide +kernel
set_option maxRecDepth 20000 in
theorem dL_law_416 : decode cL_law 416 = .ok (.aload_n 1, 1) := by decide +kernel
set_option maxRecDepth 20000 in
theorem dL_law_417 : decode cL_law 417 = .ok (.aload_n 0, 1) := by decide +kernel
set_option maxRecDepth 20000 in
theorem dL_law_418 : decode cL_law 418 = .ok (.iload 4, 2) := by decide +kernel
set_option maxRecDepth 20000 in
theorem dL_law_420 : decode cL_law 420 = .ok (.iconst 1, 1) := by decide +kernel
set_option maxRecDepth 20000 in
theorem dL_law_421 : decode cL_law 421 = .ok (.iadd, 1) := by decide +kernel
set_option maxRecDepth 20000 in
theorem dL_law_422 : decode cL_law 422 = .ok (.iaload, 1) := by decide +kernel
set_option maxRecDepth 20000 in
theorem dL_law_423 : decode cL_law 423 = .ok (.aload_n 0, 1) := by decide +kernel
set_option maxRecDepth 20000 in
theorem dL_law_424 : decode cL_law 424 = .ok (.iload 4, 2) := by decide +kernel
set_option maxRecDepth 20000 in
theorem dL_law_426 : decode cL_law 426 = .ok (.iconst 2, 1) := by decide +kernel
set_option maxRecDepth 20000 in
theorem dL_law_427 : decode cL_law 427 = .ok (.iadd, 1) := by decide +kernel
set_option maxRecDepth 20000 in
theorem dL_law_428 : decode cL_law 428 = .ok (.iaload, 1) := by decide +kernel
set_option maxRecDepth 20000 in
theorem dL_law_429 : decode cL_law 429 = .ok (.ifCond .eq 7, 3) := by decide +kernel
set_option maxRecDepth 20000 in
theorem dL_law_432 : decode cL_law 432 = .ok (.iconst 1, 1) := by decide +kernel
set_option maxRecDepth 20000 in
theorem dL_law_433 : decode cL_law 433 = .ok (.goto 4, 3) := by decide +kernel
set_option maxRecDepth 20000 in
theorem dL_law_436 : decode cL_law 436 = .ok (.iconst 0, 1) := by decide +kernel
set_option maxRecDepth 20000 in
theorem dL_law_437 : decode cL_law 437 = .ok (.aload_n 3, 1) := by decide +kernel
set_option maxRecDepth 20000 in
theorem dL_law_438 : decode cL_law 438 = .ok (.invokestatic 100, 3) := by decide +kernel
set_option maxRecDepth 20000 in
theorem dL_law_441 : decode cL_law 441 = .ok (.istore 5, 2) := by decide +kernel
set_option maxRecDepth 20000 in
theorem dL_law_443 : decode cL_law 443 = .ok (.aload_n 2, 1) := by decide +kernel
set_option maxRecDepth 20000 in
theorem dL_law_444 : decode cL_law 444 = .ok (.aload_n 0, 1) := by decide +kernel
set_option maxRecDepth 20000 in
theorem dL_law_445 : decode cL_law 445 = .ok (.iload 4, 2) := by decide +kernel
set_option maxRecDepth 20000 in
theorem dL_law_447 : decode cL_law 447 = .ok (.iconst 1, 1) := by decide +kernel
set_option maxRecDepth 20000 in
theorem dL_law_448 : decode cL_law 448 = .ok (.iadd, 1) := by decide +kernel
set_option maxRecDepth 20000 in
theorem dL_law_449 : decode cL_law 449 = .ok (.iaload, 1) := by decide +kernel
set_option maxRecDepth 20000 in
theorem dL_law_450 : decode cL_law 450 = .ok (.aload_n 0, 1) := by decide +kernel
set_option maxRecDepth 20000 in
theorem dL_law_451 : decode cL_law 451 = .ok (.iload 4, 2) := by decide +kernel
set_option maxRecDepth 20000 in
theorem dL_law_453 : decode cL_law 453 = .ok (.iconst 2, 1) := by decide +kernel
set_option maxRecDepth 20000 in
theorem dL_law_454 : decode cL_law 454 = .ok (.iadd, 1) := by decide +kernel
set_option maxRecDepth 20000 in
theorem dL_law_455 : decode cL_law 455 = .ok (.iaload, 1) := by decide +kernel
set_option maxRecDepth 20000 in
theorem dL_law_456 : decode cL_law 456 = .ok (.ifCond .eq 7, 3) := by decide +kernel
set_option maxRecDepth 20000 in
theorem dL_law_459 : decode cL_law 459 = .ok (.iconst 1, 1) := by decide +kernel
set_option maxRecDepth 20000 in
theorem dL_law_460 : decode cL_law 460 = .ok (.goto 4, 3) := by decide +kernel
set_option maxRecDepth 20000 in
theorem dL_law_463 : decode cL_law 463 = .ok (.iconst 0, 1) := by decide +kernel
set_option maxRecDepth 20000 in
theorem dL_law_464 : decode cL_law 464 = .ok (.invokevirtual 102, 3) := by decide +kernel
set_option maxRecDepth 20000 in
theorem dL_law_467 : decode cL_law 467 = .ok (.istore 6, 2) := by decide +kernel
set_option maxRecDepth 20000 in
theorem dL_law_469 : decode cL_law 469 = .ok (.aload_n 2, 1) := by decide +kernel
set_option maxRecDepth 20000 in
theorem dL_law_470 : decode cL_law 470 = .ok (.invokevirtual 86, 3) := by decide +kernel
set_option maxRecDepth 20000 in
theorem dL_law_473 : decode cL_law 473 = .ok (.iload 5, 2) := by decide +kernel
set_option maxRecDepth 20000 in
theorem dL_law_475 : decode cL_law 475 = .ok (.if_icmp .eq 5, 3) := by decide +kernel
set_option maxRecDepth 20000 in
theorem dL_law_478 : decode cL_law 478 = .ok (.iconst 0, 1) := by decide +kernel
set_option maxRecDepth 20000 in
theorem dL_law_479 : decode cL_law 479 = .ok (.ireturn, 1) := by decide +kernel
set_option maxRecDepth 20000 in
theorem dL_law_480 : decode cL_law 480 = .ok (.iload 5, 2) := by decide +kernel
set_option maxRecDepth 20000 in
theorem dL_law_482 : decode cL_law 482 = .ok (.ifCond .ne 15, 3) := by decide +kernel
set_option maxRecDepth 20000 in
theorem dL_law_485 : decode cL_law 485 = .ok (.aload_n 3, 1) := by decide +kernel
set_option maxRecDepth 20000 in
theorem dL_law_486 : decode cL_law 486 = .ok (.iconst 0, 1) := by decide +kernel
set_option maxRecDepth 20000 in
theorem dL_law_487 : decode cL_law 487 = .ok (.laload, 1) := by decide +kernel
set_option maxRecDepth 20000 in
theorem dL_law_488 : decode cL_law 488 = .ok (.iload 6, 2) := by decide +kernel
set_option maxRecDepth 20000 in
theorem dL_law_490 : decode cL_law 490 = .ok (.i2l, 1) := by decide +kernel
set_option maxRecDepth 20000 in
theorem dL_law_491 : decode cL_law 491 = .ok (.lcmp, 1) := by decide +kernel
set_option maxRecDepth 20000 in
theorem dL_law_492 : decode cL_law 492 = .ok (.ifCond .eq 5, 3) := by decide +kernel
set_option maxRecDepth 20000 in
theorem dL_law_495 : decode cL_law 495 = .ok (.iconst 0, 1) := by decide +kernel
set_option maxRecDepth 20000 in
theorem dL_law_496 : decode cL_law 496 = .ok (.ireturn, 1) := by decide +kernel
set_option maxRecDepth 20000 in
theorem dL_law_497 : decode cL_law 497 = .ok (.goto 918, 3) := by decide +kernel
set_option maxRecDepth 20000 in
theorem dL_law_500 : decode cL_law 500 = .ok (.aload_n 1, 1) := by decide +kernel
set_option maxRecDepth 20000 in
theorem dL_law_501 : decode cL_law 501 = .ok (.aload_n 0, 1) := by decide +kernel
set_option maxRecDepth 20000 in
theorem dL_law_502 : decode cL_law 502 = .ok (.iload 4, 2) := by decide +kernel
set_option maxRecDepth 20000 in
theorem dL_law_504 : decode cL_law 504 = .ok (.iconst 1, 1) := by decide +kernel
set_option maxRecDepth 20000 in
theorem dL_law_505 : decode cL_law 505 = .ok (.iadd, 1) := by decide +kernel
set_option maxRecDepth 20000 in
theorem dL_law_506 : decode cL_law 506 = .ok (.iaload, 1) := by decide +kernel
set_option maxRecDepth 20000 in
theorem dL_law_507 : decode cL_law 507 = .ok (.aload_n 0, 1) := by decide +kernel
set_option maxRecDepth 20000 in
theorem dL_law_508 : decode cL_law 508 = .ok (.iload 4, 2) := by decide +kernel
set_option maxRecDepth 20000 in
theorem dL_law_510 : decode cL_law 510 = .ok (.iconst 2, 1) := by decide +kernel
set_option maxRecDepth 20000 in
theorem dL_law_511 : decode cL_law 511 = .ok (.iadd, 1) := by decide +kernel
set_option maxRecDepth 20000 in
theorem dL_law_512 : decode cL_law 512 = .ok (.iaload, 1) := by decide +kernel
set_option maxRecDepth 20000 in
theorem dL_law_513 : decode cL_law 513 = .ok (.aload_n 3, 1) := by decide +kernel
set_option maxRecDepth 20000 in
theorem dL_law_514 : decode cL_law 514 = .ok (.invokestatic 103, 3) := by decide +kernel
set_option maxRecDepth 20000 in
theorem dL_law_517 : decode cL_law 517 = .ok (.istore 5, 2) := by decide +kernel
set_option maxRecDepth 20000 in
theorem dL_law_519 : decode cL_law 519 = .ok (.aload_n 2, 1) := by decide +kernel
set_option maxRecDepth 20000 in
theorem dL_law_520 : decode cL_law 520 = .ok (.aload_n 0, 1) := by decide +kernel
set_option maxRecDepth 20000 in
theorem dL_law_521 : decode cL_law 521 = .ok (.iload 4, 2) := by decide +kernel
set_option maxRecDepth 20000 in
theorem dL_law_523 : decode cL_law 523 = .ok (.iconst 1, 1) := by decide +kernel
set_option maxRecDepth 20000 in
theorem dL_law_524 : decode cL_law 524 = .ok (.iadd, 1) := by decide +kernel
set_option maxRecDepth 20000 in
theorem dL_law_525 : decode cL_law 525 = .ok (.iaload, 1) := by decide +kernel
set_option maxRecDepth 20000 in
theorem dL_law_526 : decode cL_law 526 = .ok (.aload_n 0, 1) := by decide +kernel
set_option maxRecDepth 20000 in
theorem dL_law_527 : decode cL_law 527 = .ok (.iload 4, 2) := by decide +kernel
set_option maxRecDepth 20000 in
theorem dL_law_529 : decode cL_law 529 = .ok (.iconst 2, 1) := by decide +kernel
set_option maxRecDepth 20000 in
theorem dL_law_530 : decode cL_law 530 = .ok (.iadd, 1) := by decide +kernel
set_option maxRecDepth 20000 in
theorem dL_law_531 : decode cL_law 531 = .ok (.iaload, 1) := by decide +kernel
set_option maxRecDepth 20000 in
theorem dL_law_532 : decode cL_law 532 = .ok (.invokevirtual 105, 3) := by decide +kernel
set_option maxRecDepth 20000 in
theorem dL_law_535 : decode cL_law 535 = .ok (.istore 6, 2) := by decide +kernel
set_option maxRecDepth 20000 in
theorem dL_law_537 : decode cL_law 537 = .ok (.aload_n 2, 1) := by decide +kernel
set_option maxRecDepth 20000 in
theorem dL_law_538 : decode cL_law 538 = .ok (.invokevirtual 86, 3) := by decide +kernel
set_option maxRecDepth 20000 in
theorem dL_law_541 : decode cL_law 541 = .ok (.iload 5, 2) := by decide +kernel
set_option maxRecDepth 20000 in
theorem dL_law_543 : decode cL_law 543 = .ok (.if_icmp .eq 5, 3) := by decide +kernel
set_option maxRecDepth 20000 in
theorem dL_law_546 : decode cL_law 546 = .ok (.iconst 0, 1) := by decide +kernel
set_option maxRecDepth 20000 in
theorem dL_law_547 : decode cL_law 547 = .ok (.ireturn, 1) := by decide +kernel
set_option maxRecDepth 20000 in
theorem dL_law_548 : decode cL_law 548 = .ok (.iload 5, 2) := by decide +kernel
set_option maxRecDepth 20000 in
theorem dL_law_550 : decode cL_law 550 = .ok (.ifCond .ne 15, 3) := by decide +kernel
set_option maxRecDepth 20000 in
theorem dL_law_553 : decode cL_law 553 = .ok (.aload_n 3, 1) := by decide +kernel
set_option maxRecDepth 20000 in
theorem dL_law_554 : decode cL_law 554 = .ok (.iconst 0, 1) := by decide +kernel
set_option maxRecDepth 20000 in
theorem dL_law_555 : decode cL_law 555 = .ok (.laload, 1) := by decide +kernel
set_option maxRecDepth 20000 in
theorem dL_law_556 : decode cL_law 556 = .ok (.iload 6, 2) := by decide +kernel
set_option maxRecDepth 20000 in
theorem dL_law_558 : decode cL_law 558 = .ok (.i2l, 1) := by decide +kernel
set_option maxRecDepth 20000 in
theorem dL_law_559 : decode cL_law 559 = .ok (.lcmp, 1) := by decide +kernel
set_option maxRecDepth 20000 in
theorem dL_law_560 : decode cL_law 560 = .ok (.ifCond .eq 5, 3) := by decide +kernel
set_option maxRecDepth 20000 in
theorem dL_law_563 : decode cL_law 563 = .ok (.iconst 0, 1) := by decide +kernel
set_option maxRecDepth 20000 in
theorem dL_law_564 : decode cL_law 564 = .ok (.ireturn, 1) := by decide +kernel
set_option maxRecDepth 20000 in
theorem dL_law_565 : decode cL_law 565 = .ok (.goto 850, 3) := by decide +kernel
set_option maxRecDepth 20000 in
theorem dL_law_568 : decode cL_law 568 = .ok (.aload_n 1, 1) := by decide +kernel
set_option maxRecDepth 20000 in
theorem dL_law_569 : decode cL_law 569 = .ok (.aload_n 0, 1) := by decide +kernel
set_option maxRecDepth 20000 in
theorem dL_law_570 : decode cL_law 570 = .ok (.iload 4, 2) := by decide +kernel
set_option maxRecDepth 20000 in
theorem dL_law_572 : decode cL_law 572 = .ok (.iconst 1, 1) := by decide +kernel
set_option maxRecDepth 20000 in
theorem dL_law_573 : decode cL_law 573 = .ok (.iadd, 1) := by decide +kernel
set_option maxRecDepth 20000 in
theorem dL_law_574 : decode cL_law 574 = .ok (.iaload, 1) := by decide +kernel
set_option maxRecDepth 20000 in
theorem dL_law_575 : decode cL_law 575 = .ok (.aload_n 3, 1) := by decide +kernel
set_option maxRecDepth 20000 in
theorem dL_law_576 : decode cL_law 576 = .ok (.invokestatic 106, 3) := by decide +kernel
set_option maxRecDepth 20000 in
theorem dL_law_579 : decode cL_law 579 = .ok (.istore 5, 2) := by decide +kernel
set_option maxRecDepth 20000 in
theorem dL_law_581 : decode cL_law 581 = .ok (.aload_n 2, 1) := by decide +kernel
set_option maxRecDepth 20000 in
theorem dL_law_582 : decode cL_law 582 = .ok (.aload_n 0, 1) := by decide +kernel
set_option maxRecDepth 20000 in
theorem dL_law_583 : decode cL_law 583 = .ok (.iload 4, 2) := by decide +kernel
set_option maxRecDepth 20000 in
theorem dL_law_585 : decode cL_law 585 = .ok (.iconst 1, 1) := by decide +kernel
set_option maxRecDepth 20000 in
theorem dL_law_586 : decode cL_law 586 = .ok (.iadd, 1) := by decide +kernel
set_option maxRecDepth 20000 in
theorem dL_law_587 : decode cL_law 587 = .ok (.iaload, 1) := by decide +kernel
set_option maxRecDepth 20000 in
theorem dL_law_588 : decode cL_law 588 = .ok (.invokevirtual 108, 3) := by decide +kernel
set_option maxRecDepth 20000 in
theorem dL_law_591 : decode cL_law 591 = .ok (.istore 6, 2) := by decide +kernel
set_option maxRecDepth 20000 in
theorem dL_law_593 : decode cL_law 593 = .ok (.aload_n 2, 1) := by decide +kernel
set_option maxRecDepth 20000 in
theorem dL_law_594 : decode cL_law 594 = .ok (.invokevirtual 86, 3) := by decide +kernel
set_option maxRecDepth 20000 in
theorem dL_law_597 : decode cL_law 597 = .ok (.iload 5, 2) := by decide +kernel
set_option maxRecDepth 20000 in
theorem dL_law_599 : decode cL_law 599 = .ok (.if_icmp .eq 5, 3) := by decide +kernel
set_option maxRecDepth 20000 in
theorem dL_law_602 : decode cL_law 602 = .ok (.iconst 0, 1) := by decide +kernel
set_option maxRecDepth 20000 in
theorem dL_law_603 : decode cL_law 603 = .ok (.ireturn, 1) := by decide +kernel
set_option maxRecDepth 20000 in
theorem dL_law_604 : decode cL_law 604 = .ok (.iload 5, 2) := by decide +kernel
set_option maxRecDepth 20000 in
theorem dL_law_606 : decode cL_law 606 = .ok (.ifCond .ne 15, 3) := by decide +kernel
set_option maxRecDepth 20000 in
theorem dL_law_609 : decode cL_law 609 = .ok (.aload_n 3, 1) := by decide +kernel
set_option maxRecDepth 20000 in
theorem dL_law_610 : decode cL_law 610 = .ok (.iconst 0, 1) := by decide +kernel
set_option maxRecDepth 20000 in
theorem dL_law_611 : decode cL_law 611 = .ok (.laload, 1) := by decide +kernel
set_option maxRecDepth 20000 in
theorem dL_law_612 : decode cL_law 612 = .ok (.iload 6, 2) := by decide +kernel
set_option maxRecDepth 20000 in
theorem dL_law_614 : decode cL_law 614 = .ok (.i2l, 1) := by decide +kernel
set_option maxRecDepth 20000 in
theorem dL_law_615 : decode cL_law 615 = .ok (.lcmp, 1) := by decide +kernel
set_option maxRecDepth 20000 in
theorem dL_law_616 : decode cL_law 616 = .ok (.ifCond .eq 5, 3) := by decide +kernel
set_option maxRecDepth 20000 in
theorem dL_law_619 : decode cL_law 619 = .ok (.iconst 0, 1) := by decide +kernel
set_option maxRecDepth 20000 in
theorem dL_law_620 : decode cL_law 620 = .ok (.ireturn, 1) := by decide +kernel
set_option maxRecDepth 20000 in
theorem dL_law_621 : decode cL_law 621 = .ok (.goto 794, 3) := by decide +kernel
set_option maxRecDepth 20000 in
theorem dL_law_624 : decode cL_law 624 = .ok (.aload_n 1, 1) := by decide +kernel
set_option maxRecDepth 20000 in
theorem dL_law_625 : decode cL_law 625 = .ok (.aload_n 0, 1) := by decide +kernel
set_option maxRecDepth 20000 in
theorem dL_law_626 : decode cL_law 626 = .ok (.iload 4, 2) := by decide +kernel
set_option maxRecDepth 20000 in
theorem dL_law_628 : decode cL_law 628 = .ok (.iconst 1, 1) := by decide +kernel
set_option maxRecDepth 20000 in
theorem dL_law_629 : decode cL_law 629 = .ok (.iadd, 1) := by decide +kernel
set_option maxRecDepth 20000 in
theorem dL_law_630 : decode cL_law 630 = .ok (.iaload, 1) := by decide +kernel
set_option maxRecDepth 20000 in
theorem dL_law_631 : decode cL_law 631 = .ok (.aload_n 0, 1) := by decide +kernel
set_option maxRecDepth 20000 in
theorem dL_law_632 : decode cL_law 632 = .ok (.iload 4, 2) := by decide +kernel
set_option maxRecDepth 20000 in
theorem dL_law_634 : decode cL_law 634 = .ok (.iconst 2, 1) := by decide +kernel
set_option maxRecDepth 20000 in
theorem dL_law_635 : decode cL_law 635 = .ok (.iadd, 1) := by decide +kernel
set_option maxRecDepth 20000 in
theorem dL_law_636 : decode cL_law 636 = .ok (.iaload, 1) := by decide +kernel
set_option maxRecDepth 20000 in
theorem dL_law_637 : decode cL_law 637 = .ok (.aload_n 3, 1) := by decide +kernel
set_option maxRecDepth 20000 in
theorem dL_law_638 : decode cL_law 638 = .ok (.invokestatic 109, 3) := by decide +kernel
set_option maxRecDepth 20000 in
theorem dL_law_641 : decode cL_law 641 = .ok (.istore 5, 2) := by decide +kernel
set_option maxRecDepth 20000 in
theorem dL_law_643 : decode cL_law 643 = .ok (.aload_n 2, 1) := by decide +kernel
set_option maxRecDepth 20000 in
theorem dL_law_644 : decode cL_law 644 = .ok (.aload_n 0, 1) := by decide +kernel
set_option maxRecDepth 20000 in
theorem dL_law_645 : decode cL_law 645 = .ok (.iload 4, 2) := by decide +kernel
set_option maxRecDepth 20000 in
theorem dL_law_647 : decode cL_law 647 = .ok (.iconst 1, 1) := by decide +kernel
set_option maxRecDepth 20000 in
theorem dL_law_648 : decode cL_law 648 = .ok (.iadd, 1) := by decide +kernel
set_option maxRecDepth 20000 in
theorem dL_law_649 : decode cL_law 649 = .ok (.iaload, 1) := by decide +kernel
set_option maxRecDepth 20000 in
theorem dL_law_650 : decode cL_law 650 = .ok (.aload_n 0, 1) := by decide +kernel
set_option maxRecDepth 20000 in
theorem dL_law_651 : decode cL_law 651 = .ok (.iload 4, 2) := by decide +kernel
set_option maxRecDepth 20000 in
theorem dL_law_653 : decode cL_law 653 = .ok (.iconst 2, 1) := by decide +kernel
set_option maxRecDepth 20000 in
theorem dL_law_654 : decode cL_law 654 = .ok (.iadd, 1) := by decide +kernel
set_option maxRecDepth 20000 in
theorem dL_law_655 : decode cL_law 655 = .ok (.iaload, 1) := by decide +kernel
set_option maxRecDepth 20000 in
theorem dL_law_656 : decode cL_law 656 = .ok (.invokevirtual 111, 3) := by decide +kernel
set_option maxRecDepth 20000 in
theorem dL_law_659 : decode cL_law 659 = .ok (.istore 6, 2) := by decide +kernel
set_option maxRecDepth 20000 in
theorem dL_law_661 : decode cL_law 661 = .ok (.aload_n 2, 1) := by decide +kernel
set_option maxRecDepth 20000 in
theorem dL_law_662 : decode cL_law 662 = .ok (.invokevirtual 86, 3) := by decide +kernel
set_option maxRecDepth 20000 in
theorem dL_law_665 : decode cL_law 665 = .ok (.iload 5, 2) := by decide +kernel
set_option maxRecDepth 20000 in
theorem dL_law_667 : decode cL_law 667 = .ok (.if_icmp .eq 5, 3) := by decide +kernel
set_option maxRecDepth 20000 in
theorem dL_law_670 : decode cL_law 670 = .ok (.iconst 0, 1) := by decide +kernel
set_option maxRecDepth 20000 in
theorem dL_law_671 : decode cL_law 671 = .ok (.ireturn, 1) := by decide +kernel
set_option maxRecDepth 20000 in
theorem dL_law_672 : decode cL_law 672 = .ok (.iload 5, 2) := by decide +kernel
set_option maxRecDepth 20000 in
theorem dL_law_674 : decode cL_law 674 = .ok (.ifCond .ne 15, 3) := by decide +kernel
set_option maxRecDepth 20000 in
theorem dL_law_677 : decode cL_law 677 = .ok (.aload_n 3, 1) := by decide +kernel
set_option maxRecDepth 20000 in
theorem dL_law_678 : decode cL_law 678 = .ok (.iconst 0, 1) := by decide +kernel
set_option maxRecDepth 20000 in
theorem dL_law_679 : decode cL_law 679 = .ok (.laload, 1) := by decide +kernel
set_option maxRecDepth 20000 in
theorem dL_law_680 : decode cL_law 680 = .ok (.iload 6, 2) := by decide +kernel
set_option maxRecDepth 20000 in
theorem dL_law_682 : decode cL_law 682 = .ok (.i2l, 1) := by decide +kernel
set_option maxRecDepth 20000 in
theorem dL_law_683 : decode cL_law 683 = .ok (.lcmp, 1) := by decide +kernel
set_option maxRecDepth 20000 in
theorem dL_law_684 : decode cL_law 684 = .ok (.ifCond .eq 5, 3) := by decide +kernel
set_option maxRecDepth 20000 in
theorem dL_law_687 : decode cL_law 687 = .ok (.iconst 0, 1) := by decide +kernel
set_option maxRecDepth 20000 in
theorem dL_law_688 : decode cL_law 688 = .ok (.ireturn, 1) := by decide +kernel
set_option maxRecDepth 20000 in
theorem dL_law_689 : decode cL_law 689 = .ok (.goto 726, 3) := by decide +kernel
set_option maxRecDepth 20000 in
theorem dL_law_692 : decode cL_law 692 = .ok (.aload_n 1, 1) := by decide +kernel
set_option maxRecDepth 20000 in
theorem dL_law_693 : decode cL_law 693 = .ok (.aload_n 0, 1) := by decide +kernel
set_option maxRecDepth 20000 in
theorem dL_law_694 : decode cL_law 694 = .ok (.iload 4, 2) := by decide +kernel
set_option maxRecDepth 20000 in
theorem dL_law_696 : decode cL_law 696 = .ok (.iconst 1, 1) := by decide +kernel
set_option maxRecDepth 20000 in
theorem dL_law_697 : decode cL_law 697 = .ok (.iadd, 1) := by decide +kernel
set_option maxRecDepth 20000 in
theorem dL_law_698 : decode cL_law 698 = .ok (.iaload, 1) := by decide +kernel
set_option maxRecDepth 20000 in
theorem dL_law_699 : decode cL_law 699 = .ok (.aload_n 3, 1) := by decide +kernel
set_option maxRecDepth 20000 in
theorem dL_law_700 : decode cL_law 700 = .ok (.invokestatic 112, 3) := by decide +kernel
set_option maxRecDepth 20000 in
theorem dL_law_703 : decode cL_law 703 = .ok (.istore 5, 2) := by decide +kernel
set_option maxRecDepth 20000 in
theorem dL_law_705 : decode cL_law 705 = .ok (.aload_n 2, 1) := by decide +kernel
set_option maxRecDepth 20000 in
theorem dL_law_706 : decode cL_law 706 = .ok (.aload_n 0, 1) := by decide +kernel
set_option maxRecDepth 20000 in
theorem dL_law_707 : decode cL_law 707 = .ok (.iload 4, 2) := by decide +kernel
set_option maxRecDepth 20000 in
theorem dL_law_709 : decode cL_law 709 = .ok (.iconst 1, 1) := by decide +kernel
set_option maxRecDepth 20000 in
theorem dL_law_710 : decode cL_law 710 = .ok (.iadd, 1) := by decide +kernel
set_option maxRecDepth 20000 in
theorem dL_law_711 : decode cL_law 711 = .ok (.iaload, 1) := by decide +kernel
set_option maxRecDepth 20000 in
theorem dL_law_712 : decode cL_law 712 = .ok (.invokevirtual 114, 3) := by decide +kernel
set_option maxRecDepth 20000 in
theorem dL_law_715 : decode cL_law 715 = .ok (.istore 6, 2) := by decide +kernel
set_option maxRecDepth 20000 in
theorem dL_law_717 : decode cL_law 717 = .ok (.aload_n 2, 1) := by decide +kernel
set_option maxRecDepth 20000 in
theorem dL_law_718 : decode cL_law 718 = .ok (.invokevirtual 86, 3) := by decide +kernel
set_option maxRecDepth 20000 in
theorem dL_law_721 : decode cL_law 721 = .ok (.iload 5, 2) := by decide +kernel
set_option maxRecDepth 20000 in
theorem dL_law_723 : decode cL_law 723 = .ok (.if_icmp .eq 5, 3) := by decide +kernel
set_option maxRecDepth 20000 in
theorem dL_law_726 : decode cL_law 726 = .ok (.iconst 0, 1) := by decide +kernel
set_option maxRecDepth 20000 in
theorem dL_law_727 : decode cL_law 727 = .ok (.ireturn, 1) := by decide +kernel
set_option maxRecDepth 20000 in
theorem dL_law_728 : decode cL_law 728 = .ok (.iload 5, 2) := by decide +kernel
set_option maxRecDepth 20000 in
theorem dL_law_730 : decode cL_law 730 = .ok (.ifCond .ne 15, 3) := by decide +kernel
set_option maxRecDepth 20000 in
theorem dL_law_733 : decode cL_law 733 = .ok (.aload_n 3, 1) := by decide +kernel
set_option maxRecDepth 20000 in
theorem dL_law_734 : decode cL_law 734 = .ok (.iconst 0, 1) := by decide +kernel
set_option maxRecDepth 20000 in
theorem dL_law_735 : decode cL_law 735 = .ok (.laload, 1) := by decide +kernel
set_option maxRecDepth 20000 in
theorem dL_law_736 : decode cL_law 736 = .ok (.iload 6, 2) := by decide +kernel
set_option maxRecDepth 20000 in
theorem dL_law_738 : decode cL_law 738 = .ok (.i2l, 1) := by decide +kernel
set_option maxRecDepth 20000 in
theorem dL_law_739 : decode cL_law 739 = .ok (.lcmp, 1) := by decide +kernel
set_option maxRecDepth 20000 in
theorem dL_law_740 : decode cL_law 740 = .ok (.ifCond .eq 5, 3) := by decide +kernel
set_option maxRecDepth 20000 in
theorem dL_law_743 : decode cL_law 743 = .ok (.iconst 0, 1) := by decide +kernel
set_option maxRecDepth 20000 in
theorem dL_law_744 : decode cL_law 744 = .ok (.ireturn, 1) := by decide +kernel
set_option maxRecDepth 20000 in
theorem dL_law_745 : decode cL_law 745 = .ok (.goto 670, 3) := by decide +kernel
set_option maxRecDepth 20000 in
theorem dL_law_748 : decode cL_law 748 = .ok (.aload_n 1, 1) := by decide +kernel
set_option maxRecDepth 20000 in
theorem dL_law_749 : decode cL_law 749 = .ok (.aload_n 0, 1) := by decide +kernel
set_option maxRecDepth 20000 in
theorem dL_law_750 : decode cL_law 750 = .ok (.iload 4, 2) := by decide +kernel
set_option maxRecDepth 20000 in
theorem dL_law_752 : decode cL_law 752 = .ok (.iconst 1, 1) := by decide +kernel
set_option maxRecDepth 20000 in
theorem dL_law_753 : decode cL_law 753 = .ok (.iadd, 1) := by decide +kernel
set_option maxRecDepth 20000 in
theorem dL_law_754 : decode cL_law 754 = .ok (.iaload, 1) := by decide +kernel
set_option maxRecDepth 20000 in
theorem dL_law_755 : decode cL_law 755 = .ok (.aload_n 3, 1) := by decide +kernel
set_option maxRecDepth 20000 in
theorem dL_law_756 : decode cL_law 756 = .ok (.invokestatic 115, 3) := by decide +kernel
set_option maxRecDepth 20000 in
theorem dL_law_759 : decode cL_law 759 = .ok (.istore 5, 2) := by decide +kernel
set_option maxRecDepth 20000 in
theorem dL_law_761 : decode cL_law 761 = .ok (.aload_n 2, 1) := by decide +kernel
set_option maxRecDepth 20000 in
theorem dL_law_762 : decode cL_law 762 = .ok (.aload_n 0, 1) := by decide +kernel
set_option maxRecDepth 20000 in
theorem dL_law_763 : decode cL_law 763 = .ok (.iload 4, 2) := by decide +kernel
set_option maxRecDepth 20000 in
theorem dL_law_765 : decode cL_law 765 = .ok (.iconst 1, 1) := by decide +kernel
set_option maxRecDepth 20000 in
theorem dL_law_766 : decode cL_law 766 = .ok (.iadd, 1) := by decide +kernel
set_option maxRecDepth 20000 in
theorem dL_law_767 : decode cL_law 767 = .ok (.iaload, 1) := by decide +kernel
set_option maxRecDepth 20000 in
theorem dL_law_768 : decode cL_law 768 = .ok (.invokevirtual 117, 3) := by decide +kernel
set_option maxRecDepth 20000 in
theorem dL_law_771 : decode cL_law 771 = .ok (.istore 6, 2) := by decide +kernel
set_option maxRecDepth 20000 in
theorem dL_law_773 : decode cL_law 773 = .ok (.aload_n 2, 1) := by decide +kernel
set_option maxRecDepth 20000 in
theorem dL_law_774 : decode cL_law 774 = .ok (.invokevirtual 86, 3) := by decide +kernel
set_option maxRecDepth 20000 in
theorem dL_law_777 : decode cL_law 777 = .ok (.iload 5, 2) := by decide +kernel
set_option maxRecDepth 20000 in
theorem dL_law_779 : decode cL_law 779 = .ok (.if_icmp .eq 5, 3) := by decide +kernel
set_option maxRecDepth 20000 in
theorem dL_law_782 : decode cL_law 782 = .ok (.iconst 0, 1) := by decide +kernel
set_option maxRecDepth 20000 in
theorem dL_law_783 : decode cL_law 783 = .ok (.ireturn, 1) := by decide +kernel
set_option maxRecDepth 20000 in
theorem dL_law_784 : decode cL_law 784 = .ok (.iload 5, 2) := by decide +kernel
set_option maxRecDepth 20000 in
theorem dL_law_786 : decode cL_law 786 = .ok (.ifCond .ne 15, 3) := by decide +kernel
set_option maxRecDepth 20000 in
theorem dL_law_789 : decode cL_law 789 = .ok (.aload_n 3, 1) := by decide +kernel
set_option maxRecDepth 20000 in
theorem dL_law_790 : decode cL_law 790 = .ok (.iconst 0, 1) := by decide +kernel
set_option maxRecDepth 20000 in
theorem dL_law_791 : decode cL_law 791 = .ok (.laload, 1) := by decide +kernel
set_option maxRecDepth 20000 in
theorem dL_law_792 : decode cL_law 792 = .ok (.iload 6, 2) := by decide +kernel
set_option maxRecDepth 20000 in
theorem dL_law_794 : decode cL_law 794 = .ok (.i2l, 1) := by decide +kernel
set_option maxRecDepth 20000 in
theorem dL_law_795 : decode cL_law 795 = .ok (.lcmp, 1) := by decide +kernel
set_option maxRecDepth 20000 in
theorem dL_law_796 : decode cL_law 796 = .ok (.ifCond .eq 5, 3) := by decide +kernel
set_option maxRecDepth 20000 in
theorem dL_law_799 : decode cL_law 799 = .ok (.iconst 0, 1) := by decide +kernel
set_option maxRecDepth 20000 in
theorem dL_law_800 : decode cL_law 800 = .ok (.ireturn, 1) := by decide +kernel
set_option maxRecDepth 20000 in
theorem dL_law_801 : decode cL_law 801 = .ok (.goto 614, 3) := by decide +kernel
set_option maxRecDepth 20000 in
theorem dL_law_804 : decode cL_law 804 = .ok (.aload_n 1, 1) := by decide +kernel
set_option maxRecDepth 20000 in
theorem dL_law_805 : decode cL_law 805 = .ok (.aload_n 0, 1) := by decide +kernel
set_option maxRecDepth 20000 in
theorem dL_law_806 : decode cL_law 806 = .ok (.iload 4, 2) := by decide +kernel
set_option maxRecDepth 20000 in
theorem dL_law_808 : decode cL_law 808 = .ok (.iconst 1, 1) := by decide +kernel
set_option maxRecDepth 20000 in
theorem dL_law_809 : decode cL_law 809 = .ok (.iadd, 1) := by decide +kernel
set_option maxRecDepth 20000 in
theorem dL_law_810 : decode cL_law 810 = .ok (.iaload, 1) := by decide +kernel
set_option maxRecDepth 20000 in
theorem dL_law_811 : decode cL_law 811 = .ok (.aload_n 3, 1) := by decide +kernel
set_option maxRecDepth 20000 in
theorem dL_law_812 : decode cL_law 812 = .ok (.invokestatic 118, 3) := by decide +kernel
set_option maxRecDepth 20000 in
theorem dL_law_815 : decode cL_law 815 = .ok (.istore 5, 2) := by decide +kernel
set_option maxRecDepth 20000 in
theorem dL_law_817 : decode cL_law 817 = .ok (.aload_n 2, 1) := by decide +kernel
set_option maxRecDepth 20000 in
theorem dL_law_818 : decode cL_law 818 = .ok (.aload_n 0, 1) := by decide +kernel
set_option maxRecDepth 20000 in
theorem dL_law_819 : decode cL_law 819 = .ok (.iload 4, 2) := by decide +kernel
set_option maxRecDepth 20000 in
theorem dL_law_821 : decode cL_law 821 = .ok (.iconst 1, 1) := by decide +kernel
set_option maxRecDepth 20000 in
theorem dL_law_822 : decode cL_law 822 = .ok (.iadd, 1) := by decide +kernel
set_option maxRecDepth 20000 in
theorem dL_law_823 : decode cL_law 823 = .ok (.iaload, 1) := by decide +kernel
set_option maxRecDepth 20000 in
theorem dL_law_824 : decode cL_law 824 = .ok (.invokevirtual 120, 3) := by decide +kernel
set_option maxRecDepth 20000 in
theorem dL_law_827 : decode cL_law 827 = .ok (.istore 6, 2) := by decide +kernel
set_option maxRecDepth 20000 in
theorem dL_law_829 : decode cL_law 829 = .ok (.aload_n 2, 1) := by decide +kernel
set_option maxRecDepth 20000 in
theorem dL_law_830 : decode cL_law 830 = .ok (.invokevirtual 86, 3) := by decide +kernel
set_option maxRecDepth 20000 in
theorem dL_law_833 : decode cL_law 833 = .ok (.iload 5, 2) := by decide +kernel
set_option maxRecDepth 20000 in
theorem dL_law_835 : decode cL_law 835 = .ok (.if_icmp .eq 5, 3) := by decide +kernel
set_option maxRecDepth 20000 in
theorem dL_law_838 : decode cL_law 838 = .ok (.iconst 0, 1) := by decide +kernel
set_option maxRecDepth 20000 in
theorem dL_law_839 : decode cL_law 839 = .ok (.ireturn, 1) := by decide +kernel
set_option maxRecDepth 20000 in
theorem dL_law_840 : decode cL_law 840 = .ok (.iload 5, 2) := by decide +kernel
set_option maxRecDepth 20000 in
theorem dL_law_842 : decode cL_law 842 = .ok (.ifCond .ne 15, 3) := by decide +kernel
set_option maxRecDepth 20000 in
theorem dL_law_845 : decode cL_law 845 = .ok (.aload_n 3, 1) := by decide +kernel
set_option maxRecDepth 20000 in
theorem dL_law_846 : decode cL_law 846 = .ok (.iconst 0, 1) := by decide +kernel
set_option maxRecDepth 20000 in
theorem dL_law_847 : decode cL_law 847 = .ok (.laload, 1) := by decide +kernel
set_option maxRecDepth 20000 in
theorem dL_law_848 : decode cL_law 848 = .ok (.iload 6, 2) := by decide +kernel
set_option maxRecDepth 20000 in
theorem dL_law_850 : decode cL_law 850 = .ok (.i2l, 1) := by decide +kernel
set_option maxRecDepth 20000 in
theorem dL_law_851 : decode cL_law 851 = .ok (.lcmp, 1) := by decide +kernel
set_option maxRecDepth 20000 in
theorem dL_law_852 : decode cL_law 852 = .ok (.ifCond .eq 5, 3) := by decide +kernel
set_option maxRecDepth 20000 in
theorem dL_law_855 : decode cL_law 855 = .ok (.iconst 0, 1) := by decide +kernel
set_option maxRecDepth 20000 in
theorem dL_law_856 : decode cL_law 856 = .ok (.ireturn, 1) := by decide +kernel
set_option maxRecDepth 20000 in
theorem dL_law_857 : decode cL_law 857 = .ok (.goto 558, 3) := by decide +kernel
set_option maxRecDepth 20000 in
theorem dL_law_860 : decode cL_law 860 = .ok (.aload_n 1, 1) := by decide +kernel
set_option maxRecDepth 20000 in
theorem dL_law_861 : decode cL_law 861 = .ok (.invokevirtual 121, 3) := by decide +kernel
set_option maxRecDepth 20000 in
theorem dL_law_864 : decode cL_law 864 = .ok (.aload_n 2, 1) := by decide +kernel
set_option maxRecDepth 20000 in
theorem dL_law_865 : decode cL_law 865 = .ok (.invokevirtual 124, 3) := by decide +kernel
set_option maxRecDepth 20000 in
theorem dL_law_868 : decode cL_law 868 = .ok (.if_icmp .eq 547, 3) := by decide +kernel
set_option maxRecDepth 20000 in
theorem dL_law_871 : decode cL_law 871 = .ok (.iconst 0, 1) := by decide +kernel
set_option maxRecDepth 20000 in
theorem dL_law_872 : decode cL_law 872 = .ok (.ireturn, 1) := by decide +kernel
set_option maxRecDepth 20000 in
theorem dL_law_873 : decode cL_law 873 = .ok (.aload_n 1, 1) := by decide +kernel
set_option maxRecDepth 20000 in
theorem dL_law_874 : decode cL_law 874 = .ok (.invokevirtual 125, 3) := by decide +kernel
set_option maxRecDepth 20000 in
theorem dL_law_877 : decode cL_law 877 = .ok (.aload_n 2, 1) := by decide +kernel
set_option maxRecDepth 20000 in
theorem dL_law_878 : decode cL_law 878 = .ok (.invokevirtual 128, 3) := by decide +kernel
set_option maxRecDepth 20000 in
theorem dL_law_881 : decode cL_law 881 = .ok (.if_icmp .eq 534, 3) := by decide +kernel
set_option maxRecDepth 20000 in
theorem dL_law_884 : decode cL_law 884 = .ok (.iconst 0, 1) := by decide +kernel
set_option maxRecDepth 20000 in
theorem dL_law_885 : decode cL_law 885 = .ok (.ireturn, 1) := by decide +kernel
set_option maxRecDepth 20000 in
theorem dL_law_886 : decode cL_law 886 = .ok (.aload_n 1, 1) := by decide +kernel
set_option maxRecDepth 20000 in
theorem dL_law_887 : decode cL_law 887 = .ok (.aload_n 3, 1) := by decide +kernel
set_option maxRecDepth 20000 in
theorem dL_law_888 : decode cL_law 888 = .ok (.invokestatic 129, 3) := by decide +kernel
set_option maxRecDepth 20000 in
theorem dL_law_891 : decode cL_law 891 = .ok (.istore 5, 2) := by decide +kernel
set_option maxRecDepth 20000 in
theorem dL_law_893 : decode cL_law 893 = .ok (.aload_n 2, 1) := by decide +kernel
set_option maxRecDepth 20000 in
theorem dL_law_894 : decode cL_law 894 = .ok (.invokevirtual 132, 3) := by decide +kernel
set_option maxRecDepth 20000 in
theorem dL_law_897 : decode cL_law 897 = .ok (.istore 6, 2) := by decide +kernel
set_option maxRecDepth 20000 in
theorem dL_law_899 : decode cL_law 899 = .ok (.aload_n 2, 1) := by decide +kernel
set_option maxRecDepth 20000 in
theorem dL_law_900 : decode cL_law 900 = .ok (.invokevirtual 86, 3) := by decide +kernel
set_option maxRecDepth 20000 in
theorem dL_law_903 : decode cL_law 903 = .ok (.iload 5, 2) := by decide +kernel
set_option maxRecDepth 20000 in
theorem dL_law_905 : decode cL_law 905 = .ok (.if_icmp .eq 5, 3) := by decide +kernel
set_option maxRecDepth 20000 in
theorem dL_law_908 : decode cL_law 908 = .ok (.iconst 0, 1) := by decide +kernel
set_option maxRecDepth 20000 in
theorem dL_law_909 : decode cL_law 909 = .ok (.ireturn, 1) := by decide +kernel
set_option maxRecDepth 20000 in
theorem dL_law_910 : decode cL_law 910 = .ok (.iload 5, 2) := by decide +kernel
set_option maxRecDepth 20000 in
theorem dL_law_912 : decode cL_law 912 = .ok (.ifCond .ne 15, 3) := by decide +kernel
set_option maxRecDepth 20000 in
theorem dL_law_915 : decode cL_law 915 = .ok (.aload_n 3, 1) := by decide +kernel
set_option maxRecDepth 20000 in
theorem dL_law_916 : decode cL_law 916 = .ok (.iconst 0, 1) := by decide +kernel
set_option maxRecDepth 20000 in
theorem dL_law_917 : decode cL_law 917 = .ok (.laload, 1) := by decide +kernel
set_option maxRecDepth 20000 in
theorem dL_law_918 : decode cL_law 918 = .ok (.iload 6, 2) := by decide +kernel
set_option maxRecDepth 20000 in
theorem dL_law_920 : decode cL_law 920 = .ok (.i2l, 1) := by decide +kernel
set_option maxRecDepth 20000 in
theorem dL_law_921 : decode cL_law 921 = .ok (.lcmp, 1) := by decide +kernel
set_option maxRecDepth 20000 in
theorem dL_law_922 : decode cL_law 922 = .ok (.ifCond .eq 5, 3) := by decide +kernel
set_option maxRecDepth 20000 in
theorem dL_law_925 : decode cL_law 925 = .ok (.iconst 0, 1) := by decide +kernel
set_option maxRecDepth 20000 in
theorem dL_law_926 : decode cL_law 926 = .ok (.ireturn, 1) := by decide +kernel
set_option maxRecDepth 20000 in
theorem dL_law_927 : decode cL_law 927 = .ok (.goto 488, 3) := by decide +kernel
set_option maxRecDepth 20000 in
theorem dL_law_930 : decode cL_law 930 = .ok (.aload_n 1, 1) := by decide +kernel
set_option maxRecDepth 20000 in
theorem dL_law_931 : decode cL_law 931 = .ok (.aload_n 3, 1) := by decide +kernel
set_option maxRecDepth 20000 in
theorem dL_law_932 : decode cL_law 932 = .ok (.invokestatic 133, 3) := by decide +kernel
set_option maxRecDepth 20000 in
theorem dL_law_935 : decode cL_law 935 = .ok (.istore 5, 2) := by decide +kernel
set_option maxRecDepth 20000 in
theorem dL_law_937 : decode cL_law 937 = .ok (.aload_n 2, 1) := by decide +kernel
set_option maxRecDepth 20000 in
theorem dL_law_938 : decode cL_law 938 = .ok (.invokevirtual 135, 3) := by decide +kernel
set_option maxRecDepth 20000 in
theorem dL_law_941 : decode cL_law 941 = .ok (.istore 6, 2) := by decide +kernel
set_option maxRecDepth 20000 in
theorem dL_law_943 : decode cL_law 943 = .ok (.aload_n 2, 1) := by decide +kernel
set_option maxRecDepth 20000 in
theorem dL_law_944 : decode cL_law 944 = .ok (.invokevirtual 86, 3) := by decide +kernel
set_option maxRecDepth 20000 in
theorem dL_law_947 : decode cL_law 947 = .ok (.iload 5, 2) := by decide +kernel
set_option maxRecDepth 20000 in
theorem dL_law_949 : decode cL_law 949 = .ok (.if_icmp .eq 5, 3) := by decide +kernel
set_option maxRecDepth 20000 in
theorem dL_law_952 : decode cL_law 952 = .ok (.iconst 0, 1) := by decide +kernel
set_option maxRecDepth 20000 in
theorem dL_law_953 : decode cL_law 953 = .ok (.ireturn, 1) := by decide +kernel
set_option maxRecDepth 20000 in
theorem dL_law_954 : decode cL_law 954 = .ok (.iload 5, 2) := by decide +kernel
set_option maxRecDepth 20000 in
theorem dL_law_956 : decode cL_law 956 = .ok (.ifCond .ne 15, 3) := by decide +kernel
set_option maxRecDepth 20000 in
theorem dL_law_959 : decode cL_law 959 = .ok (.aload_n 3, 1) := by decide +kernel
set_option maxRecDepth 20000 in
theorem dL_law_960 : decode cL_law 960 = .ok (.iconst 0, 1) := by decide +kernel
set_option maxRecDepth 20000 in
theorem dL_law_961 : decode cL_law 961 = .ok (.laload, 1) := by decide +kernel
set_option maxRecDepth 20000 in
theorem dL_law_962 : decode cL_law 962 = .ok (.iload 6, 2) := by decide +kernel
set_option maxRecDepth 20000 in
theorem dL_law_964 : decode cL_law 964 = .ok (.i2l, 1) := by decide +kernel
set_option maxRecDepth 20000 in
theorem dL_law_965 : decode cL_law 965 = .ok (.lcmp, 1) := by decide +kernel
set_option maxRecDepth 20000 in
theorem dL_law_966 : decode cL_law 966 = .ok (.ifCond .eq 5, 3) := by decide +kernel
set_option maxRecDepth 20000 in
theorem dL_law_969 : decode cL_law 969 = .ok (.iconst 0, 1) := by decide +kernel
set_option maxRecDepth 20000 in
theorem dL_law_970 : decode cL_law 970 = .ok (.ireturn, 1) := by decide +kernel
set_option maxRecDepth 20000 in
theorem dL_law_971 : decode cL_law 971 = .ok (.goto 444, 3) := by decide +kernel
set_option maxRecDepth 20000 in
theorem dL_law_974 : decode cL_law 974 = .ok (.aload_n 1, 1) := by decide +kernel
set_option maxRecDepth 20000 in
theorem dL_law_975 : decode cL_law 975 = .ok (.aload_n 0, 1) := by decide +kernel
set_option maxRecDepth 20000 in
theorem dL_law_976 : decode cL_law 976 = .ok (.iload 4, 2) := by decide +kernel
set_option maxRecDepth 20000 in
theorem dL_law_978 : decode cL_law 978 = .ok (.iconst 1, 1) := by decide +kernel
set_option maxRecDepth 20000 in
theorem dL_law_979 : decode cL_law 979 = .ok (.iadd, 1) := by decide +kernel
set_option maxRecDepth 20000 in
theorem dL_law_980 : decode cL_law 980 = .ok (.iaload, 1) := by decide +kernel
set_option maxRecDepth 20000 in
theorem dL_law_981 : decode cL_law 981 = .ok (.aload_n 0, 1) := by decide +kernel
set_option maxRecDepth 20000 in
theorem dL_law_982 : decode cL_law 982 = .ok (.iload 4, 2) := by decide +kernel
set_option maxRecDepth 20000 in
theorem dL_law_984 : decode cL_law 984 = .ok (.iconst 2, 1) := by decide +kernel
set_option maxRecDepth 20000 in
theorem dL_law_985 : decode cL_law 985 = .ok (.iadd, 1) := by decide +kernel
set_option maxRecDepth 20000 in
theorem dL_law_986 : decode cL_law 986 = .ok (.iaload, 1) := by decide +kernel
set_option maxRecDepth 20000 in
theorem dL_law_987 : decode cL_law 987 = .ok (.aload_n 3, 1) := by decide +kernel
set_option maxRecDepth 20000 in
theorem dL_law_988 : decode cL_law 988 = .ok (.invokestatic 136, 3) := by decide +kernel
set_option maxRecDepth 20000 in
theorem dL_law_991 : decode cL_law 991 = .ok (.istore 5, 2) := by decide +kernel
set_option maxRecDepth 20000 in
theorem dL_law_993 : decode cL_law 993 = .ok (.aload_n 2, 1) := by decide +kernel
set_option maxRecDepth 20000 in
theorem dL_law_994 : decode cL_law 994 = .ok (.aload_n 0, 1) := by decide +kernel
set_option maxRecDepth 20000 in
theorem dL_law_995 : decode cL_law 995 = .ok (.iload 4, 2) := by decide +kernel
set_option maxRecDepth 20000 in
theorem dL_law_997 : decode cL_law 997 = .ok (.iconst 1, 1) := by decide +kernel
set_option maxRecDepth 20000 in
theorem dL_law_998 : decode cL_law 998 = .ok (.iadd, 1) := by decide +kernel
set_option maxRecDepth 20000 in
theorem dL_law_999 : decode cL_law 999 = .ok (.iaload, 1) := by decide +kernel
set_option maxRecDepth 20000 in
theorem dL_law_1000 : decode cL_law 1000 = .ok (.aload_n 0, 1) := by decide +kernel
set_option maxRecDepth 20000 in
theorem dL_law_1001 : decode cL_law 1001 = .ok (.iload 4, 2) := by decide +kernel
set_option maxRecDepth 20000 in
theorem dL_law_1003 : decode cL_law 1003 = .ok (.iconst 2, 1) := by decide +kernel
set_option maxRecDepth 20000 in
theorem dL_law_1004 : decode cL_law 1004 = .ok (.iadd, 1) := by decide +kernel
set_option maxRecDepth 20000 in
theorem dL_law_1005 : decode cL_law 1005 = .ok (.iaload, 1) := by decide +kernel
set_option maxRecDepth 20000 in
theorem dL_law_1006 : decode cL_law 1006 = .ok (.invokevirtual 138, 3) := by decide +kernel
set_option maxRecDepth 20000 in
theorem dL_law_1009 : decode cL_law 1009 = .ok (.istore 6, 2) := by decide +kernel
set_option maxRecDepth 20000 in
theorem dL_law_1011 : decode cL_law 1011 = .ok (.aload_n 2, 1) := by decide +kernel
set_option maxRecDepth 20000 in
theorem dL_law_1012 : decode cL_law 1012 = .ok (.invokevirtual 86, 3) := by decide +kernel
set_option maxRecDepth 20000 in
theorem dL_law_1015 : decode cL_law 1015 = .ok (.iload 5, 2) := by decide +kernel
set_option maxRecDepth 20000 in
theorem dL_law_1017 : decode cL_law 1017 = .ok (.if_icmp .eq 5, 3) := by decide +kernel
set_option maxRecDepth 20000 in
theorem dL_law_1020 : decode cL_law 1020 = .ok (.iconst 0, 1) := by decide +kernel
set_option maxRecDepth 20000 in
theorem dL_law_1021 : decode cL_law 1021 = .ok (.ireturn, 1) := by decide +kernel
set_option maxRecDepth 20000 in
theorem dL_law_1022 : decode cL_law 1022 = .ok (.iload 5, 2) := by decide +kernel
set_option maxRecDepth 20000 in
theorem dL_law_1024 : decode cL_law 1024 = .ok (.ifCond .ne 15, 3) := by decide +kernel
set_option maxRecDepth 20000 in
theorem dL_law_1027 : decode cL_law 1027 = .ok (.aload_n 3, 1) := by decide +kernel
set_option maxRecDepth 20000 in
theorem dL_law_1028 : decode cL_law 1028 = .ok (.iconst 0, 1) := by decide +kernel
set_option maxRecDepth 20000 in
theorem dL_law_1029 : decode cL_law 1029 = .ok (.laload, 1) := by decide +kernel
set_option maxRecDepth 20000 in
theorem dL_law_1030 : decode cL_law 1030 = .ok (.iload 6, 2) := by decide +kernel
set_option maxRecDepth 20000 in
theorem dL_law_1032 : decode cL_law 1032 = .ok (.i2l, 1) := by decide +kernel
set_option maxRecDepth 20000 in
theorem dL_law_1033 : decode cL_law 1033 = .ok (.lcmp, 1) := by decide +kernel
set_option maxRecDepth 20000 in
theorem dL_law_1034 : decode cL_law 1034 = .ok (.ifCond .eq 5, 3) := by decide +kernel
set_option maxRecDepth 20000 in
theorem dL_law_1037 : decode cL_law 1037 = .ok (.iconst 0, 1) := by decide +kernel
set_option maxRecDepth 20000 in
theorem dL_law_1038 : decode cL_law 1038 = .ok (.ireturn, 1) := by decide +kernel
set_option maxRecDepth 20000 in
theorem dL_law_1039 : decode cL_law 1039 = .ok (.goto 376, 3) := by decide +kernel
set_option maxRecDepth 20000 in
theorem dL_law_1042 : decode cL_law 1042 = .ok (.aload_n 1, 1) := by decide +kernel
set_option maxRecDepth 20000 in
theorem dL_law_1043 : decode cL_law 1043 = .ok (.aload_n 0, 1) := by decide +kernel
set_option maxRecDepth 20000 in
theorem dL_law_1044 : decode cL_law 1044 = .ok (.iload 4, 2) := by decide +kernel
set_option maxRecDepth 20000 in
theorem dL_law_1046 : decode cL_law 1046 = .ok (.iconst 1, 1) := by decide +kernel
set_option maxRecDepth 20000 in
theorem dL_law_1047 : decode cL_law 1047 = .ok (.iadd, 1) := by decide +kernel
set_option maxRecDepth 20000 in
theorem dL_law_1048 : decode cL_law 1048 = .ok (.iaload, 1) := by decide +kernel
set_option maxRecDepth 20000 in
theorem dL_law_1049 : decode cL_law 1049 = .ok (.aload_n 0, 1) := by decide +kernel
set_option maxRecDepth 20000 in
theorem dL_law_1050 : decode cL_law 1050 = .ok (.iload 4, 2) := by decide +kernel
set_option maxRecDepth 20000 in
theorem dL_law_1052 : decode cL_law 1052 = .ok (.iconst 2, 1) := by decide +kernel
set_option maxRecDepth 20000 in
theorem dL_law_1053 : decode cL_law 1053 = .ok (.iadd, 1) := by decide +kernel
set_option maxRecDepth 20000 in
theorem dL_law_1054 : decode cL_law 1054 = .ok (.iaload, 1) := by decide +kernel
set_option maxRecDepth 20000 in
theorem dL_law_1055 : decode cL_law 1055 = .ok (.aload_n 3, 1) := by decide +kernel
set_option maxRecDepth 20000 in
theorem dL_law_1056 : decode cL_law 1056 = .ok (.invokestatic 139, 3) := by decide +kernel
set_option maxRecDepth 20000 in
theorem dL_law_1059 : decode cL_law 1059 = .ok (.istore 5, 2) := by decide +kernel
set_option maxRecDepth 20000 in
theorem dL_law_1061 : decode cL_law 1061 = .ok (.aload_n 2, 1) := by decide +kernel
set_option maxRecDepth 20000 in
theorem dL_law_1062 : decode cL_law 1062 = .ok (.aload_n 0, 1) := by decide +kernel
set_option maxRecDepth 20000 in
theorem dL_law_1063 : decode cL_law 1063 = .ok (.iload 4, 2) := by decide +kernel
set_option maxRecDepth 20000 in
theorem dL_law_1065 : decode cL_law 1065 = .ok (.iconst 1, 1) := by decide +kernel
set_option maxRecDepth 20000 in
theorem dL_law_1066 : decode cL_law 1066 = .ok (.iadd, 1) := by decide +kernel
set_option maxRecDepth 20000 in
theorem dL_law_1067 : decode cL_law 1067 = .ok (.iaload, 1) := by decide +kernel
set_option maxRecDepth 20000 in
theorem dL_law_1068 : decode cL_law 1068 = .ok (.aload_n 0, 1) := by decide +kernel
set_option maxRecDepth 20000 in
theorem dL_law_1069 : decode cL_law 1069 = .ok (.iload 4, 2) := by decide +kernel
set_option maxRecDepth 20000 in
theorem dL_law_1071 : decode cL_law 1071 = .ok (.iconst 2, 1) := by decide +kernel
set_option maxRecDepth 20000 in
theorem dL_law_1072 : decode cL_law 1072 = .ok (.iadd, 1) := by decide +kernel
set_option maxRecDepth 20000 in
theorem dL_law_1073 : decode cL_law 1073 = .ok (.iaload, 1) := by decide +kernel
set_option maxRecDepth 20000 in
theorem dL_law_1074 : decode cL_law 1074 = .ok (.invokevirtual 141, 3) := by decide +kernel
set_option maxRecDepth 20000 in
theorem dL_law_1077 : decode cL_law 1077 = .ok (.istore 6, 2) := by decide +kernel
set_option maxRecDepth 20000 in
theorem dL_law_1079 : decode cL_law 1079 = .ok (.aload_n 2, 1) := by decide +kernel
set_option maxRecDepth 20000 in
theorem dL_law_1080 : decode cL_law 1080 = .ok (.invokevirtual 86, 3) := by decide +kernel
set_option maxRecDepth 20000 in
theorem dL_law_1083 : decode cL_law 1083 = .ok (.iload 5, 2) := by decide +kernel
set_option maxRecDepth 20000 in
theorem dL_law_1085 : decode cL_law 1085 = .ok (.if_icmp .eq 5, 3) := by decide +kernel
set_option maxRecDepth 20000 in
theorem dL_law_1088 : decode cL_law 1088 = .ok (.iconst 0, 1) := by decide +kernel
set_option maxRecDepth 20000 in
theorem dL_law_1089 : decode cL_law 1089 = .ok (.ireturn, 1) := by decide +kernel
set_option maxRecDepth 20000 in
theorem dL_law_1090 : decode cL_law 1090 = .ok (.iload 5, 2) := by decide +kernel
set_option maxRecDepth 20000 in
theorem dL_law_1092 : decode cL_law 1092 = .ok (.ifCond .ne 15, 3) := by decide +kernel
set_option maxRecDepth 20000 in
theorem dL_law_1095 : decode cL_law 1095 = .ok (.aload_n 3, 1) := by decide +kernel
set_option maxRecDepth 20000 in
theorem dL_law_1096 : decode cL_law 1096 = .ok (.iconst 0, 1) := by decide +kernel
set_option maxRecDepth 20000 in
theorem dL_law_1097 : decode cL_law 1097 = .ok (.laload, 1) := by decide +kernel
set_option maxRecDepth 20000 in
theorem dL_law_1098 : decode cL_law 1098 = .ok (.iload 6, 2) := by decide +kernel
set_option maxRecDepth 20000 in
theorem dL_law_1100 : decode cL_law 1100 = .ok (.i2l, 1) := by decide +kernel
set_option maxRecDepth 20000 in
theorem dL_law_1101 : decode cL_law 1101 = .ok (.lcmp, 1) := by decide +kernel
set_option maxRecDepth 20000 in
theorem dL_law_1102 : decode cL_law 1102 = .ok (.ifCond .eq 5, 3) := by decide +kernel
set_option maxRecDepth 20000 in
theorem dL_law_1105 : decode cL_law 1105 = .ok (.iconst 0, 1) := by decide +kernel
set_option maxRecDepth 20000 in
theorem dL_law_1106 : decode cL_law 1106 = .ok (.ireturn, 1) := by decide +kernel
set_option maxRecDepth 20000 in
theorem dL_law_1107 : decode cL_law 1107 = .ok (.goto 308, 3) := by decide +kernel
set_option maxRecDepth 20000 in
theorem dL_law_1110 : decode cL_law 1110 = .ok (.aload_n 1, 1) := by decide +kernel
set_option maxRecDepth 20000 in
theorem dL_law_1111 : decode cL_law 1111 = .ok (.aload_n 0, 1) := by decide +kernel
set_option maxRecDepth 20000 in
theorem dL_law_1112 : decode cL_law 1112 = .ok (.iload 4, 2) := by decide +kernel
set_option maxRecDepth 20000 in
theorem dL_law_1114 : decode cL_law 1114 = .ok (.iconst 1, 1) := by decide +kernel
set_option maxRecDepth 20000 in
theorem dL_law_1115 : decode cL_law 1115 = .ok (.iadd, 1) := by decide +kernel
set_option maxRecDepth 20000 in
theorem dL_law_1116 : decode cL_law 1116 = .ok (.iaload, 1) := by decide +kernel
set_option maxRecDepth 20000 in
theorem dL_law_1117 : decode cL_law 1117 = .ok (.aload_n 3, 1) := by decide +kernel
set_option maxRecDepth 20000 in
theorem dL_law_1118 : decode cL_law 1118 = .ok (.invokestatic 142, 3) := by decide +kernel
set_option maxRecDepth 20000 in
theorem dL_law_1121 : decode cL_law 1121 = .ok (.istore 5, 2) := by decide +kernel
set_option maxRecDepth 20000 in
theorem dL_law_1123 : decode cL_law 1123 = .ok (.aload_n 2, 1) := by decide +kernel
set_option maxRecDepth 20000 in
theorem dL_law_1124 : decode cL_law 1124 = .ok (.aload_n 0, 1) := by decide +kernel
set_option maxRecDepth 20000 in
theorem dL_law_1125 : decode cL_law 1125 = .ok (.iload 4, 2) := by decide +kernel
set_option maxRecDepth 20000 in
theorem dL_law_1127 : decode cL_law 1127 = .ok (.iconst 1, 1) := by decide +kernel
set_option maxRecDepth 20000 in
theorem dL_law_1128 : decode cL_law 1128 = .ok (.iadd, 1) := by decide +kernel
set_option maxRecDepth 20000 in
theorem dL_law_1129 : decode cL_law 1129 = .ok (.iaload, 1) := by decide +kernel
set_option maxRecDepth 20000 in
theorem dL_law_1130 : decode cL_law 1130 = .ok (.invokevirtual 144, 3) := by decide +kernel
set_option maxRecDepth 20000 in
theorem dL_law_1133 : decode cL_law 1133 = .ok (.istore 6, 2) := by decide +kernel
set_option maxRecDepth 20000 in
theorem dL_law_1135 : decode cL_law 1135 = .ok (.aload_n 2, 1) := by decide +kernel
set_option maxRecDepth 20000 in
theorem dL_law_1136 : decode cL_law 1136 = .ok (.invokevirtual 86, 3) := by decide +kernel
set_option maxRecDepth 20000 in
theorem dL_law_1139 : decode cL_law 1139 = .ok (.iload 5, 2) := by decide +kernel
set_option maxRecDepth 20000 in
theorem dL_law_1141 : decode cL_law 1141 = .ok (.if_icmp .eq 5, 3) := by decide +kernel
set_option maxRecDepth 20000 in
theorem dL_law_1144 : decode cL_law 1144 = .ok (.iconst 0, 1) := by decide +kernel
set_option maxRecDepth 20000 in
theorem dL_law_1145 : decode cL_law 1145 = .ok (.ireturn, 1) := by decide +kernel
set_option maxRecDepth 20000 in
theorem dL_law_1146 : decode cL_law 1146 = .ok (.iload 5, 2) := by decide +kernel
set_option maxRecDepth 20000 in
theorem dL_law_1148 : decode cL_law 1148 = .ok (.ifCond .ne 15, 3) := by decide +kernel
set_option maxRecDepth 20000 in
theorem dL_law_1151 : decode cL_law 1151 = .ok (.aload_n 3, 1) := by decide +kernel
set_option maxRecDepth 20000 in
theorem dL_law_1152 : decode cL_law 1152 = .ok (.iconst 0, 1) := by decide +kernel
set_option maxRecDepth 20000 in
theorem dL_law_1153 : decode cL_law 1153 = .ok (.laload, 1) := by decide +kernel
set_option maxRecDepth 20000 in
theorem dL_law_1154 : decode cL_law 1154 = .ok (.iload 6, 2) := by decide +kernel
set_option maxRecDepth 20000 in
theorem dL_law_1156 : decode cL_law 1156 = .ok (.i2l, 1) := by decide +kernel
set_option maxRecDepth 20000 in
theorem dL_law_1157 : decode cL_law 1157 = .ok (.lcmp, 1) := by decide +kernel
set_option maxRecDepth 20000 in
theorem dL_law_1158 : decode cL_law 1158 = .ok (.ifCond .eq 5, 3) := by decide +kernel
set_option maxRecDepth 20000 in
theorem dL_law_1161 : decode cL_law 1161 = .ok (.iconst 0, 1) := by decide +kernel
set_option maxRecDepth 20000 in
theorem dL_law_1162 : decode cL_law 1162 = .ok (.ireturn, 1) := by decide +kernel
set_option maxRecDepth 20000 in
theorem dL_law_1163 : decode cL_law 1163 = .ok (.goto 252, 3) := by decide +kernel
set_option maxRecDepth 20000 in
theorem dL_law_1166 : decode cL_law 1166 = .ok (.aload_n 1, 1) := by decide +kernel
set_option maxRecDepth 20000 in
theorem dL_law_1167 : decode cL_law 1167 = .ok (.aload_n 0, 1) := by decide +kernel
set_option maxRecDepth 20000 in
theorem dL_law_1168 : decode cL_law 1168 = .ok (.iload 4, 2) := by decide +kernel
set_option maxRecDepth 20000 in
theorem dL_law_1170 : decode cL_law 1170 = .ok (.iconst 1, 1) := by decide +kernel
set_option maxRecDepth 20000 in
theorem dL_law_1171 : decode cL_law 1171 = .ok (.iadd, 1) := by decide +kernel
set_option maxRecDepth 20000 in
theorem dL_law_1172 : decode cL_law 1172 = .ok (.iaload, 1) := by decide +kernel
set_option maxRecDepth 20000 in
theorem dL_law_1173 : decode cL_law 1173 = .ok (.aload_n 3, 1) := by decide +kernel
set_option maxRecDepth 20000 in
theorem dL_law_1174 : decode cL_law 1174 = .ok (.invokestatic 145, 3) := by decide +kernel
set_option maxRecDepth 20000 in
theorem dL_law_1177 : decode cL_law 1177 = .ok (.istore 5, 2) := by decide +kernel
set_option maxRecDepth 20000 in
theorem dL_law_1179 : decode cL_law 1179 = .ok (.aload_n 2, 1) := by decide +kernel
set_option maxRecDepth 20000 in
theorem dL_law_1180 : decode cL_law 1180 = .ok (.aload_n 0, 1) := by decide +kernel
set_option maxRecDepth 20000 in
theorem dL_law_1181 : decode cL_law 1181 = .ok (.iload 4, 2) := by decide +kernel
set_option maxRecDepth 20000 in
theorem dL_law_1183 : decode cL_law 1183 = .ok (.iconst 1, 1) := by decide +kernel
set_option maxRecDepth 20000 in
theorem dL_law_1184 : decode cL_law 1184 = .ok (.iadd, 1) := by decide +kernel
set_option maxRecDepth 20000 in
theorem dL_law_1185 : decode cL_law 1185 = .ok (.iaload, 1) := by decide +kernel
set_option maxRecDepth 20000 in
theorem dL_law_1186 : decode cL_law 1186 = .ok (.invokevirtual 147, 3) := by decide +kernel
set_option maxRecDepth 20000 in
theorem dL_law_1189 : decode cL_law 1189 = .ok (.istore 6, 2) := by decide +kernel
set_option maxRecDepth 20000 in
theorem dL_law_1191 : decode cL_law 1191 = .ok (.aload_n 2, 1) := by decide +kernel
set_option maxRecDepth 20000 in
theorem dL_law_1192 : decode cL_law 1192 = .ok (.invokevirtual 86, 3) := by decide +kernel
set_option maxRecDepth 20000 in
theorem dL_law_1195 : decode cL_law 1195 = .ok (.iload 5, 2) := by decide +kernel
set_option maxRecDepth 20000 in
theorem dL_law_1197 : decode cL_law 1197 = .ok (.if_icmp .eq 5, 3) := by decide +kernel
set_option maxRecDepth 20000 in
theorem dL_law_1200 : decode cL_law 1200 = .ok (.iconst 0, 1) := by decide +kernel
set_option maxRecDepth 20000 in
theorem dL_law_1201 : decode cL_law 1201 = .ok (.ireturn, 1) := by decide +kernel
set_option maxRecDepth 20000 in
theorem dL_law_1202 : decode cL_law 1202 = .ok (.iload 5, 2) := by decide +kernel
set_option maxRecDepth 20000 in
theorem dL_law_1204 : decode cL_law 1204 = .ok (.ifCond .ne 15, 3) := by decide +kernel
set_option maxRecDepth 20000 in
theorem dL_law_1207 : decode cL_law 1207 = .ok (.aload_n 3, 1) := by decide +kernel
set_option maxRecDepth 20000 in
theorem dL_law_1208 : decode cL_law 1208 = .ok (.iconst 0, 1) := by decide +kernel
set_option maxRecDepth 20000 in
theorem dL_law_1209 : decode cL_law 1209 = .ok (.laload, 1) := by decide +kernel
set_option maxRecDepth 20000 in
theorem dL_law_1210 : decode cL_law 1210 = .ok (.iload 6, 2) := by decide +kernel
set_option maxRecDepth 20000 in
theorem dL_law_1212 : decode cL_law 1212 = .ok (.i2l, 1) := by decide +kernel
set_option maxRecDepth 20000 in
theorem dL_law_1213 : decode cL_law 1213 = .ok (.lcmp, 1) := by decide +kernel
set_option maxRecDepth 20000 in
theorem dL_law_1214 : decode cL_law 1214 = .ok (.ifCond .eq 5, 3) := by decide +kernel
set_option maxRecDepth 20000 in
theorem dL_law_1217 : decode cL_law 1217 = .ok (.iconst 0, 1) := by decide +kernel
set_option maxRecDepth 20000 in
theorem dL_law_1218 : decode cL_law 1218 = .ok (.ireturn, 1) := by decide +kernel
set_option maxRecDepth 20000 in
theorem dL_law_1219 : decode cL_law 1219 = .ok (.goto 196, 3) := by decide +kernel
set_option maxRecDepth 20000 in
theorem dL_law_1222 : decode cL_law 1222 = .ok (.aload_n 1, 1) := by decide +kernel
set_option maxRecDepth 20000 in
theorem dL_law_1223 : decode cL_law 1223 = .ok (.invokevirtual 148, 3) := by decide +kernel
set_option maxRecDepth 20000 in
theorem dL_law_1226 : decode cL_law 1226 = .ok (.aload_n 2, 1) := by decide +kernel
set_option maxRecDepth 20000 in
theorem dL_law_1227 : decode cL_law 1227 = .ok (.invokevirtual 151, 3) := by decide +kernel
set_option maxRecDepth 20000 in
theorem dL_law_1230 : decode cL_law 1230 = .ok (.if_icmp .eq 185, 3) := by decide +kernel
set_option maxRecDepth 20000 in
theorem dL_law_1233 : decode cL_law 1233 = .ok (.iconst 0, 1) := by decide +kernel
set_option maxRecDepth 20000 in
theorem dL_law_1234 : decode cL_law 1234 = .ok (.ireturn, 1) := by decide +kernel
set_option maxRecDepth 20000 in
theorem dL_law_1235 : decode cL_law 1235 = .ok (.aload_n 1, 1) := by decide +kernel
set_option maxRecDepth 20000 in
theorem dL_law_1236 : decode cL_law 1236 = .ok (.aload_n 0, 1) := by decide +kernel
set_option maxRecDepth 20000 in
theorem dL_law_1237 : decode cL_law 1237 = .ok (.iload 4, 2) := by decide +kernel
set_option maxRecDepth 20000 in
theorem dL_law_1239 : decode cL_law 1239 = .ok (.iconst 1, 1) := by decide +kernel
set_option maxRecDepth 20000 in
theorem dL_law_1240 : decode cL_law 1240 = .ok (.iadd, 1) := by decide +kernel
set_option maxRecDepth 20000 in
theorem dL_law_1241 : decode cL_law 1241 = .ok (.iaload, 1) := by decide +kernel
set_option maxRecDepth 20000 in
theorem dL_law_1242 : decode cL_law 1242 = .ok (.aload_n 3, 1) := by decide +kernel
set_option maxRecDepth 20000 in
theorem dL_law_1243 : decode cL_law 1243 = .ok (.invokestatic 152, 3) := by decide +kernel
set_option maxRecDepth 20000 in
theorem dL_law_1246 : decode cL_law 1246 = .ok (.istore 5, 2) := by decide +kernel
set_option maxRecDepth 20000 in
theorem dL_law_1248 : decode cL_law 1248 = .ok (.aload_n 2, 1) := by decide +kernel
set_option maxRecDepth 20000 in
theorem dL_law_1249 : decode cL_law 1249 = .ok (.aload_n 0, 1) := by decide +kernel
set_option maxRecDepth 20000 in
theorem dL_law_1250 : decode cL_law 1250 = .ok (.iload 4, 2) := by decide +kernel
set_option maxRecDepth 20000 in
theorem dL_law_1252 : decode cL_law 1252 = .ok (.iconst 1, 1) := by decide +kernel
set_option maxRecDepth 20000 in
theorem dL_law_1253 : decode cL_law 1253 = .ok (.iadd, 1) := by decide +kernel
set_option maxRecDepth 20000 in
theorem dL_law_1254 : decode cL_law 1254 = .ok (.iaload, 1) := by decide +kernel
set_option maxRecDepth 20000 in
theorem dL_law_1255 : decode cL_law 1255 = .ok (.invokevirtual 154, 3) := by decide +kernel
set_option maxRecDepth 20000 in
theorem dL_law_1258 : decode cL_law 1258 = .ok (.istore 6, 2) := by decide +kernel
set_option maxRecDepth 20000 in
theorem dL_law_1260 : decode cL_law 1260 = .ok (.aload_n 2, 1) := by decide +kernel
set_option maxRecDepth 20000 in
theorem dL_law_1261 : decode cL_law 1261 = .ok (.invokevirtual 86, 3) := by decide +kernel
set_option maxRecDepth 20000 in
theorem dL_law_1264 : decode cL_law 1264 = .ok (.iload 5, 2) := by decide +kernel
set_option maxRecDepth 20000 in
theorem dL_law_1266 : decode cL_law 1266 = .ok (.if_icmp .eq 5, 3) := by decide +kernel
set_option maxRecDepth 20000 in
theorem dL_law_1269 : decode cL_law 1269 = .ok (.iconst 0, 1) := by decide +kernel
set_option maxRecDepth 20000 in
theorem dL_law_1270 : decode cL_law 1270 = .ok (.ireturn, 1) := by decide +kernel
set_option maxRecDepth 20000 in
theorem dL_law_1271 : decode cL_law 1271 = .ok (.iload 5, 2) := by decide +kernel
set_option maxRecDepth 20000 in
theorem dL_law_1273 : decode cL_law 1273 = .ok (.ifCond .ne 15, 3) := by decide +kernel
set_option maxRecDepth 20000 in
theorem dL_law_1276 : decode cL_law 1276 = .ok (.aload_n 3, 1) := by decide +kernel
set_option maxRecDepth 20000 in
theorem dL_law_1277 : decode cL_law 1277 = .ok (.iconst 0, 1) := by decide +kernel
set_option maxRecDepth 20000 in
theorem dL_law_1278 : decode cL_law 1278 = .ok (.laload, 1) := by decide +kernel
set_option maxRecDepth 20000 in
theorem dL_law_1279 : decode cL_law 1279 = .ok (.iload 6, 2) := by decide +kernel
set_option maxRecDepth 20000 in
theorem dL_law_1281 : decode cL_law 1281 = .ok (.i2l, 1) := by decide +kernel
set_option maxRecDepth 20000 in
theorem dL_law_1282 : decode cL_law 1282 = .ok (.lcmp, 1) := by decide +kernel
set_option maxRecDepth 20000 in
theorem dL_law_1283 : decode cL_law 1283 = .ok (.ifCond .eq 5, 3) := by decide +kernel
set_option maxRecDepth 20000 in
theorem dL_law_1286 : decode cL_law 1286 = .ok (.iconst 0, 1) := by decide +kernel
set_option maxRecDepth 20000 in
theorem dL_law_1287 : decode cL_law 1287 = .ok (.ireturn, 1) := by decide +kernel
set_option maxRecDepth 20000 in
theorem dL_law_1288 : decode cL_law 1288 = .ok (.goto 127, 3) := by decide +kernel
set_option maxRecDepth 20000 in
theorem dL_law_1291 : decode cL_law 1291 = .ok (.aload_n 1, 1) := by decide +kernel
set_option maxRecDepth 20000 in
theorem dL_law_1292 : decode cL_law 1292 = .ok (.invokevirtual 155, 3) := by decide +kernel
set_option maxRecDepth 20000 in
theorem dL_law_1295 : decode cL_law 1295 = .ok (.aload_n 2, 1) := by decide +kernel
set_option maxRecDepth 20000 in
theorem dL_law_1296 : decode cL_law 1296 = .ok (.invokevirtual 158, 3) := by decide +kernel
set_option maxRecDepth 20000 in
theorem dL_law_1299 : decode cL_law 1299 = .ok (.if_icmp .eq 116, 3) := by decide +kernel
set_option maxRecDepth 20000 in
theorem dL_law_1302 : decode cL_law 1302 = .ok (.iconst 0, 1) := by decide +kernel
set_option maxRecDepth 20000 in
theorem dL_law_1303 : decode cL_law 1303 = .ok (.ireturn, 1) := by decide +kernel
set_option maxRecDepth 20000 in
theorem dL_law_1304 : decode cL_law 1304 = .ok (.aload_n 1, 1) := by decide +kernel
set_option maxRecDepth 20000 in
theorem dL_law_1305 : decode cL_law 1305 = .ok (.aload_n 0, 1) := by decide +kernel
set_option maxRecDepth 20000 in
theorem dL_law_1306 : decode cL_law 1306 = .ok (.iload 4, 2) := by decide +kernel
set_option maxRecDepth 20000 in
theorem dL_law_1308 : decode cL_law 1308 = .ok (.iconst 1, 1) := by decide +kernel
set_option maxRecDepth 20000 in
theorem dL_law_1309 : decode cL_law 1309 = .ok (.iadd, 1) := by decide +kernel
set_option maxRecDepth 20000 in
theorem dL_law_1310 : decode cL_law 1310 = .ok (.iaload, 1) := by decide +kernel
set_option maxRecDepth 20000 in
theorem dL_law_1311 : decode cL_law 1311 = .ok (.aload_n 3, 1) := by decide +kernel
set_option maxRecDepth 20000 in
theorem dL_law_1312 : decode cL_law 1312 = .ok (.invokestatic 159, 3) := by decide +kernel
set_option maxRecDepth 20000 in
theorem dL_law_1315 : decode cL_law 1315 = .ok (.istore 5, 2) := by decide +kernel
set_option maxRecDepth 20000 in
theorem dL_law_1317 : decode cL_law 1317 = .ok (.aload_n 2, 1) := by decide +kernel
set_option maxRecDepth 20000 in
theorem dL_law_1318 : decode cL_law 1318 = .ok (.aload_n 0, 1) := by decide +kernel
set_option maxRecDepth 20000 in
theorem dL_law_1319 : decode cL_law 1319 = .ok (.iload 4, 2) := by decide +kernel
set_option maxRecDepth 20000 in
theorem dL_law_1321 : decode cL_law 1321 = .ok (.iconst 1, 1) := by decide +kernel
set_option maxRecDepth 20000 in
theorem dL_law_1322 : decode cL_law 1322 = .ok (.iadd, 1) := by decide +kernel
set_option maxRecDepth 20000 in
theorem dL_law_1323 : decode cL_law 1323 = .ok (.iaload, 1) := by decide +kernel
set_option maxRecDepth 20000 in
theorem dL_law_1324 : decode cL_law 1324 = .ok (.invokevirtual 161, 3) := by decide +kernel
set_option maxRecDepth 20000 in
theorem dL_law_1327 : decode cL_law 1327 = .ok (.istore 6, 2) := by decide +kernel
set_option maxRecDepth 20000 in
theorem dL_law_1329 : decode cL_law 1329 = .ok (.aload_n 2, 1) := by decide +kernel
set_option maxRecDepth 20000 in
theorem dL_law_1330 : decode cL_law 1330 = .ok (.invokevirtual 86, 3) := by decide +kernel
set_option maxRecDepth 20000 in
theorem dL_law_1333 : decode cL_law 1333 = .ok (.iload 5, 2) := by decide +kernel
set_option maxRecDepth 20000 in
theorem dL_law_1335 : decode cL_law 1335 = .ok (.if_icmp .eq 5, 3) := by decide +kernel
set_option maxRecDepth 20000 in
theorem dL_law_1338 : decode cL_law 1338 = .ok (.iconst 0, 1) := by decide +kernel
set_option maxRecDepth 20000 in
theorem dL_law_1339 : decode cL_law 1339 = .ok (.ireturn, 1) := by decide +kernel
set_option maxRecDepth 20000 in
theorem dL_law_1340 : decode cL_law 1340 = .ok (.iload 5, 2) := by decide +kernel
set_option maxRecDepth 20000 in
theorem dL_law_1342 : decode cL_law 1342 = .ok (.ifCond .ne 15, 3) := by decide +kernel
set_option maxRecDepth 20000 in
theorem dL_law_1345 : decode cL_law 1345 = .ok (.aload_n 3, 1) := by decide +kernel
set_option maxRecDepth 20000 in
theorem dL_law_1346 : decode cL_law 1346 = .ok (.iconst 0, 1) := by decide +kernel
set_option maxRecDepth 20000 in
theorem dL_law_1347 : decode cL_law 1347 = .ok (.laload, 1) := by decide +kernel
set_option maxRecDepth 20000 in
theorem dL_law_1348 : decode cL_law 1348 = .ok (.iload 6, 2) := by decide +kernel
set_option maxRecDepth 20000 in
theorem dL_law_1350 : decode cL_law 1350 = .ok (.i2l, 1) := by decide +kernel
set_option maxRecDepth 20000 in
theorem dL_law_1351 : decode cL_law 1351 = .ok (.lcmp, 1) := by decide +kernel
set_option maxRecDepth 20000 in
theorem dL_law_1352 : decode cL_law 1352 = .ok (.ifCond .eq 5, 3) := by decide +kernel
set_option maxRecDepth 20000 in
theorem dL_law_1355 : decode cL_law 1355 = .ok (.iconst 0, 1) := by decide +kernel
set_option maxRecDepth 20000 in
theorem dL_law_1356 : decode cL_law 1356 = .ok (.ireturn, 1) := by decide +kernel
set_option maxRecDepth 20000 in
theorem dL_law_1357 : decode cL_law 1357 = .ok (.goto 58, 3) := by decide +kernel
set_option maxRecDepth 20000 in
theorem dL_law_1360 : decode cL_law 1360 = .ok (.aload_n 1, 1) := by decide +kernel
set_option maxRecDepth 20000 in
theorem dL_law_1361 : decode cL_law 1361 = .ok (.invokevirtual 162, 3) := by decide +kernel
set_option maxRecDepth 20000 in
theorem dL_law_1364 : decode cL_law 1364 = .ok (.dstore 5, 2) := by decide +kernel
set_option maxRecDepth 20000 in
theorem dL_law_1366 : decode cL_law 1366 = .ok (.aload_n 2, 1) := by decide +kernel
set_option maxRecDepth 20000 in
theorem dL_law_1367 : decode cL_law 1367 = .ok (.invokevirtual 166, 3) := by decide +kernel
set_option maxRecDepth 20000 in
theorem dL_law_1370 : decode cL_law 1370 = .ok (.dstore 7, 2) := by decide +kernel
set_option maxRecDepth 20000 in
theorem dL_law_1372 : decode cL_law 1372 = .ok (.dload 5, 2) := by decide +kernel
set_option maxRecDepth 20000 in
theorem dL_law_1374 : decode cL_law 1374 = .ok (.dload 7, 2) := by decide +kernel
set_option maxRecDepth 20000 in
theorem dL_law_1376 : decode cL_law 1376 = .ok (.dcmp .l, 1) := by decide +kernel
set_option maxRecDepth 20000 in
theorem dL_law_1377 : decode cL_law 1377 = .ok (.ifCond .eq 21, 3) := by decide +kernel
set_option maxRecDepth 20000 in
theorem dL_law_1380 : decode cL_law 1380 = .ok (.dload 5, 2) := by decide +kernel
set_option maxRecDepth 20000 in
theorem dL_law_1382 : decode cL_law 1382 = .ok (.dload 5, 2) := by decide +kernel
set_option maxRecDepth 20000 in
theorem dL_law_1384 : decode cL_law 1384 = .ok (.dcmp .l, 1) := by decide +kernel
set_option maxRecDepth 20000 in
theorem dL_law_1385 : decode cL_law 1385 = .ok (.ifCond .eq 11, 3) := by decide +kernel
set_option maxRecDepth 20000 in
theorem dL_law_1388 : decode cL_law 1388 = .ok (.dload 7, 2) := by decide +kernel
set_option maxRecDepth 20000 in
theorem dL_law_1390 : decode cL_law 1390 = .ok (.dload 7, 2) := by decide +kernel
set_option maxRecDepth 20000 in
theorem dL_law_1392 : decode cL_law 1392 = .ok (.dcmp .l, 1) := by decide +kernel
set_option maxRecDepth 20000 in
theorem dL_law_1393 : decode cL_law 1393 = .ok (.ifCond .ne 5, 3) := by decide +kernel
set_option maxRecDepth 20000 in
theorem dL_law_1396 : decode cL_law 1396 = .ok (.iconst 0, 1) := by decide +kernel
set_option maxRecDepth 20000 in
theorem dL_law_1397 : decode cL_law 1397 = .ok (.ireturn, 1) := by decide +kernel
set_option maxRecDepth 20000 in
theorem dL_law_1398 : decode cL_law 1398 = .ok (.goto 17, 3) := by decide +kernel
set_option maxRecDepth 20000 in
theorem dL_law_1401 : decode cL_law 1401 = .ok (.aload_n 1, 1) := by decide +kernel
set_option maxRecDepth 20000 in
theorem dL_law_1402 : decode cL_law 1402 = .ok (.invokevirtual 167, 3) := by decide +kernel
set_option maxRecDepth 20000 in
theorem dL_law_1405 : decode cL_law 1405 = .ok (.aload_n 2, 1) := by decide +kernel
set_option maxRecDepth 20000 in
theorem dL_law_1406 : decode cL_law 1406 = .ok (.invokevirtual 171, 3) := by decide +kernel
set_option maxRecDepth 20000 in
theorem dL_law_1409 : decode cL_law 1409 = .ok (.lcmp, 1) := by decide +kernel
set_option maxRecDepth 20000 in
theorem dL_law_1410 : decode cL_law 1410 = .ok (.ifCond .eq 5, 3) := by decide +kernel
set_option maxRecDepth 20000 in
theorem dL_law_1413 : decode cL_law 1413 = .ok (.iconst 0, 1) := by decide +kernel
set_option maxRecDepth 20000 in
theorem dL_law_1414 : decode cL_law 1414 = .ok (.ireturn, 1) := by decide +kernel
set_option maxRecDepth 20000 in
theorem dL_law_1415 : decode cL_law 1415 = .ok (.iinc 4 3, 3) := by decide +kernel
set_option maxRecDepth 20000 in
theorem dL_law_1418 : decode cL_law 1418 = .ok (.goto (-1395), 3) := by decide +kernel
set_option maxRecDepth 20000 in
theorem dL_law_1421 : decode cL_law 1421 = .ok (.iconst 1, 1) := by decide +kernel
set_option maxRecDepth 20000 in
theorem dL_law_1422 : decode cL_law 1422 = .ok (.ireturn, 1) := by decide +kernel
end
section
/-! decode rows (printed by program) -/
theorem dX0_init_0 : decode cX0_init 0 = .ok (.aload_n 0, 1) := by decide +kernel
theorem dX0_init_1 : decode cX0_init 1 = .ok (.invokespecial 3, 3) := by decide +kernel
theorem dX0_init_4 : decode cX0_init 4 = .ok (.aload_n 0, 1) := by decide +kernel
theorem dX0_init_5 : decode cX0_init 5 = .ok (.bipush 60, 2) := by decide +kernel
theorem dX0_init_7 : decode cX0_init 7 = .ok (.newarray .char, 2) := by decide +kernel
theorem dX0_init_9 : decode cX0_init 9 = .ok (.putfield 9, 3) := by decide +kernel
theorem dX0_init_12 : decode cX0_init 12 = .ok (.return_, 1) := by decide +kernel
theorem dX0_isFull_0 : decode cX0_isFull 0 = .ok (.aload_n 0, 1) := by decide +kernel
theorem dX0_isFull_1 : decode cX0_isFull 1 = .ok (.getfield 15, 3) := by decide +kernel
theorem dX0_isFull_4 : decode cX0_isFull 4 = .ok (.bipush 60, 2) := by decide +kernel
theorem dX0_isFull_6 : decode cX0_isFull 6 = .ok (.if_icmp .lt 7, 3) := by decide +kernel
theorem dX0_isFull_9 : decode cX0_isFull 9 = .ok (.iconst 1, 1) := by decide +kernel
theorem dX0_isFull_10 : decode cX0_isFull 10 = .ok (.goto 4, 3) := by decide +kernel
theorem dX0_isFull_13 : decode cX0_isFull 13 = .ok (.iconst 0, 1) := by decide +kernel
theorem dX0_isFull_14 : decode cX0_isFull 14 = .ok (.ireturn, 1) := by decide +kernel
theorem dX0_add_0 : decode cX0_add 0 = .ok (.aload_n 0, 1) := by decide +kernel
theorem dX0_add_1 : decode cX0_add 1 = .ok (.invokevirtual 19, 3) := by decide +kernel
theorem dX0_add_4 : decode cX0_add 4 = .ok (.ifCond .ne 23, 3) := by decide +kernel
theorem dX0_add_7 : decode cX0_add 7 = .ok (.aload_n 0, 1) := by decide +kernel
theorem dX0_add_8 : decode cX0_add 8 = .ok (.getfield 9, 3) := by decide +kernel
theorem dX0_add_11 : decode cX0_add 11 = .ok (.aload_n 0, 1) := by decide +kernel
theorem dX0_add_12 : decode cX0_add 12 = .ok (.getfield 15, 3) := by decide +kernel
theorem dX0_add_15 : decode cX0_add 15 = .ok (.iload_n 1, 1) := by decide +kernel
theorem dX0_add_16 : decode cX0_add 16 = .ok (.castore, 1) := by decide +kernel
theorem dX0_add_17 : decode cX0_add 17 = .ok (.aload_n 0, 1) := by decide +kernel
theorem dX0_add_18 : decode cX0_add 18 = .ok (.dup, 1) := by decide +kernel
theorem dX0_add_19 : decode cX0_add 19 = .ok (.getfield 15, 3) := by decide +kernel
theorem dX0_add_22 : decode cX0_add 22 = .ok (.iconst 1, 1) := by decide +kernel
theorem dX0_add_23 : decode cX0_add 23 = .ok (.iadd, 1) := by decide +kernel
theorem dX0_add_24 : decode cX0_add 24 = .ok (.putfield 15, 3) := by decide +kernel
theorem dX0_add_27 : decode cX0_add 27 = .ok (.aload_n 0, 1) := by decide +kernel
theorem dX0_add_28 : decode cX0_add 28 = .ok (.getfield 15, 3) := by decide +kernel
theorem dX0_add_31 : decode cX0_add 31 = .ok (.ireturn, 1) := by decide +kernel
theorem dX0_empty_0 : decode cX0_empty 0 = .ok (.aload_n 0, 1) := by decide +kernel
theorem dX0_empty_1 : decode cX0_empty 1 = .ok (.getfield 15, 3) := by decide +kernel
theorem dX0_empty_4 : decode cX0_empty 4 = .ok (.istore_n 1, 1) := by decide +kernel
theorem dX0_empty_5 : decode cX0_empty 5 = .ok (.aload_n 0, 1) := by decide +kernel
theorem dX0_empty_6 : decode cX0_empty 6 = .ok (.iconst 0, 1) := by decide +kernel
theorem dX0_empty_7 : decode cX0_empty 7 = .ok (.putfield 15, 3) := by decide +kernel
theorem dX0_empty_10 : decode cX0_empty 10 = .ok (.iload_n 1, 1) := by decide +kernel
theorem dX0_empty_11 : decode cX0_empty 11 = .ok (.ireturn, 1) := by decide +kernel
theorem dX0_codeAt_0 : decode cX0_codeAt 0 = .ok (.iload_n 1, 1) := by decide +kernel
theorem dX0_codeAt_1 : decode cX0_codeAt 1 = .ok (.ifCond .lt 20, 3) := by decide +kernel
theorem dX0_codeAt_4 : decode cX0_codeAt 4 = .ok (.iload_n 1, 1) := by decide +kernel
theorem dX0_codeAt_5 : decode cX0_codeAt 5 = .ok (.aload_n 0, 1) := by decide +kernel
theorem dX0_codeAt_6 : decode cX0_codeAt 6 = .ok (.getfield 15, 3) := by decide +kernel
theorem dX0_codeAt_9 : decode cX0_codeAt 9 = .ok (.if_icmp .ge 12, 3) := by decide +kernel
theorem dX0_codeAt_12 : decode cX0_codeAt 12 = .ok (.aload_n 0, 1) := by decide +kernel
theorem dX0_codeAt_13 : decode cX0_codeAt 13 = .ok (.getfield 9, 3) := by decide +kernel
theorem dX0_codeAt_16 : decode cX0_codeAt 16 = .ok (.iload_n 1, 1) := by decide +kernel
theorem dX0_codeAt_17 : decode cX0_codeAt 17 = .ok (.caload, 1) := by decide +kernel
theorem dX0_codeAt_18 : decode cX0_codeAt 18 = .ok (.goto 4, 3) := by decide +kernel
theorem dX0_codeAt_21 : decode cX0_codeAt 21 = .ok (.iconst 0, 1) := by decide +kernel
theorem dX0_codeAt_22 : decode cX0_codeAt 22 = .ok (.ireturn, 1) := by decide +kernel
theorem dX0_isDigit_0 : decode cX0_isDigit 0 = .ok (.iload_n 0, 1) := by decide +kernel
theorem dX0_isDigit_1 : decode cX0_isDigit 1 = .ok (.bipush 48, 2) := by decide +kernel
theorem dX0_isDigit_3 : decode cX0_isDigit 3 = .ok (.iload_n 1, 1) := by decide +kernel
theorem dX0_isDigit_4 : decode cX0_isDigit 4 = .ok (.iadd, 1) := by decide +kernel
theorem dX0_isDigit_5 : decode cX0_isDigit 5 = .ok (.if_icmp .lt 15, 3) := by decide +kernel
theorem dX0_isDigit_8 : decode cX0_isDigit 8 = .ok (.iload_n 0, 1) := by decide +kernel
theorem dX0_isDigit_9 : decode cX0_isDigit 9 = .ok (.bipush 48, 2) := by decide +kernel
theorem dX0_isDigit_11 : decode cX0_isDigit 11 = .ok (.iload_n 2, 1) := by decide +kernel
theorem dX0_isDigit_12 : decode cX0_isDigit 12 = .ok (.iadd, 1) := by decide +kernel
theorem dX0_isDigit_13 : decode cX0_isDigit 13 = .ok (.if_icmp .gt 7, 3) := by decide +kernel
theorem dX0_isDigit_16 : decode cX0_isDigit 16 = .ok (.iconst 1, 1) := by decide +kernel
theorem dX0_isDigit_17 : decode cX0_isDigit 17 = .ok (.goto 4, 3) := by decide +kernel
theorem dX0_isDigit_20 : decode cX0_isDigit 20 = .ok (.iconst 0, 1) := by decide +kernel
theorem dX0_isDigit_21 : decode cX0_isDigit 21 = .ok (.ireturn, 1) := by decide +kernel
theorem dX0_digitAt_0 : decode cX0_digitAt 0 = .ok (.aload_n 0, 1) := by decide +kernel
theorem dX0_digitAt_1 : decode cX0_digitAt 1 = .ok (.iload_n 1, 1) := by decide +kernel
theorem dX0_digitAt_2 : decode cX0_digitAt 2 = .ok (.invokevirtual 23, 3) := by decide +kernel
theorem dX0_digitAt_5 : decode cX0_digitAt 5 = .ok (.istore_n 2, 1) := by decide +kernel
theorem dX0_digitAt_6 : decode cX0_digitAt 6 = .ok (.iload_n 2, 1) := by decide +kernel
theorem dX0_digitAt_7 : decode cX0_digitAt 7 = .ok (.iconst 0, 1) := by decide +kernel
theorem dX0_digitAt_8 : decode cX0_digitAt 8 = .ok (.bipush 9, 2) := by decide +kernel
theorem dX0_digitAt_10 : decode cX0_digitAt 10 = .ok (.invokestatic 27, 3) := by decide +kernel
theorem dX0_digitAt_13 : decode cX0_digitAt 13 = .ok (.ifCond .eq 10, 3) := by decide +kernel
theorem dX0_digitAt_16 : decode cX0_digitAt 16 = .ok (.iload_n 2, 1) := by decide +kernel
theorem dX0_digitAt_17 : decode cX0_digitAt 17 = .ok (.bipush 48, 2) := by decide +kernel
theorem dX0_digitAt_19 : decode cX0_digitAt 19 = .ok (.isub, 1) := by decide +kernel
theorem dX0_digitAt_20 : decode cX0_digitAt 20 = .ok (.goto 4, 3) := by decide +kernel
theorem dX0_digitAt_23 : decode cX0_digitAt 23 = .ok (.iconst (-1), 1) := by decide +kernel
theorem dX0_digitAt_24 : decode cX0_digitAt 24 = .ok (.ireturn, 1) := by decide +kernel
theorem dX0_numberFrom_0 : decode cX0_numberFrom 0 = .ok (.iconst 0, 1) := by decide +kernel
theorem dX0_numberFrom_1 : decode cX0_numberFrom 1 = .ok (.aload_n 0, 1) := by decide +kernel
theorem dX0_numberFrom_2 : decode cX0_numberFrom 2 = .ok (.iload_n 1, 1) := by decide +kernel
theorem dX0_numberFrom_3 : decode cX0_numberFrom 3 = .ok (.invokevirtual 31, 3) := by decide +kernel
theorem dX0_numberFrom_6 : decode cX0_numberFrom 6 = .ok (.invokestatic 34, 3) := by decide +kernel
theorem dX0_numberFrom_9 : decode cX0_numberFrom 9 = .ok (.istore_n 2, 1) := by decide +kernel
theorem dX0_numberFrom_10 : decode cX0_numberFrom 10 = .ok (.aload_n 0, 1) := by decide +kernel
theorem dX0_numberFrom_11 : decode cX0_numberFrom 11 = .ok (.iload_n 1, 1) := by decide +kernel
theorem dX0_numberFrom_12 : decode cX0_numberFrom 12 = .ok (.iconst 1, 1) := by decide +kernel
theorem dX0_numberFrom_13 : decode cX0_numberFrom 13 = .ok (.iadd, 1) := by decide +kernel
theorem dX0_numberFrom_14 : decode cX0_numberFrom 14 = .ok (.invokevirtual 31, 3) := by decide +kernel
theorem dX0_numberFrom_17 : decode cX0_numberFrom 17 = .ok (.istore_n 3, 1) := by decide +kernel
theorem dX0_numberFrom_18 : decode cX0_numberFrom 18 = .ok (.iload_n 3, 1) := by decide +kernel
theorem dX0_numberFrom_19 : decode cX0_numberFrom 19 = .ok (.iconst (-1), 1) := by decide +kernel
theorem dX0_numberFrom_20 : decode cX0_numberFrom 20 = .ok (.if_icmp .ne 7, 3) := by decide +kernel
theorem dX0_numberFrom_23 : decode cX0_numberFrom 23 = .ok (.iload_n 2, 1) := by decide +kernel
theorem dX0_numberFrom_24 : decode cX0_numberFrom 24 = .ok (.goto 9, 3) := by decide +kernel
theorem dX0_numberFrom_27 : decode cX0_numberFrom 27 = .ok (.iload_n 2, 1) := by decide +kernel
theorem dX0_numberFrom_28 : decode cX0_numberFrom 28 = .ok (.bipush 10, 2) := by decide +kernel
theorem dX0_numberFrom_30 : decode cX0_numberFrom 30 = .ok (.imul, 1) := by decide +kernel
theorem dX0_numberFrom_31 : decode cX0_numberFrom 31 = .ok (.iload_n 3, 1) := by decide +kernel
theorem dX0_numberFrom_32 : decode cX0_numberFrom 32 = .ok (.iadd, 1) := by decide +kernel
theorem dX0_numberFrom_33 : decode cX0_numberFrom 33 = .ok (.ireturn, 1) := by decide +kernel
theorem dX0_startsPart_0 : decode cX0_startsPart 0 = .ok (.iload_n 1, 1) := by decide +kernel
theorem dX0_startsPart_1 : decode cX0_startsPart 1 = .ok (.ifCond .eq 15, 3) := by decide +kernel
theorem dX0_startsPart_4 : decode cX0_startsPart 4 = .ok (.aload_n 0, 1) := by decide +kernel
theorem dX0_startsPart_5 : decode cX0_startsPart 5 = .ok (.iload_n 1, 1) := by decide +kernel
theorem dX0_startsPart_6 : decode cX0_startsPart 6 = .ok (.iconst 1, 1) := by decide +kernel
theorem dX0_startsPart_7 : decode cX0_startsPart 7 = .ok (.isub, 1) := by decide +kernel
theorem dX0_startsPart_8 : decode cX0_startsPart 8 = .ok (.invokevirtual 23, 3) := by decide +kernel
theorem dX0_startsPart_11 : decode cX0_startsPart 11 = .ok (.bipush 44, 2) := by decide +kernel
theorem dX0_startsPart_13 : decode cX0_startsPart 13 = .ok (.if_icmp .ne 7, 3) := by decide +kernel
theorem dX0_startsPart_16 : decode cX0_startsPart 16 = .ok (.iconst 1, 1) := by decide +kernel
theorem dX0_startsPart_17 : decode cX0_startsPart 17 = .ok (.goto 4, 3) := by decide +kernel
theorem dX0_startsPart_20 : decode cX0_startsPart 20 = .ok (.iconst 0, 1) := by decide +kernel
theorem dX0_startsPart_21 : decode cX0_startsPart 21 = .ok (.ireturn, 1) := by decide +kernel
theorem dX0_errorPlace_0 : decode cX0_errorPlace 0 = .ok (.iconst 0, 1) := by decide +kernel
theorem dX0_errorPlace_1 : decode cX0_errorPlace 1 = .ok (.istore_n 1, 1) := by decide +kernel
theorem dX0_errorPlace_2 : decode cX0_errorPlace 2 = .ok (.iconst 0, 1) := by decide +kernel
theorem dX0_errorPlace_3 : decode cX0_errorPlace 3 = .ok (.istore_n 2, 1) := by decide +kernel
theorem dX0_errorPlace_4 : decode cX0_errorPlace 4 = .ok (.iload_n 2, 1) := by decide +kernel
theorem dX0_errorPlace_5 : decode cX0_errorPlace 5 = .ok (.aload_n 0, 1) := by decide +kernel
theorem dX0_errorPlace_6 : decode cX0_errorPlace 6 = .ok (.getfield 15, 3) := by decide +kernel
theorem dX0_errorPlace_9 : decode cX0_errorPlace 9 = .ok (.if_icmp .ge 27, 3) := by decide +kernel
theorem dX0_errorPlace_12 : decode cX0_errorPlace 12 = .ok (.iload_n 1, 1) := by decide +kernel
theorem dX0_errorPlace_13 : decode cX0_errorPlace 13 = .ok (.aload_n 0, 1) := by decide +kernel
theorem dX0_errorPlace_14 : decode cX0_errorPlace 14 = .ok (.iload_n 2, 1) := by decide +kernel
theorem dX0_errorPlace_15 : decode cX0_errorPlace 15 = .ok (.invokevirtual 23, 3) := by decide +kernel
theorem dX0_errorPlace_18 : decode cX0_errorPlace 18 = .ok (.invokestatic 40, 3) := by decide +kernel
theorem dX0_errorPlace_21 : decode cX0_errorPlace 21 = .ok (.istore_n 1, 1) := by decide +kernel
theorem dX0_errorPlace_22 : decode cX0_errorPlace 22 = .ok (.iload_n 1, 1) := by decide +kernel
theorem dX0_errorPlace_23 : decode cX0_errorPlace 23 = .ok (.bipush 6, 2) := by decide +kernel
theorem dX0_errorPlace_25 : decode cX0_errorPlace 25 = .ok (.if_icmp .ne 5, 3) := by decide +kernel
theorem dX0_errorPlace_28 : decode cX0_errorPlace 28 = .ok (.iload_n 2, 1) := by decide +kernel
theorem dX0_errorPlace_29 : decode cX0_errorPlace 29 = .ok (.ireturn, 1) := by decide +kernel
theorem dX0_errorPlace_30 : decode cX0_errorPlace 30 = .ok (.iinc 2 1, 3) := by decide +kernel
theorem dX0_errorPlace_33 : decode cX0_errorPlace 33 = .ok (.goto (-29), 3) := by decide +kernel
theorem dX0_errorPlace_36 : decode cX0_errorPlace 36 = .ok (.aload_n 0, 1) := by decide +kernel
theorem dX0_errorPlace_37 : decode cX0_errorPlace 37 = .ok (.getfield 15, 3) := by decide +kernel
theorem dX0_errorPlace_40 : decode cX0_errorPlace 40 = .ok (.ireturn, 1) := by decide +kernel
theorem dX0_isComplete_0 : decode cX0_isComplete 0 = .ok (.iconst 0, 1) := by decide +kernel
theorem dX0_isComplete_1 : decode cX0_isComplete 1 = .ok (.istore_n 1, 1) := by decide +kernel
theorem dX0_isComplete_2 : decode cX0_isComplete 2 = .ok (.iconst 0, 1) := by decide +kernel
theorem dX0_isComplete_3 : decode cX0_isComplete 3 = .ok (.istore_n 2, 1) := by decide +kernel
theorem dX0_isComplete_4 : decode cX0_isComplete 4 = .ok (.iload_n 2, 1) := by decide +kernel
theorem dX0_isComplete_5 : decode cX0_isComplete 5 = .ok (.aload_n 0, 1) := by decide +kernel
theorem dX0_isComplete_6 : decode cX0_isComplete 6 = .ok (.getfield 15, 3) := by decide +kernel
theorem dX0_isComplete_9 : decode cX0_isComplete 9 = .ok (.if_icmp .ge 19, 3) := by decide +kernel
theorem dX0_isComplete_12 : decode cX0_isComplete 12 = .ok (.iload_n 1, 1) := by decide +kernel
theorem dX0_isComplete_13 : decode cX0_isComplete 13 = .ok (.aload_n 0, 1) := by decide +kernel
theorem dX0_isComplete_14 : decode cX0_isComplete 14 = .ok (.iload_n 2, 1) := by decide +kernel
theorem dX0_isComplete_15 : decode cX0_isComplete 15 = .ok (.invokevirtual 23, 3) := by decide +kernel
theorem dX0_isComplete_18 : decode cX0_isComplete 18 = .ok (.invokestatic 40, 3) := by decide +kernel
theorem dX0_isComplete_21 : decode cX0_isComplete 21 = .ok (.istore_n 1, 1) := by decide +kernel
theorem dX0_isComplete_22 : decode cX0_isComplete 22 = .ok (.iinc 2 1, 3) := by decide +kernel
theorem dX0_isComplete_25 : decode cX0_isComplete 25 = .ok (.goto (-21), 3) := by decide +kernel
theorem dX0_isComplete_28 : decode cX0_isComplete 28 = .ok (.iload_n 1, 1) := by decide +kernel
theorem dX0_isComplete_29 : decode cX0_isComplete 29 = .ok (.iconst 4, 1) := by decide +kernel
theorem dX0_isComplete_30 : decode cX0_isComplete 30 = .ok (.if_icmp .eq 8, 3) := by decide +kernel
theorem dX0_isComplete_33 : decode cX0_isComplete 33 = .ok (.iload_n 1, 1) := by decide +kernel
theorem dX0_isComplete_34 : decode cX0_isComplete 34 = .ok (.iconst 5, 1) := by decide +kernel
theorem dX0_isComplete_35 : decode cX0_isComplete 35 = .ok (.if_icmp .ne 7, 3) := by decide +kernel
theorem dX0_isComplete_38 : decode cX0_isComplete 38 = .ok (.iconst 1, 1) := by decide +kernel
theorem dX0_isComplete_39 : decode cX0_isComplete 39 = .ok (.goto 4, 3) := by decide +kernel
theorem dX0_isComplete_42 : decode cX0_isComplete 42 = .ok (.iconst 0, 1) := by decide +kernel
theorem dX0_isComplete_43 : decode cX0_isComplete 43 = .ok (.ireturn, 1) := by decide +kernel
theorem dX0_stateBehind_0 : decode cX0_stateBehind 0 = .ok (.iload_n 0, 1) := by decide +kernel
theorem dX0_stateBehind_1 : decode cX0_stateBehind 1 = .ok (.tableswitch 144 0 5 #[39, 55, 60, 77, 104, 131], 39) := by decide +kernel
theorem dX0_stateBehind_40 : decode cX0_stateBehind 40 = .ok (.iload_n 1, 1) := by decide +kernel
theorem dX0_stateBehind_41 : decode cX0_stateBehind 41 = .ok (.iconst 0, 1) := by decide +kernel
theorem dX0_stateBehind_42 : decode cX0_stateBehind 42 = .ok (.iconst 5, 1) := by decide +kernel
theorem dX0_stateBehind_43 : decode cX0_stateBehind 43 = .ok (.invokestatic 27, 3) := by decide +kernel
theorem dX0_stateBehind_46 : decode cX0_stateBehind 46 = .ok (.ifCond .eq 7, 3) := by decide +kernel
theorem dX0_stateBehind_49 : decode cX0_stateBehind 49 = .ok (.iconst 1, 1) := by decide +kernel
theorem dX0_stateBehind_50 : decode cX0_stateBehind 50 = .ok (.goto 5, 3) := by decide +kernel
theorem dX0_stateBehind_53 : decode cX0_stateBehind 53 = .ok (.bipush 6, 2) := by decide +kernel
theorem dX0_stateBehind_55 : decode cX0_stateBehind 55 = .ok (.ireturn, 1) := by decide +kernel
theorem dX0_stateBehind_56 : decode cX0_stateBehind 56 = .ok (.iload_n 1, 1) := by decide +kernel
theorem dX0_stateBehind_57 : decode cX0_stateBehind 57 = .ok (.invokestatic 43, 3) := by decide +kernel
theorem dX0_stateBehind_60 : decode cX0_stateBehind 60 = .ok (.ireturn, 1) := by decide +kernel
theorem dX0_stateBehind_61 : decode cX0_stateBehind 61 = .ok (.iload_n 1, 1) := by decide +kernel
theorem dX0_stateBehind_62 : decode cX0_stateBehind 62 = .ok (.iconst 1, 1) := by decide +kernel
theorem dX0_stateBehind_63 : decode cX0_stateBehind 63 = .ok (.bipush 6, 2) := by decide +kernel
theorem dX0_stateBehind_65 : decode cX0_stateBehind 65 = .ok (.invokestatic 27, 3) := by decide +kernel
theorem dX0_stateBehind_68 : decode cX0_stateBehind 68 = .ok (.ifCond .eq 7, 3) := by decide +kernel
theorem dX0_stateBehind_71 : decode cX0_stateBehind 71 = .ok (.iconst 5, 1) := by decide +kernel
theorem dX0_stateBehind_72 : decode cX0_stateBehind 72 = .ok (.goto 5, 3) := by decide +kernel
theorem dX0_stateBehind_75 : decode cX0_stateBehind 75 = .ok (.bipush 6, 2) := by decide +kernel
theorem dX0_stateBehind_77 : decode cX0_stateBehind 77 = .ok (.ireturn, 1) := by decide +kernel
theorem dX0_stateBehind_78 : decode cX0_stateBehind 78 = .ok (.iload_n 1, 1) := by decide +kernel
theorem dX0_stateBehind_79 : decode cX0_stateBehind 79 = .ok (.bipush 48, 2) := by decide +kernel
theorem dX0_stateBehind_81 : decode cX0_stateBehind 81 = .ok (.if_icmp .ne 7, 3) := by decide +kernel
theorem dX0_stateBehind_84 : decode cX0_stateBehind 84 = .ok (.iconst 5, 1) := by decide +kernel
theorem dX0_stateBehind_85 : decode cX0_stateBehind 85 = .ok (.goto 19, 3) := by decide +kernel
theorem dX0_stateBehind_88 : decode cX0_stateBehind 88 = .ok (.iload_n 1, 1) := by decide +kernel
theorem dX0_stateBehind_89 : decode cX0_stateBehind 89 = .ok (.iconst 1, 1) := by decide +kernel
theorem dX0_stateBehind_90 : decode cX0_stateBehind 90 = .ok (.bipush 9, 2) := by decide +kernel
theorem dX0_stateBehind_92 : decode cX0_stateBehind 92 = .ok (.invokestatic 27, 3) := by decide +kernel
theorem dX0_stateBehind_95 : decode cX0_stateBehind 95 = .ok (.ifCond .eq 7, 3) := by decide +kernel
theorem dX0_stateBehind_98 : decode cX0_stateBehind 98 = .ok (.iconst 4, 1) := by decide +kernel
theorem dX0_stateBehind_99 : decode cX0_stateBehind 99 = .ok (.goto 5, 3) := by decide +kernel
theorem dX0_stateBehind_102 : decode cX0_stateBehind 102 = .ok (.bipush 6, 2) := by decide +kernel
theorem dX0_stateBehind_104 : decode cX0_stateBehind 104 = .ok (.ireturn, 1) := by decide +kernel
theorem dX0_stateBehind_105 : decode cX0_stateBehind 105 = .ok (.iload_n 1, 1) := by decide +kernel
theorem dX0_stateBehind_106 : decode cX0_stateBehind 106 = .ok (.iconst 0, 1) := by decide +kernel
theorem dX0_stateBehind_107 : decode cX0_stateBehind 107 = .ok (.bipush 9, 2) := by decide +kernel
theorem dX0_stateBehind_109 : decode cX0_stateBehind 109 = .ok (.invokestatic 27, 3) := by decide +kernel
theorem dX0_stateBehind_112 : decode cX0_stateBehind 112 = .ok (.ifCond .eq 7, 3) := by decide +kernel
theorem dX0_stateBehind_115 : decode cX0_stateBehind 115 = .ok (.iconst 5, 1) := by decide +kernel
theorem dX0_stateBehind_116 : decode cX0_stateBehind 116 = .ok (.goto 15, 3) := by decide +kernel
theorem dX0_stateBehind_119 : decode cX0_stateBehind 119 = .ok (.iload_n 1, 1) := by decide +kernel
theorem dX0_stateBehind_120 : decode cX0_stateBehind 120 = .ok (.bipush 44, 2) := by decide +kernel
theorem dX0_stateBehind_122 : decode cX0_stateBehind 122 = .ok (.if_icmp .ne 7, 3) := by decide +kernel
theorem dX0_stateBehind_125 : decode cX0_stateBehind 125 = .ok (.iconst 0, 1) := by decide +kernel
theorem dX0_stateBehind_126 : decode cX0_stateBehind 126 = .ok (.goto 5, 3) := by decide +kernel
theorem dX0_stateBehind_129 : decode cX0_stateBehind 129 = .ok (.bipush 6, 2) := by decide +kernel
theorem dX0_stateBehind_131 : decode cX0_stateBehind 131 = .ok (.ireturn, 1) := by decide +kernel
theorem dX0_stateBehind_132 : decode cX0_stateBehind 132 = .ok (.iload_n 1, 1) := by decide +kernel
theorem dX0_stateBehind_133 : decode cX0_stateBehind 133 = .ok (.bipush 44, 2) := by decide +kernel
theorem dX0_stateBehind_135 : decode cX0_stateBehind 135 = .ok (.if_icmp .ne 7, 3) := by decide +kernel
theorem dX0_stateBehind_138 : decode cX0_stateBehind 138 = .ok (.iconst 0, 1) := by decide +kernel
theorem dX0_stateBehind_139 : decode cX0_stateBehind 139 = .ok (.goto 5, 3) := by decide +kernel
theorem dX0_stateBehind_142 : decode cX0_stateBehind 142 = .ok (.bipush 6, 2) := by decide +kernel
theorem dX0_stateBehind_144 : decode cX0_stateBehind 144 = .ok (.ireturn, 1) := by decide +kernel
theorem dX0_stateBehind_145 : decode cX0_stateBehind 145 = .ok (.bipush 6, 2) := by decide +kernel
theorem dX0_stateBehind_147 : decode cX0_stateBehind 147 = .ok (.ireturn, 1) := by decide +kernel
theorem dX0_stateBehindSign_0 : decode cX0_stateBehindSign 0 = .ok (.iload_n 0, 1) := by decide +kernel
theorem dX0_stateBehindSign_1 : decode cX0_stateBehindSign 1 = .ok (.lookupswitch 65 #[(42, 59), (43, 63), (60, 59), (62, 59), (98, 61), (110, 59)], 59) := by decide +kernel
theorem dX0_stateBehindSign_60 : decode cX0_stateBehindSign 60 = .ok (.iconst 5, 1) := by decide +kernel
theorem dX0_stateBehindSign_61 : decode cX0_stateBehindSign 61 = .ok (.ireturn, 1) := by decide +kernel
theorem dX0_stateBehindSign_62 : decode cX0_stateBehindSign 62 = .ok (.iconst 2, 1) := by decide +kernel
theorem dX0_stateBehindSign_63 : decode cX0_stateBehindSign 63 = .ok (.ireturn, 1) := by decide +kernel
theorem dX0_stateBehindSign_64 : decode cX0_stateBehindSign 64 = .ok (.iconst 3, 1) := by decide +kernel
theorem dX0_stateBehindSign_65 : decode cX0_stateBehindSign 65 = .ok (.ireturn, 1) := by decide +kernel
theorem dX0_stateBehindSign_66 : decode cX0_stateBehindSign 66 = .ok (.bipush 6, 2) := by decide +kernel
theorem dX0_stateBehindSign_68 : decode cX0_stateBehindSign 68 = .ok (.ireturn, 1) := by decide +kernel
theorem dX1_init_0 : decode cX1_init 0 = .ok (.aload_n 0, 1) := by decide +kernel
theorem dX1_init_1 : decode cX1_init 1 = .ok (.invokespecial 3, 3) := by decide +kernel
theorem dX1_init_4 : decode cX1_init 4 = .ok (.aload_n 0, 1) := by decide +kernel
theorem dX1_init_5 : decode cX1_init 5 = .ok (.iconst 4, 1) := by decide +kernel
theorem dX1_init_6 : decode cX1_init 6 = .ok (.newarray .int, 2) := by decide +kernel
theorem dX1_init_8 : decode cX1_init 8 = .ok (.putfield 9, 3) := by decide +kernel
theorem dX1_init_11 : decode cX1_init 11 = .ok (.aload_n 0, 1) := by decide +kernel
theorem dX1_init_12 : decode cX1_init 12 = .ok (.iconst 4, 1) := by decide +kernel
theorem dX1_init_13 : decode cX1_init 13 = .ok (.newarray .int, 2) := by decide +kernel
theorem dX1_init_15 : decode cX1_init 15 = .ok (.putfield 15, 3) := by decide +kernel
theorem dX1_init_18 : decode cX1_init 18 = .ok (.aload_n 0, 1) := by decide +kernel
theorem dX1_init_19 : decode cX1_init 19 = .ok (.bipush 10, 2) := by decide +kernel
theorem dX1_init_21 : decode cX1_init 21 = .ok (.putfield 18, 3) := by decide +kernel
theorem dX1_init_24 : decode cX1_init 24 = .ok (.aload_n 0, 1) := by decide +kernel
theorem dX1_init_25 : decode cX1_init 25 = .ok (.iconst 1, 1) := by decide +kernel
theorem dX1_init_26 : decode cX1_init 26 = .ok (.putfield 22, 3) := by decide +kernel
theorem dX1_init_29 : decode cX1_init 29 = .ok (.return_, 1) := by decide +kernel
theorem dX1_copyRoom_0 : decode cX1_copyRoom 0 = .ok (.aload_n 1, 1) := by decide +kernel
theorem dX1_copyRoom_1 : decode cX1_copyRoom 1 = .ok (.getfield 9, 3) := by decide +kernel
theorem dX1_copyRoom_4 : decode cX1_copyRoom 4 = .ok (.iconst 0, 1) := by decide +kernel
theorem dX1_copyRoom_5 : decode cX1_copyRoom 5 = .ok (.aload_n 0, 1) := by decide +kernel
theorem dX1_copyRoom_6 : decode cX1_copyRoom 6 = .ok (.getfield 9, 3) := by decide +kernel
theorem dX1_copyRoom_9 : decode cX1_copyRoom 9 = .ok (.iconst 0, 1) := by decide +kernel
theorem dX1_copyRoom_10 : decode cX1_copyRoom 10 = .ok (.iconst 4, 1) := by decide +kernel
theorem dX1_copyRoom_11 : decode cX1_copyRoom 11 = .ok (.invokestatic 26, 3) := by decide +kernel
theorem dX1_copyRoom_14 : decode cX1_copyRoom 14 = .ok (.aload_n 1, 1) := by decide +kernel
theorem dX1_copyRoom_15 : decode cX1_copyRoom 15 = .ok (.getfield 15, 3) := by decide +kernel
theorem dX1_copyRoom_18 : decode cX1_copyRoom 18 = .ok (.iconst 0, 1) := by decide +kernel
theorem dX1_copyRoom_19 : decode cX1_copyRoom 19 = .ok (.aload_n 0, 1) := by decide +kernel
theorem dX1_copyRoom_20 : decode cX1_copyRoom 20 = .ok (.getfield 15, 3) := by decide +kernel
theorem dX1_copyRoom_23 : decode cX1_copyRoom 23 = .ok (.iconst 0, 1) := by decide +kernel
theorem dX1_copyRoom_24 : decode cX1_copyRoom 24 = .ok (.iconst 4, 1) := by decide +kernel
theorem dX1_copyRoom_25 : decode cX1_copyRoom 25 = .ok (.invokestatic 26, 3) := by decide +kernel
theorem dX1_copyRoom_28 : decode cX1_copyRoom 28 = .ok (.aload_n 0, 1) := by decide +kernel
theorem dX1_copyRoom_29 : decode cX1_copyRoom 29 = .ok (.aload_n 1, 1) := by decide +kernel
theorem dX1_copyRoom_30 : decode cX1_copyRoom 30 = .ok (.getfield 32, 3) := by decide +kernel
theorem dX1_copyRoom_33 : decode cX1_copyRoom 33 = .ok (.putfield 32, 3) := by decide +kernel
theorem dX1_copyRoom_36 : decode cX1_copyRoom 36 = .ok (.aload_n 0, 1) := by decide +kernel
theorem dX1_copyRoom_37 : decode cX1_copyRoom 37 = .ok (.aload_n 1, 1) := by decide +kernel
theorem dX1_copyRoom_38 : decode cX1_copyRoom 38 = .ok (.getfield 18, 3) := by decide +kernel
theorem dX1_copyRoom_41 : decode cX1_copyRoom 41 = .ok (.putfield 18, 3) := by decide +kernel
theorem dX1_copyRoom_44 : decode cX1_copyRoom 44 = .ok (.aload_n 0, 1) := by decide +kernel
theorem dX1_copyRoom_45 : decode cX1_copyRoom 45 = .ok (.aload_n 1, 1) := by decide +kernel
theorem dX1_copyRoom_46 : decode cX1_copyRoom 46 = .ok (.getfield 35, 3) := by decide +kernel
theorem dX1_copyRoom_49 : decode cX1_copyRoom 49 = .ok (.putfield 35, 3) := by decide +kernel
theorem dX1_copyRoom_52 : decode cX1_copyRoom 52 = .ok (.aload_n 0, 1) := by decide +kernel
theorem dX1_copyRoom_53 : decode cX1_copyRoom 53 = .ok (.aload_n 1, 1) := by decide +kernel
theorem dX1_copyRoom_54 : decode cX1_copyRoom 54 = .ok (.getfield 38, 3) := by decide +kernel
theorem dX1_copyRoom_57 : decode cX1_copyRoom 57 = .ok (.putfield 38, 3) := by decide +kernel
theorem dX1_copyRoom_60 : decode cX1_copyRoom 60 = .ok (.aload_n 0, 1) := by decide +kernel
theorem dX1_copyRoom_61 : decode cX1_copyRoom 61 = .ok (.aload_n 1, 1) := by decide +kernel
theorem dX1_copyRoom_62 : decode cX1_copyRoom 62 = .ok (.getfield 41, 3) := by decide +kernel
theorem dX1_copyRoom_65 : decode cX1_copyRoom 65 = .ok (.putfield 41, 3) := by decide +kernel
theorem dX1_copyRoom_68 : decode cX1_copyRoom 68 = .ok (.aload_n 0, 1) := by decide +kernel
theorem dX1_copyRoom_69 : decode cX1_copyRoom 69 = .ok (.aload_n 1, 1) := by decide +kernel
theorem dX1_copyRoom_70 : decode cX1_copyRoom 70 = .ok (.getfield 22, 3) := by decide +kernel
theorem dX1_copyRoom_73 : decode cX1_copyRoom 73 = .ok (.putfield 22, 3) := by decide +kernel
theorem dX1_copyRoom_76 : decode cX1_copyRoom 76 = .ok (.aload_n 0, 1) := by decide +kernel
theorem dX1_copyRoom_77 : decode cX1_copyRoom 77 = .ok (.aload_n 1, 1) := by decide +kernel
theorem dX1_copyRoom_78 : decode cX1_copyRoom 78 = .ok (.getfield 44, 3) := by decide +kernel
theorem dX1_copyRoom_81 : decode cX1_copyRoom 81 = .ok (.putfield 44, 3) := by decide +kernel
theorem dX1_copyRoom_84 : decode cX1_copyRoom 84 = .ok (.return_, 1) := by decide +kernel
theorem dX1_number_0 : decode cX1_number 0 = .ok (.iload_n 1, 1) := by decide +kernel
theorem dX1_number_1 : decode cX1_number 1 = .ok (.tableswitch 87 0 6 #[43, 48, 56, 61, 69, 74, 82], 43) := by decide +kernel
theorem dX1_number_44 : decode cX1_number 44 = .ok (.aload_n 0, 1) := by decide +kernel
theorem dX1_number_45 : decode cX1_number 45 = .ok (.getfield 18, 3) := by decide +kernel
theorem dX1_number_48 : decode cX1_number 48 = .ok (.ireturn, 1) := by decide +kernel
theorem dX1_number_49 : decode cX1_number 49 = .ok (.aload_n 0, 1) := by decide +kernel
theorem dX1_number_50 : decode cX1_number 50 = .ok (.getfield 35, 3) := by decide +kernel
theorem dX1_number_53 : decode cX1_number 53 = .ok (.invokestatic 47, 3) := by decide +kernel
theorem dX1_number_56 : decode cX1_number 56 = .ok (.ireturn, 1) := by decide +kernel
theorem dX1_number_57 : decode cX1_number 57 = .ok (.aload_n 0, 1) := by decide +kernel
theorem dX1_number_58 : decode cX1_number 58 = .ok (.getfield 38, 3) := by decide +kernel
theorem dX1_number_61 : decode cX1_number 61 = .ok (.ireturn, 1) := by decide +kernel
theorem dX1_number_62 : decode cX1_number 62 = .ok (.aload_n 0, 1) := by decide +kernel
theorem dX1_number_63 : decode cX1_number 63 = .ok (.getfield 41, 3) := by decide +kernel
theorem dX1_number_66 : decode cX1_number 66 = .ok (.invokestatic 47, 3) := by decide +kernel
theorem dX1_number_69 : decode cX1_number 69 = .ok (.ireturn, 1) := by decide +kernel
theorem dX1_number_70 : decode cX1_number 70 = .ok (.aload_n 0, 1) := by decide +kernel
theorem dX1_number_71 : decode cX1_number 71 = .ok (.getfield 32, 3) := by decide +kernel
theorem dX1_number_74 : decode cX1_number 74 = .ok (.ireturn, 1) := by decide +kernel
theorem dX1_number_75 : decode cX1_number 75 = .ok (.aload_n 0, 1) := by decide +kernel
theorem dX1_number_76 : decode cX1_number 76 = .ok (.getfield 22, 3) := by decide +kernel
theorem dX1_number_79 : decode cX1_number 79 = .ok (.invokestatic 47, 3) := by decide +kernel
theorem dX1_number_82 : decode cX1_number 82 = .ok (.ireturn, 1) := by decide +kernel
theorem dX1_number_83 : decode cX1_number 83 = .ok (.aload_n 0, 1) := by decide +kernel
theorem dX1_number_84 : decode cX1_number 84 = .ok (.getfield 44, 3) := by decide +kernel
theorem dX1_number_87 : decode cX1_number 87 = .ok (.ireturn, 1) := by decide +kernel
theorem dX1_number_88 : decode cX1_number 88 = .ok (.aload_n 0, 1) := by decide +kernel
theorem dX1_number_89 : decode cX1_number 89 = .ok (.iconst 0, 1) := by decide +kernel
theorem dX1_number_90 : decode cX1_number 90 = .ok (.invokevirtual 51, 3) := by decide +kernel
theorem dX1_number_93 : decode cX1_number 93 = .ok (.ireturn, 1) := by decide +kernel
theorem dX1_keyAt_0 : decode cX1_keyAt 0 = .ok (.iload_n 1, 1) := by decide +kernel
theorem dX1_keyAt_1 : decode cX1_keyAt 1 = .ok (.ifCond .lt 20, 3) := by decide +kernel
theorem dX1_keyAt_4 : decode cX1_keyAt 4 = .ok (.iload_n 1, 1) := by decide +kernel
theorem dX1_keyAt_5 : decode cX1_keyAt 5 = .ok (.aload_n 0, 1) := by decide +kernel
theorem dX1_keyAt_6 : decode cX1_keyAt 6 = .ok (.getfield 32, 3) := by decide +kernel
theorem dX1_keyAt_9 : decode cX1_keyAt 9 = .ok (.if_icmp .ge 12, 3) := by decide +kernel
theorem dX1_keyAt_12 : decode cX1_keyAt 12 = .ok (.aload_n 0, 1) := by decide +kernel
theorem dX1_keyAt_13 : decode cX1_keyAt 13 = .ok (.getfield 9, 3) := by decide +kernel
theorem dX1_keyAt_16 : decode cX1_keyAt 16 = .ok (.iload_n 1, 1) := by decide +kernel
theorem dX1_keyAt_17 : decode cX1_keyAt 17 = .ok (.iaload, 1) := by decide +kernel
theorem dX1_keyAt_18 : decode cX1_keyAt 18 = .ok (.goto 4, 3) := by decide +kernel
theorem dX1_keyAt_21 : decode cX1_keyAt 21 = .ok (.iconst (-1), 1) := by decide +kernel
theorem dX1_keyAt_22 : decode cX1_keyAt 22 = .ok (.ireturn, 1) := by decide +kernel
theorem dX1_darkAt_0 : decode cX1_darkAt 0 = .ok (.iload_n 1, 1) := by decide +kernel
theorem dX1_darkAt_1 : decode cX1_darkAt 1 = .ok (.ifCond .lt 20, 3) := by decide +kernel
theorem dX1_darkAt_4 : decode cX1_darkAt 4 = .ok (.iload_n 1, 1) := by decide +kernel
theorem dX1_darkAt_5 : decode cX1_darkAt 5 = .ok (.aload_n 0, 1) := by decide +kernel
theorem dX1_darkAt_6 : decode cX1_darkAt 6 = .ok (.getfield 32, 3) := by decide +kernel
theorem dX1_darkAt_9 : decode cX1_darkAt 9 = .ok (.if_icmp .ge 12, 3) := by decide +kernel
theorem dX1_darkAt_12 : decode cX1_darkAt 12 = .ok (.aload_n 0, 1) := by decide +kernel
theorem dX1_darkAt_13 : decode cX1_darkAt 13 = .ok (.getfield 15, 3) := by decide +kernel
theorem dX1_darkAt_16 : decode cX1_darkAt 16 = .ok (.iload_n 1, 1) := by decide +kernel
theorem dX1_darkAt_17 : decode cX1_darkAt 17 = .ok (.iaload, 1) := by decide +kernel
theorem dX1_darkAt_18 : decode cX1_darkAt 18 = .ok (.goto 4, 3) := by decide +kernel
theorem dX1_darkAt_21 : decode cX1_darkAt 21 = .ok (.iconst (-1), 1) := by decide +kernel
theorem dX1_darkAt_22 : decode cX1_darkAt 22 = .ok (.ireturn, 1) := by decide +kernel
theorem dX1_placeOf_0 : decode cX1_placeOf 0 = .ok (.iconst 0, 1) := by decide +kernel
theorem dX1_placeOf_1 : decode cX1_placeOf 1 = .ok (.istore_n 2, 1) := by decide +kernel
theorem dX1_placeOf_2 : decode cX1_placeOf 2 = .ok (.iload_n 2, 1) := by decide +kernel
theorem dX1_placeOf_3 : decode cX1_placeOf 3 = .ok (.aload_n 0, 1) := by decide +kernel
theorem dX1_placeOf_4 : decode cX1_placeOf 4 = .ok (.getfield 32, 3) := by decide +kernel
theorem dX1_placeOf_7 : decode cX1_placeOf 7 = .ok (.if_icmp .ge 21, 3) := by decide +kernel
theorem dX1_placeOf_10 : decode cX1_placeOf 10 = .ok (.aload_n 0, 1) := by decide +kernel
theorem dX1_placeOf_11 : decode cX1_placeOf 11 = .ok (.getfield 9, 3) := by decide +kernel
theorem dX1_placeOf_14 : decode cX1_placeOf 14 = .ok (.iload_n 2, 1) := by decide +kernel
theorem dX1_placeOf_15 : decode cX1_placeOf 15 = .ok (.iaload, 1) := by decide +kernel
theorem dX1_placeOf_16 : decode cX1_placeOf 16 = .ok (.iload_n 1, 1) := by decide +kernel
theorem dX1_placeOf_17 : decode cX1_placeOf 17 = .ok (.if_icmp .ne 5, 3) := by decide +kernel
theorem dX1_placeOf_20 : decode cX1_placeOf 20 = .ok (.iload_n 2, 1) := by decide +kernel
theorem dX1_placeOf_21 : decode cX1_placeOf 21 = .ok (.ireturn, 1) := by decide +kernel
theorem dX1_placeOf_22 : decode cX1_placeOf 22 = .ok (.iinc 2 1, 3) := by decide +kernel
theorem dX1_placeOf_25 : decode cX1_placeOf 25 = .ok (.goto (-23), 3) := by decide +kernel
theorem dX1_placeOf_28 : decode cX1_placeOf 28 = .ok (.iconst (-1), 1) := by decide +kernel
theorem dX1_placeOf_29 : decode cX1_placeOf 29 = .ok (.ireturn, 1) := by decide +kernel
theorem dX1_addThing_0 : decode cX1_addThing 0 = .ok (.aload_n 0, 1) := by decide +kernel
theorem dX1_addThing_1 : decode cX1_addThing 1 = .ok (.getfield 32, 3) := by decide +kernel
theorem dX1_addThing_4 : decode cX1_addThing 4 = .ok (.iconst 4, 1) := by decide +kernel
theorem dX1_addThing_5 : decode cX1_addThing 5 = .ok (.if_icmp .ge 33, 3) := by decide +kernel
theorem dX1_addThing_8 : decode cX1_addThing 8 = .ok (.aload_n 0, 1) := by decide +kernel
theorem dX1_addThing_9 : decode cX1_addThing 9 = .ok (.getfield 9, 3) := by decide +kernel
theorem dX1_addThing_12 : decode cX1_addThing 12 = .ok (.aload_n 0, 1) := by decide +kernel
theorem dX1_addThing_13 : decode cX1_addThing 13 = .ok (.getfield 32, 3) := by decide +kernel
theorem dX1_addThing_16 : decode cX1_addThing 16 = .ok (.iload_n 1, 1) := by decide +kernel
theorem dX1_addThing_17 : decode cX1_addThing 17 = .ok (.iastore, 1) := by decide +kernel
theorem dX1_addThing_18 : decode cX1_addThing 18 = .ok (.aload_n 0, 1) := by decide +kernel
theorem dX1_addThing_19 : decode cX1_addThing 19 = .ok (.getfield 15, 3) := by decide +kernel
theorem dX1_addThing_22 : decode cX1_addThing 22 = .ok (.aload_n 0, 1) := by decide +kernel
theorem dX1_addThing_23 : decode cX1_addThing 23 = .ok (.getfield 32, 3) := by decide +kernel
theorem dX1_addThing_26 : decode cX1_addThing 26 = .ok (.iconst 0, 1) := by decide +kernel
theorem dX1_addThing_27 : decode cX1_addThing 27 = .ok (.iastore, 1) := by decide +kernel
theorem dX1_addThing_28 : decode cX1_addThing 28 = .ok (.aload_n 0, 1) := by decide +kernel
theorem dX1_addThing_29 : decode cX1_addThing 29 = .ok (.dup, 1) := by decide +kernel
theorem dX1_addThing_30 : decode cX1_addThing 30 = .ok (.getfield 32, 3) := by decide +kernel
theorem dX1_addThing_33 : decode cX1_addThing 33 = .ok (.iconst 1, 1) := by decide +kernel
theorem dX1_addThing_34 : decode cX1_addThing 34 = .ok (.iadd, 1) := by decide +kernel
theorem dX1_addThing_35 : decode cX1_addThing 35 = .ok (.putfield 32, 3) := by decide +kernel
theorem dX1_addThing_38 : decode cX1_addThing 38 = .ok (.return_, 1) := by decide +kernel
theorem dX1_takeNewCandle_0 : decode cX1_takeNewCandle 0 = .ok (.aload_n 0, 1) := by decide +kernel
theorem dX1_takeNewCandle_1 : decode cX1_takeNewCandle 1 = .ok (.bipush 20, 2) := by decide +kernel
theorem dX1_takeNewCandle_3 : decode cX1_takeNewCandle 3 = .ok (.putfield 18, 3) := by decide +kernel
theorem dX1_takeNewCandle_6 : decode cX1_takeNewCandle 6 = .ok (.aload_n 0, 1) := by decide +kernel
theorem dX1_takeNewCandle_7 : decode cX1_takeNewCandle 7 = .ok (.iconst 0, 1) := by decide +kernel
theorem dX1_takeNewCandle_8 : decode cX1_takeNewCandle 8 = .ok (.putfield 38, 3) := by decide +kernel
theorem dX1_takeNewCandle_11 : decode cX1_takeNewCandle 11 = .ok (.aload_n 0, 1) := by decide +kernel
theorem dX1_takeNewCandle_12 : decode cX1_takeNewCandle 12 = .ok (.iconst 0, 1) := by decide +kernel
theorem dX1_takeNewCandle_13 : decode cX1_takeNewCandle 13 = .ok (.putfield 35, 3) := by decide +kernel
theorem dX1_takeNewCandle_16 : decode cX1_takeNewCandle 16 = .ok (.return_, 1) := by decide +kernel
theorem dX1_burntInBeat_0 : decode cX1_burntInBeat 0 = .ok (.iconst 1, 1) := by decide +kernel
theorem dX1_burntInBeat_1 : decode cX1_burntInBeat 1 = .ok (.iload_n 0, 1) := by decide +kernel
theorem dX1_burntInBeat_2 : decode cX1_burntInBeat 2 = .ok (.iconst 3, 1) := by decide +kernel
theorem dX1_burntInBeat_3 : decode cX1_burntInBeat 3 = .ok (.if_icmp .lt 7, 3) := by decide +kernel
theorem dX1_burntInBeat_6 : decode cX1_burntInBeat 6 = .ok (.iconst 1, 1) := by decide +kernel
theorem dX1_burntInBeat_7 : decode cX1_burntInBeat 7 = .ok (.goto 4, 3) := by decide +kernel
theorem dX1_burntInBeat_10 : decode cX1_burntInBeat 10 = .ok (.iconst 0, 1) := by decide +kernel
theorem dX1_burntInBeat_11 : decode cX1_burntInBeat 11 = .ok (.invokestatic 47, 3) := by decide +kernel
theorem dX1_burntInBeat_14 : decode cX1_burntInBeat 14 = .ok (.iadd, 1) := by decide +kernel
theorem dX1_burntInBeat_15 : decode cX1_burntInBeat 15 = .ok (.iload_n 0, 1) := by decide +kernel
theorem dX1_burntInBeat_16 : decode cX1_burntInBeat 16 = .ok (.bipush 6, 2) := by decide +kernel
theorem dX1_burntInBeat_18 : decode cX1_burntInBeat 18 = .ok (.if_icmp .lt 7, 3) := by decide +kernel
theorem dX1_burntInBeat_21 : decode cX1_burntInBeat 21 = .ok (.iconst 1, 1) := by decide +kernel
theorem dX1_burntInBeat_22 : decode cX1_burntInBeat 22 = .ok (.goto 4, 3) := by decide +kernel
theorem dX1_burntInBeat_25 : decode cX1_burntInBeat 25 = .ok (.iconst 0, 1) := by decide +kernel
theorem dX1_burntInBeat_26 : decode cX1_burntInBeat 26 = .ok (.invokestatic 47, 3) := by decide +kernel
theorem dX1_burntInBeat_29 : decode cX1_burntInBeat 29 = .ok (.iadd, 1) := by decide +kernel
theorem dX1_burntInBeat_30 : decode cX1_burntInBeat 30 = .ok (.ireturn, 1) := by decide +kernel
theorem dX1_burnForBeat_0 : decode cX1_burnForBeat 0 = .ok (.aload_n 0, 1) := by decide +kernel
theorem dX1_burnForBeat_1 : decode cX1_burnForBeat 1 = .ok (.getfield 35, 3) := by decide +kernel
theorem dX1_burnForBeat_4 : decode cX1_burnForBeat 4 = .ok (.ifCond .ne 4, 3) := by decide +kernel
theorem dX1_burnForBeat_7 : decode cX1_burnForBeat 7 = .ok (.return_, 1) := by decide +kernel
theorem dX1_burnForBeat_8 : decode cX1_burnForBeat 8 = .ok (.aload_n 0, 1) := by decide +kernel
theorem dX1_burnForBeat_9 : decode cX1_burnForBeat 9 = .ok (.dup, 1) := by decide +kernel
theorem dX1_burnForBeat_10 : decode cX1_burnForBeat 10 = .ok (.getfield 44, 3) := by decide +kernel
theorem dX1_burnForBeat_13 : decode cX1_burnForBeat 13 = .ok (.iconst 1, 1) := by decide +kernel
theorem dX1_burnForBeat_14 : decode cX1_burnForBeat 14 = .ok (.iadd, 1) := by decide +kernel
theorem dX1_burnForBeat_15 : decode cX1_burnForBeat 15 = .ok (.putfield 44, 3) := by decide +kernel
theorem dX1_burnForBeat_18 : decode cX1_burnForBeat 18 = .ok (.aload_n 0, 1) := by decide +kernel
theorem dX1_burnForBeat_19 : decode cX1_burnForBeat 19 = .ok (.iconst 0, 1) := by decide +kernel
theorem dX1_burnForBeat_20 : decode cX1_burnForBeat 20 = .ok (.aload_n 0, 1) := by decide +kernel
theorem dX1_burnForBeat_21 : decode cX1_burnForBeat 21 = .ok (.getfield 18, 3) := by decide +kernel
theorem dX1_burnForBeat_24 : decode cX1_burnForBeat 24 = .ok (.aload_n 0, 1) := by decide +kernel
theorem dX1_burnForBeat_25 : decode cX1_burnForBeat 25 = .ok (.getfield 38, 3) := by decide +kernel
theorem dX1_burnForBeat_28 : decode cX1_burnForBeat 28 = .ok (.invokestatic 55, 3) := by decide +kernel
theorem dX1_burnForBeat_31 : decode cX1_burnForBeat 31 = .ok (.isub, 1) := by decide +kernel
theorem dX1_burnForBeat_32 : decode cX1_burnForBeat 32 = .ok (.invokestatic 58, 3) := by decide +kernel
theorem dX1_burnForBeat_35 : decode cX1_burnForBeat 35 = .ok (.putfield 18, 3) := by decide +kernel
theorem dX1_burnForBeat_38 : decode cX1_burnForBeat 38 = .ok (.aload_n 0, 1) := by decide +kernel
theorem dX1_burnForBeat_39 : decode cX1_burnForBeat 39 = .ok (.aload_n 0, 1) := by decide +kernel
theorem dX1_burnForBeat_40 : decode cX1_burnForBeat 40 = .ok (.getfield 18, 3) := by decide +kernel
theorem dX1_burnForBeat_43 : decode cX1_burnForBeat 43 = .ok (.ifCond .le 7, 3) := by decide +kernel
theorem dX1_burnForBeat_46 : decode cX1_burnForBeat 46 = .ok (.iconst 1, 1) := by decide +kernel
theorem dX1_burnForBeat_47 : decode cX1_burnForBeat 47 = .ok (.goto 4, 3) := by decide +kernel
theorem dX1_burnForBeat_50 : decode cX1_burnForBeat 50 = .ok (.iconst 0, 1) := by decide +kernel
theorem dX1_burnForBeat_51 : decode cX1_burnForBeat 51 = .ok (.putfield 35, 3) := by decide +kernel
theorem dX1_burnForBeat_54 : decode cX1_burnForBeat 54 = .ok (.aload_n 0, 1) := by decide +kernel
theorem dX1_burnForBeat_55 : decode cX1_burnForBeat 55 = .ok (.getfield 35, 3) := by decide +kernel
theorem dX1_burnForBeat_58 : decode cX1_burnForBeat 58 = .ok (.ifCond .eq 18, 3) := by decide +kernel
theorem dX1_burnForBeat_61 : decode cX1_burnForBeat 61 = .ok (.aload_n 0, 1) := by decide +kernel
theorem dX1_burnForBeat_62 : decode cX1_burnForBeat 62 = .ok (.bipush 9, 2) := by decide +kernel
theorem dX1_burnForBeat_64 : decode cX1_burnForBeat 64 = .ok (.aload_n 0, 1) := by decide +kernel
theorem dX1_burnForBeat_65 : decode cX1_burnForBeat 65 = .ok (.getfield 38, 3) := by decide +kernel
theorem dX1_burnForBeat_68 : decode cX1_burnForBeat 68 = .ok (.iconst 1, 1) := by decide +kernel
theorem dX1_burnForBeat_69 : decode cX1_burnForBeat 69 = .ok (.iadd, 1) := by decide +kernel
theorem dX1_burnForBeat_70 : decode cX1_burnForBeat 70 = .ok (.invokestatic 64, 3) := by decide +kernel
theorem dX1_burnForBeat_73 : decode cX1_burnForBeat 73 = .ok (.putfield 38, 3) := by decide +kernel
theorem dX1_burnForBeat_76 : decode cX1_burnForBeat 76 = .ok (.return_, 1) := by decide +kernel
theorem dX1_beatsUntrimmed_0 : decode cX1_beatsUntrimmed 0 = .ok (.aload_n 0, 1) := by decide +kernel
theorem dX1_beatsUntrimmed_1 : decode cX1_beatsUntrimmed 1 = .ok (.getfield 18, 3) := by decide +kernel
theorem dX1_beatsUntrimmed_4 : decode cX1_beatsUntrimmed 4 = .ok (.istore_n 1, 1) := by decide +kernel
theorem dX1_beatsUntrimmed_5 : decode cX1_beatsUntrimmed 5 = .ok (.aload_n 0, 1) := by decide +kernel
theorem dX1_beatsUntrimmed_6 : decode cX1_beatsUntrimmed 6 = .ok (.getfield 38, 3) := by decide +kernel
theorem dX1_beatsUntrimmed_9 : decode cX1_beatsUntrimmed 9 = .ok (.istore_n 2, 1) := by decide +kernel
theorem dX1_beatsUntrimmed_10 : decode cX1_beatsUntrimmed 10 = .ok (.iconst 0, 1) := by decide +kernel
theorem dX1_beatsUntrimmed_11 : decode cX1_beatsUntrimmed 11 = .ok (.istore_n 3, 1) := by decide +kernel
theorem dX1_beatsUntrimmed_12 : decode cX1_beatsUntrimmed 12 = .ok (.iload_n 3, 1) := by decide +kernel
theorem dX1_beatsUntrimmed_13 : decode cX1_beatsUntrimmed 13 = .ok (.bipush 60, 2) := by decide +kernel
theorem dX1_beatsUntrimmed_15 : decode cX1_beatsUntrimmed 15 = .ok (.if_icmp .ge 31, 3) := by decide +kernel
theorem dX1_beatsUntrimmed_18 : decode cX1_beatsUntrimmed 18 = .ok (.iload_n 1, 1) := by decide +kernel
theorem dX1_beatsUntrimmed_19 : decode cX1_beatsUntrimmed 19 = .ok (.ifCond .gt 5, 3) := by decide +kernel
theorem dX1_beatsUntrimmed_22 : decode cX1_beatsUntrimmed 22 = .ok (.iload_n 3, 1) := by decide +kernel
theorem dX1_beatsUntrimmed_23 : decode cX1_beatsUntrimmed 23 = .ok (.ireturn, 1) := by decide +kernel
theorem dX1_beatsUntrimmed_24 : decode cX1_beatsUntrimmed 24 = .ok (.iload_n 1, 1) := by decide +kernel
theorem dX1_beatsUntrimmed_25 : decode cX1_beatsUntrimmed 25 = .ok (.iload_n 2, 1) := by decide +kernel
theorem dX1_beatsUntrimmed_26 : decode cX1_beatsUntrimmed 26 = .ok (.invokestatic 55, 3) := by decide +kernel
theorem dX1_beatsUntrimmed_29 : decode cX1_beatsUntrimmed 29 = .ok (.isub, 1) := by decide +kernel
theorem dX1_beatsUntrimmed_30 : decode cX1_beatsUntrimmed 30 = .ok (.istore_n 1, 1) := by decide +kernel
theorem dX1_beatsUntrimmed_31 : decode cX1_beatsUntrimmed 31 = .ok (.bipush 9, 2) := by decide +kernel
theorem dX1_beatsUntrimmed_33 : decode cX1_beatsUntrimmed 33 = .ok (.iload_n 2, 1) := by decide +kernel
theorem dX1_beatsUntrimmed_34 : decode cX1_beatsUntrimmed 34 = .ok (.iconst 1, 1) := by decide +kernel
theorem dX1_beatsUntrimmed_35 : decode cX1_beatsUntrimmed 35 = .ok (.iadd, 1) := by decide +kernel
theorem dX1_beatsUntrimmed_36 : decode cX1_beatsUntrimmed 36 = .ok (.invokestatic 64, 3) := by decide +kernel
theorem dX1_beatsUntrimmed_39 : decode cX1_beatsUntrimmed 39 = .ok (.istore_n 2, 1) := by decide +kernel
theorem dX1_beatsUntrimmed_40 : decode cX1_beatsUntrimmed 40 = .ok (.iinc 3 1, 3) := by decide +kernel
theorem dX1_beatsUntrimmed_43 : decode cX1_beatsUntrimmed 43 = .ok (.goto (-31), 3) := by decide +kernel
theorem dX1_beatsUntrimmed_46 : decode cX1_beatsUntrimmed 46 = .ok (.bipush 60, 2) := by decide +kernel
theorem dX1_beatsUntrimmed_48 : decode cX1_beatsUntrimmed 48 = .ok (.ireturn, 1) := by decide +kernel
theorem dX1_beatsSaved_0 : decode cX1_beatsSaved 0 = .ok (.aload_n 0, 1) := by decide +kernel
theorem dX1_beatsSaved_1 : decode cX1_beatsSaved 1 = .ok (.getfield 35, 3) := by decide +kernel
theorem dX1_beatsSaved_4 : decode cX1_beatsSaved 4 = .ok (.ifCond .eq 15, 3) := by decide +kernel
theorem dX1_beatsSaved_7 : decode cX1_beatsSaved 7 = .ok (.aload_n 0, 1) := by decide +kernel
theorem dX1_beatsSaved_8 : decode cX1_beatsSaved 8 = .ok (.getfield 18, 3) := by decide +kernel
theorem dX1_beatsSaved_11 : decode cX1_beatsSaved 11 = .ok (.aload_n 0, 1) := by decide +kernel
theorem dX1_beatsSaved_12 : decode cX1_beatsSaved 12 = .ok (.invokevirtual 67, 3) := by decide +kernel
theorem dX1_beatsSaved_15 : decode cX1_beatsSaved 15 = .ok (.isub, 1) := by decide +kernel
theorem dX1_beatsSaved_16 : decode cX1_beatsSaved 16 = .ok (.goto 4, 3) := by decide +kernel
theorem dX1_beatsSaved_19 : decode cX1_beatsSaved 19 = .ok (.iconst 0, 1) := by decide +kernel
theorem dX1_beatsSaved_20 : decode cX1_beatsSaved 20 = .ok (.ireturn, 1) := by decide +kernel
theorem dX1_ageThings_0 : decode cX1_ageThings 0 = .ok (.iconst 0, 1) := by decide +kernel
theorem dX1_ageThings_1 : decode cX1_ageThings 1 = .ok (.istore_n 2, 1) := by decide +kernel
theorem dX1_ageThings_2 : decode cX1_ageThings 2 = .ok (.iconst 0, 1) := by decide +kernel
theorem dX1_ageThings_3 : decode cX1_ageThings 3 = .ok (.istore_n 3, 1) := by decide +kernel
theorem dX1_ageThings_4 : decode cX1_ageThings 4 = .ok (.iload_n 3, 1) := by decide +kernel
theorem dX1_ageThings_5 : decode cX1_ageThings 5 = .ok (.aload_n 0, 1) := by decide +kernel
theorem dX1_ageThings_6 : decode cX1_ageThings 6 = .ok (.getfield 32, 3) := by decide +kernel
theorem dX1_ageThings_9 : decode cX1_ageThings 9 = .ok (.if_icmp .ge 59, 3) := by decide +kernel
theorem dX1_ageThings_12 : decode cX1_ageThings 12 = .ok (.aload_n 0, 1) := by decide +kernel
theorem dX1_ageThings_13 : decode cX1_ageThings 13 = .ok (.getfield 35, 3) := by decide +kernel
theorem dX1_ageThings_16 : decode cX1_ageThings 16 = .ok (.ifCond .eq 7, 3) := by decide +kernel
theorem dX1_ageThings_19 : decode cX1_ageThings 19 = .ok (.iconst 0, 1) := by decide +kernel
theorem dX1_ageThings_20 : decode cX1_ageThings 20 = .ok (.goto 11, 3) := by decide +kernel
theorem dX1_ageThings_23 : decode cX1_ageThings 23 = .ok (.aload_n 0, 1) := by decide +kernel
theorem dX1_ageThings_24 : decode cX1_ageThings 24 = .ok (.getfield 15, 3) := by decide +kernel
theorem dX1_ageThings_27 : decode cX1_ageThings 27 = .ok (.iload_n 3, 1) := by decide +kernel
theorem dX1_ageThings_28 : decode cX1_ageThings 28 = .ok (.iaload, 1) := by decide +kernel
theorem dX1_ageThings_29 : decode cX1_ageThings 29 = .ok (.iconst 1, 1) := by decide +kernel
theorem dX1_ageThings_30 : decode cX1_ageThings 30 = .ok (.iadd, 1) := by decide +kernel
theorem dX1_ageThings_31 : decode cX1_ageThings 31 = .ok (.istore 4, 2) := by decide +kernel
theorem dX1_ageThings_33 : decode cX1_ageThings 33 = .ok (.iload 4, 2) := by decide +kernel
theorem dX1_ageThings_35 : decode cX1_ageThings 35 = .ok (.iload_n 1, 1) := by decide +kernel
theorem dX1_ageThings_36 : decode cX1_ageThings 36 = .ok (.if_icmp .ge 26, 3) := by decide +kernel
theorem dX1_ageThings_39 : decode cX1_ageThings 39 = .ok (.aload_n 0, 1) := by decide +kernel
theorem dX1_ageThings_40 : decode cX1_ageThings 40 = .ok (.getfield 9, 3) := by decide +kernel
theorem dX1_ageThings_43 : decode cX1_ageThings 43 = .ok (.iload_n 2, 1) := by decide +kernel
theorem dX1_ageThings_44 : decode cX1_ageThings 44 = .ok (.aload_n 0, 1) := by decide +kernel
theorem dX1_ageThings_45 : decode cX1_ageThings 45 = .ok (.getfield 9, 3) := by decide +kernel
theorem dX1_ageThings_48 : decode cX1_ageThings 48 = .ok (.iload_n 3, 1) := by decide +kernel
theorem dX1_ageThings_49 : decode cX1_ageThings 49 = .ok (.iaload, 1) := by decide +kernel
theorem dX1_ageThings_50 : decode cX1_ageThings 50 = .ok (.iastore, 1) := by decide +kernel
theorem dX1_ageThings_51 : decode cX1_ageThings 51 = .ok (.aload_n 0, 1) := by decide +kernel
theorem dX1_ageThings_52 : decode cX1_ageThings 52 = .ok (.getfield 15, 3) := by decide +kernel
theorem dX1_ageThings_55 : decode cX1_ageThings 55 = .ok (.iload_n 2, 1) := by decide +kernel
theorem dX1_ageThings_56 : decode cX1_ageThings 56 = .ok (.iload 4, 2) := by decide +kernel
theorem dX1_ageThings_58 : decode cX1_ageThings 58 = .ok (.iastore, 1) := by decide +kernel
theorem dX1_ageThings_59 : decode cX1_ageThings 59 = .ok (.iinc 2 1, 3) := by decide +kernel
theorem dX1_ageThings_62 : decode cX1_ageThings 62 = .ok (.iinc 3 1, 3) := by decide +kernel
theorem dX1_ageThings_65 : decode cX1_ageThings 65 = .ok (.goto (-61), 3) := by decide +kernel
theorem dX1_ageThings_68 : decode cX1_ageThings 68 = .ok (.aload_n 0, 1) := by decide +kernel
theorem dX1_ageThings_69 : decode cX1_ageThings 69 = .ok (.getfield 32, 3) := by decide +kernel
theorem dX1_ageThings_72 : decode cX1_ageThings 72 = .ok (.iload_n 2, 1) := by decide +kernel
theorem dX1_ageThings_73 : decode cX1_ageThings 73 = .ok (.isub, 1) := by decide +kernel
theorem dX1_ageThings_74 : decode cX1_ageThings 74 = .ok (.istore_n 3, 1) := by decide +kernel
theorem dX1_ageThings_75 : decode cX1_ageThings 75 = .ok (.aload_n 0, 1) := by decide +kernel
theorem dX1_ageThings_76 : decode cX1_ageThings 76 = .ok (.iload_n 2, 1) := by decide +kernel
theorem dX1_ageThings_77 : decode cX1_ageThings 77 = .ok (.putfield 32, 3) := by decide +kernel
theorem dX1_ageThings_80 : decode cX1_ageThings 80 = .ok (.iload_n 3, 1) := by decide +kernel
theorem dX1_ageThings_81 : decode cX1_ageThings 81 = .ok (.ireturn, 1) := by decide +kernel
theorem dX1_beatsToFirstForgotten_0 : decode cX1_beatsToFirstForgotten 0 = .ok (.iload_n 1, 1) := by decide +kernel
theorem dX1_beatsToFirstForgotten_1 : decode cX1_beatsToFirstForgotten 1 = .ok (.iconst 1, 1) := by decide +kernel
theorem dX1_beatsToFirstForgotten_2 : decode cX1_beatsToFirstForgotten 2 = .ok (.if_icmp .le 9, 3) := by decide +kernel
theorem dX1_beatsToFirstForgotten_5 : decode cX1_beatsToFirstForgotten 5 = .ok (.iload_n 1, 1) := by decide +kernel
theorem dX1_beatsToFirstForgotten_6 : decode cX1_beatsToFirstForgotten 6 = .ok (.iload_n 2, 1) := by decide +kernel
theorem dX1_beatsToFirstForgotten_7 : decode cX1_beatsToFirstForgotten 7 = .ok (.iadd, 1) := by decide +kernel
theorem dX1_beatsToFirstForgotten_8 : decode cX1_beatsToFirstForgotten 8 = .ok (.iconst 1, 1) := by decide +kernel
theorem dX1_beatsToFirstForgotten_9 : decode cX1_beatsToFirstForgotten 9 = .ok (.isub, 1) := by decide +kernel
theorem dX1_beatsToFirstForgotten_10 : decode cX1_beatsToFirstForgotten 10 = .ok (.ireturn, 1) := by decide +kernel
theorem dX1_beatsToFirstForgotten_11 : decode cX1_beatsToFirstForgotten 11 = .ok (.iconst 0, 1) := by decide +kernel
theorem dX1_beatsToFirstForgotten_12 : decode cX1_beatsToFirstForgotten 12 = .ok (.istore_n 3, 1) := by decide +kernel
theorem dX1_beatsToFirstForgotten_13 : decode cX1_beatsToFirstForgotten 13 = .ok (.iconst 0, 1) := by decide +kernel
theorem dX1_beatsToFirstForgotten_14 : decode cX1_beatsToFirstForgotten 14 = .ok (.istore 4, 2) := by decide +kernel
theorem dX1_beatsToFirstForgotten_16 : decode cX1_beatsToFirstForgotten 16 = .ok (.iload 4, 2) := by decide +kernel
theorem dX1_beatsToFirstForgotten_18 : decode cX1_beatsToFirstForgotten 18 = .ok (.aload_n 0, 1) := by decide +kernel
theorem dX1_beatsToFirstForgotten_19 : decode cX1_beatsToFirstForgotten 19 = .ok (.getfield 32, 3) := by decide +kernel
theorem dX1_beatsToFirstForgotten_22 : decode cX1_beatsToFirstForgotten 22 = .ok (.if_icmp .ge 21, 3) := by decide +kernel
theorem dX1_beatsToFirstForgotten_25 : decode cX1_beatsToFirstForgotten 25 = .ok (.iload_n 3, 1) := by decide +kernel
theorem dX1_beatsToFirstForgotten_26 : decode cX1_beatsToFirstForgotten 26 = .ok (.aload_n 0, 1) := by decide +kernel
theorem dX1_beatsToFirstForgotten_27 : decode cX1_beatsToFirstForgotten 27 = .ok (.getfield 15, 3) := by decide +kernel
theorem dX1_beatsToFirstForgotten_30 : decode cX1_beatsToFirstForgotten 30 = .ok (.iload 4, 2) := by decide +kernel
theorem dX1_beatsToFirstForgotten_32 : decode cX1_beatsToFirstForgotten 32 = .ok (.iaload, 1) := by decide +kernel
theorem dX1_beatsToFirstForgotten_33 : decode cX1_beatsToFirstForgotten 33 = .ok (.invokestatic 58, 3) := by decide +kernel
theorem dX1_beatsToFirstForgotten_36 : decode cX1_beatsToFirstForgotten 36 = .ok (.istore_n 3, 1) := by decide +kernel
theorem dX1_beatsToFirstForgotten_37 : decode cX1_beatsToFirstForgotten 37 = .ok (.iinc 4 1, 3) := by decide +kernel
theorem dX1_beatsToFirstForgotten_40 : decode cX1_beatsToFirstForgotten 40 = .ok (.goto (-24), 3) := by decide +kernel
theorem dX1_beatsToFirstForgotten_43 : decode cX1_beatsToFirstForgotten 43 = .ok (.iconst 1, 1) := by decide +kernel
theorem dX1_beatsToFirstForgotten_44 : decode cX1_beatsToFirstForgotten 44 = .ok (.iload_n 2, 1) := by decide +kernel
theorem dX1_beatsToFirstForgotten_45 : decode cX1_beatsToFirstForgotten 45 = .ok (.iload_n 3, 1) := by decide +kernel
theorem dX1_beatsToFirstForgotten_46 : decode cX1_beatsToFirstForgotten 46 = .ok (.isub, 1) := by decide +kernel
theorem dX1_beatsToFirstForgotten_47 : decode cX1_beatsToFirstForgotten 47 = .ok (.invokestatic 58, 3) := by decide +kernel
theorem dX1_beatsToFirstForgotten_50 : decode cX1_beatsToFirstForgotten 50 = .ok (.ireturn, 1) := by decide +kernel
theorem dX2_init_0 : decode cX2_init 0 = .ok (.aload_n 0, 1) := by decide +kernel
theorem dX2_init_1 : decode cX2_init 1 = .ok (.invokespecial 3, 3) := by decide +kernel
theorem dX2_init_4 : decode cX2_init 4 = .ok (.aload_n 0, 1) := by decide +kernel
theorem dX2_init_5 : decode cX2_init 5 = .ok (.bipush 6, 2) := by decide +kernel
theorem dX2_init_7 : decode cX2_init 7 = .ok (.anewarray 9, 3) := by decide +kernel
theorem dX2_init_10 : decode cX2_init 10 = .ok (.putfield 11, 3) := by decide +kernel
theorem dX2_init_13 : decode cX2_init 13 = .ok (.iconst 0, 1) := by decide +kernel
theorem dX2_init_14 : decode cX2_init 14 = .ok (.istore_n 1, 1) := by decide +kernel
theorem dX2_init_15 : decode cX2_init 15 = .ok (.iload_n 1, 1) := by decide +kernel
theorem dX2_init_16 : decode cX2_init 16 = .ok (.bipush 6, 2) := by decide +kernel
theorem dX2_init_18 : decode cX2_init 18 = .ok (.if_icmp .ge 22, 3) := by decide +kernel
theorem dX2_init_21 : decode cX2_init 21 = .ok (.aload_n 0, 1) := by decide +kernel
theorem dX2_init_22 : decode cX2_init 22 = .ok (.getfield 11, 3) := by decide +kernel
theorem dX2_init_25 : decode cX2_init 25 = .ok (.iload_n 1, 1) := by decide +kernel
theorem dX2_init_26 : decode cX2_init 26 = .ok (.new 9, 3) := by decide +kernel
theorem dX2_init_29 : decode cX2_init 29 = .ok (.dup, 1) := by decide +kernel
theorem dX2_init_30 : decode cX2_init 30 = .ok (.invokespecial 17, 3) := by decide +kernel
theorem dX2_init_33 : decode cX2_init 33 = .ok (.aastore, 1) := by decide +kernel
theorem dX2_init_34 : decode cX2_init 34 = .ok (.iinc 1 1, 3) := by decide +kernel
theorem dX2_init_37 : decode cX2_init 37 = .ok (.goto (-22), 3) := by decide +kernel
theorem dX2_init_40 : decode cX2_init 40 = .ok (.return_, 1) := by decide +kernel
theorem dX2_push_0 : decode cX2_push 0 = .ok (.aload_n 0, 1) := by decide +kernel
theorem dX2_push_1 : decode cX2_push 1 = .ok (.getfield 18, 3) := by decide +kernel
theorem dX2_push_4 : decode cX2_push 4 = .ok (.bipush 6, 2) := by decide +kernel
theorem dX2_push_6 : decode cX2_push 6 = .ok (.if_icmp .lt 7, 3) := by decide +kernel
theorem dX2_push_9 : decode cX2_push 9 = .ok (.aload_n 0, 1) := by decide +kernel
theorem dX2_push_10 : decode cX2_push 10 = .ok (.invokevirtual 22, 3) := by decide +kernel
theorem dX2_push_13 : decode cX2_push 13 = .ok (.aload_n 0, 1) := by decide +kernel
theorem dX2_push_14 : decode cX2_push 14 = .ok (.getfield 11, 3) := by decide +kernel
theorem dX2_push_17 : decode cX2_push 17 = .ok (.aload_n 0, 1) := by decide +kernel
theorem dX2_push_18 : decode cX2_push 18 = .ok (.getfield 18, 3) := by decide +kernel
theorem dX2_push_21 : decode cX2_push 21 = .ok (.aaload, 1) := by decide +kernel
theorem dX2_push_22 : decode cX2_push 22 = .ok (.aload_n 1, 1) := by decide +kernel
theorem dX2_push_23 : decode cX2_push 23 = .ok (.invokevirtual 25, 3) := by decide +kernel
theorem dX2_push_26 : decode cX2_push 26 = .ok (.aload_n 0, 1) := by decide +kernel
theorem dX2_push_27 : decode cX2_push 27 = .ok (.dup, 1) := by decide +kernel
theorem dX2_push_28 : decode cX2_push 28 = .ok (.getfield 18, 3) := by decide +kernel
theorem dX2_push_31 : decode cX2_push 31 = .ok (.iconst 1, 1) := by decide +kernel
theorem dX2_push_32 : decode cX2_push 32 = .ok (.iadd, 1) := by decide +kernel
theorem dX2_push_33 : decode cX2_push 33 = .ok (.putfield 18, 3) := by decide +kernel
theorem dX2_push_36 : decode cX2_push 36 = .ok (.return_, 1) := by decide +kernel
theorem dX2_dropOldest_0 : decode cX2_dropOldest 0 = .ok (.aload_n 0, 1) := by decide +kernel
theorem dX2_dropOldest_1 : decode cX2_dropOldest 1 = .ok (.getfield 11, 3) := by decide +kernel
theorem dX2_dropOldest_4 : decode cX2_dropOldest 4 = .ok (.iconst 0, 1) := by decide +kernel
theorem dX2_dropOldest_5 : decode cX2_dropOldest 5 = .ok (.aaload, 1) := by decide +kernel
theorem dX2_dropOldest_6 : decode cX2_dropOldest 6 = .ok (.astore_n 1, 1) := by decide +kernel
theorem dX2_dropOldest_7 : decode cX2_dropOldest 7 = .ok (.iconst 1, 1) := by decide +kernel
theorem dX2_dropOldest_8 : decode cX2_dropOldest 8 = .ok (.istore_n 2, 1) := by decide +kernel
theorem dX2_dropOldest_9 : decode cX2_dropOldest 9 = .ok (.iload_n 2, 1) := by decide +kernel
theorem dX2_dropOldest_10 : decode cX2_dropOldest 10 = .ok (.bipush 6, 2) := by decide +kernel
theorem dX2_dropOldest_12 : decode cX2_dropOldest 12 = .ok (.if_icmp .ge 23, 3) := by decide +kernel
theorem dX2_dropOldest_15 : decode cX2_dropOldest 15 = .ok (.aload_n 0, 1) := by decide +kernel
theorem dX2_dropOldest_16 : decode cX2_dropOldest 16 = .ok (.getfield 11, 3) := by decide +kernel
theorem dX2_dropOldest_19 : decode cX2_dropOldest 19 = .ok (.iload_n 2, 1) := by decide +kernel
theorem dX2_dropOldest_20 : decode cX2_dropOldest 20 = .ok (.iconst 1, 1) := by decide +kernel
theorem dX2_dropOldest_21 : decode cX2_dropOldest 21 = .ok (.isub, 1) := by decide +kernel
theorem dX2_dropOldest_22 : decode cX2_dropOldest 22 = .ok (.aload_n 0, 1) := by decide +kernel
theorem dX2_dropOldest_23 : decode cX2_dropOldest 23 = .ok (.getfield 11, 3) := by decide +kernel
theorem dX2_dropOldest_26 : decode cX2_dropOldest 26 = .ok (.iload_n 2, 1) := by decide +kernel
theorem dX2_dropOldest_27 : decode cX2_dropOldest 27 = .ok (.aaload, 1) := by decide +kernel
theorem dX2_dropOldest_28 : decode cX2_dropOldest 28 = .ok (.aastore, 1) := by decide +kernel
theorem dX2_dropOldest_29 : decode cX2_dropOldest 29 = .ok (.iinc 2 1, 3) := by decide +kernel
theorem dX2_dropOldest_32 : decode cX2_dropOldest 32 = .ok (.goto (-23), 3) := by decide +kernel
theorem dX2_dropOldest_35 : decode cX2_dropOldest 35 = .ok (.aload_n 0, 1) := by decide +kernel
theorem dX2_dropOldest_36 : decode cX2_dropOldest 36 = .ok (.getfield 11, 3) := by decide +kernel
theorem dX2_dropOldest_39 : decode cX2_dropOldest 39 = .ok (.iconst 5, 1) := by decide +kernel
theorem dX2_dropOldest_40 : decode cX2_dropOldest 40 = .ok (.aload_n 1, 1) := by decide +kernel
theorem dX2_dropOldest_41 : decode cX2_dropOldest 41 = .ok (.aastore, 1) := by decide +kernel
theorem dX2_dropOldest_42 : decode cX2_dropOldest 42 = .ok (.aload_n 0, 1) := by decide +kernel
theorem dX2_dropOldest_43 : decode cX2_dropOldest 43 = .ok (.iconst 5, 1) := by decide +kernel
theorem dX2_dropOldest_44 : decode cX2_dropOldest 44 = .ok (.putfield 18, 3) := by decide +kernel
theorem dX2_dropOldest_47 : decode cX2_dropOldest 47 = .ok (.return_, 1) := by decide +kernel
theorem dX2_popInto_0 : decode cX2_popInto 0 = .ok (.aload_n 0, 1) := by decide +kernel
theorem dX2_popInto_1 : decode cX2_popInto 1 = .ok (.getfield 18, 3) := by decide +kernel
theorem dX2_popInto_4 : decode cX2_popInto 4 = .ok (.ifCond .le 26, 3) := by decide +kernel
theorem dX2_popInto_7 : decode cX2_popInto 7 = .ok (.aload_n 0, 1) := by decide +kernel
theorem dX2_popInto_8 : decode cX2_popInto 8 = .ok (.dup, 1) := by decide +kernel
theorem dX2_popInto_9 : decode cX2_popInto 9 = .ok (.getfield 18, 3) := by decide +kernel
theorem dX2_popInto_12 : decode cX2_popInto 12 = .ok (.iconst 1, 1) := by decide +kernel
theorem dX2_popInto_13 : decode cX2_popInto 13 = .ok (.isub, 1) := by decide +kernel
theorem dX2_popInto_14 : decode cX2_popInto 14 = .ok (.putfield 18, 3) := by decide +kernel
theorem dX2_popInto_17 : decode cX2_popInto 17 = .ok (.aload_n 1, 1) := by decide +kernel
theorem dX2_popInto_18 : decode cX2_popInto 18 = .ok (.aload_n 0, 1) := by decide +kernel
theorem dX2_popInto_19 : decode cX2_popInto 19 = .ok (.getfield 11, 3) := by decide +kernel
theorem dX2_popInto_22 : decode cX2_popInto 22 = .ok (.aload_n 0, 1) := by decide +kernel
theorem dX2_popInto_23 : decode cX2_popInto 23 = .ok (.getfield 18, 3) := by decide +kernel
theorem dX2_popInto_26 : decode cX2_popInto 26 = .ok (.aaload, 1) := by decide +kernel
theorem dX2_popInto_27 : decode cX2_popInto 27 = .ok (.invokevirtual 25, 3) := by decide +kernel
theorem dX2_popInto_30 : decode cX2_popInto 30 = .ok (.aload_n 0, 1) := by decide +kernel
theorem dX2_popInto_31 : decode cX2_popInto 31 = .ok (.getfield 18, 3) := by decide +kernel
theorem dX2_popInto_34 : decode cX2_popInto 34 = .ok (.ireturn, 1) := by decide +kernel
theorem dX3_init_0 : decode cX3_init 0 = .ok (.aload_n 0, 1) := by decide +kernel
theorem dX3_init_1 : decode cX3_init 1 = .ok (.invokespecial 3, 3) := by decide +kernel
theorem dX3_init_4 : decode cX3_init 4 = .ok (.aload_n 0, 1) := by decide +kernel
theorem dX3_init_5 : decode cX3_init 5 = .ok (.bipush 6, 2) := by decide +kernel
theorem dX3_init_7 : decode cX3_init 7 = .ok (.anewarray 9, 3) := by decide +kernel
theorem dX3_init_10 : decode cX3_init 10 = .ok (.putfield 11, 3) := by decide +kernel
theorem dX3_init_13 : decode cX3_init 13 = .ok (.iconst 0, 1) := by decide +kernel
theorem dX3_init_14 : decode cX3_init 14 = .ok (.istore_n 1, 1) := by decide +kernel
theorem dX3_init_15 : decode cX3_init 15 = .ok (.iload_n 1, 1) := by decide +kernel
theorem dX3_init_16 : decode cX3_init 16 = .ok (.bipush 6, 2) := by decide +kernel
theorem dX3_init_18 : decode cX3_init 18 = .ok (.if_icmp .ge 22, 3) := by decide +kernel
theorem dX3_init_21 : decode cX3_init 21 = .ok (.aload_n 0, 1) := by decide +kernel
theorem dX3_init_22 : decode cX3_init 22 = .ok (.getfield 11, 3) := by decide +kernel
theorem dX3_init_25 : decode cX3_init 25 = .ok (.iload_n 1, 1) := by decide +kernel
theorem dX3_init_26 : decode cX3_init 26 = .ok (.new 9, 3) := by decide +kernel
theorem dX3_init_29 : decode cX3_init 29 = .ok (.dup, 1) := by decide +kernel
theorem dX3_init_30 : decode cX3_init 30 = .ok (.invokespecial 17, 3) := by decide +kernel
theorem dX3_init_33 : decode cX3_init 33 = .ok (.aastore, 1) := by decide +kernel
theorem dX3_init_34 : decode cX3_init 34 = .ok (.iinc 1 1, 3) := by decide +kernel
theorem dX3_init_37 : decode cX3_init 37 = .ok (.goto (-22), 3) := by decide +kernel
theorem dX3_init_40 : decode cX3_init 40 = .ok (.aload_n 0, 1) := by decide +kernel
theorem dX3_init_41 : decode cX3_init 41 = .ok (.bipush 12, 2) := by decide +kernel
theorem dX3_init_43 : decode cX3_init 43 = .ok (.putfield 18, 3) := by decide +kernel
theorem dX3_init_46 : decode cX3_init 46 = .ok (.aload_n 0, 1) := by decide +kernel
theorem dX3_init_47 : decode cX3_init 47 = .ok (.iconst (-1), 1) := by decide +kernel
theorem dX3_init_48 : decode cX3_init 48 = .ok (.putfield 22, 3) := by decide +kernel
theorem dX3_init_51 : decode cX3_init 51 = .ok (.aload_n 0, 1) := by decide +kernel
theorem dX3_init_52 : decode cX3_init 52 = .ok (.bipush 12, 2) := by decide +kernel
theorem dX3_init_54 : decode cX3_init 54 = .ok (.putfield 25, 3) := by decide +kernel
theorem dX3_init_57 : decode cX3_init 57 = .ok (.return_, 1) := by decide +kernel
theorem dX3_copyFrom_0 : decode cX3_copyFrom 0 = .ok (.iconst 0, 1) := by decide +kernel
theorem dX3_copyFrom_1 : decode cX3_copyFrom 1 = .ok (.istore_n 2, 1) := by decide +kernel
theorem dX3_copyFrom_2 : decode cX3_copyFrom 2 = .ok (.iload_n 2, 1) := by decide +kernel
theorem dX3_copyFrom_3 : decode cX3_copyFrom 3 = .ok (.bipush 6, 2) := by decide +kernel
theorem dX3_copyFrom_5 : decode cX3_copyFrom 5 = .ok (.if_icmp .ge 24, 3) := by decide +kernel
theorem dX3_copyFrom_8 : decode cX3_copyFrom 8 = .ok (.aload_n 0, 1) := by decide +kernel
theorem dX3_copyFrom_9 : decode cX3_copyFrom 9 = .ok (.getfield 11, 3) := by decide +kernel
theorem dX3_copyFrom_12 : decode cX3_copyFrom 12 = .ok (.iload_n 2, 1) := by decide +kernel
theorem dX3_copyFrom_13 : decode cX3_copyFrom 13 = .ok (.aaload, 1) := by decide +kernel
theorem dX3_copyFrom_14 : decode cX3_copyFrom 14 = .ok (.aload_n 1, 1) := by decide +kernel
theorem dX3_copyFrom_15 : decode cX3_copyFrom 15 = .ok (.getfield 11, 3) := by decide +kernel
theorem dX3_copyFrom_18 : decode cX3_copyFrom 18 = .ok (.iload_n 2, 1) := by decide +kernel
theorem dX3_copyFrom_19 : decode cX3_copyFrom 19 = .ok (.aaload, 1) := by decide +kernel
theorem dX3_copyFrom_20 : decode cX3_copyFrom 20 = .ok (.invokevirtual 28, 3) := by decide +kernel
theorem dX3_copyFrom_23 : decode cX3_copyFrom 23 = .ok (.iinc 2 1, 3) := by decide +kernel
theorem dX3_copyFrom_26 : decode cX3_copyFrom 26 = .ok (.goto (-24), 3) := by decide +kernel
theorem dX3_copyFrom_29 : decode cX3_copyFrom 29 = .ok (.aload_n 0, 1) := by decide +kernel
theorem dX3_copyFrom_30 : decode cX3_copyFrom 30 = .ok (.aload_n 1, 1) := by decide +kernel
theorem dX3_copyFrom_31 : decode cX3_copyFrom 31 = .ok (.getfield 32, 3) := by decide +kernel
theorem dX3_copyFrom_34 : decode cX3_copyFrom 34 = .ok (.putfield 32, 3) := by decide +kernel
theorem dX3_copyFrom_37 : decode cX3_copyFrom 37 = .ok (.aload_n 0, 1) := by decide +kernel
theorem dX3_copyFrom_38 : decode cX3_copyFrom 38 = .ok (.aload_n 1, 1) := by decide +kernel
theorem dX3_copyFrom_39 : decode cX3_copyFrom 39 = .ok (.getfield 18, 3) := by decide +kernel
theorem dX3_copyFrom_42 : decode cX3_copyFrom 42 = .ok (.putfield 18, 3) := by decide +kernel
theorem dX3_copyFrom_45 : decode cX3_copyFrom 45 = .ok (.aload_n 0, 1) := by decide +kernel
theorem dX3_copyFrom_46 : decode cX3_copyFrom 46 = .ok (.aload_n 1, 1) := by decide +kernel
theorem dX3_copyFrom_47 : decode cX3_copyFrom 47 = .ok (.getfield 35, 3) := by decide +kernel
theorem dX3_copyFrom_50 : decode cX3_copyFrom 50 = .ok (.putfield 35, 3) := by decide +kernel
theorem dX3_copyFrom_53 : decode cX3_copyFrom 53 = .ok (.aload_n 0, 1) := by decide +kernel
theorem dX3_copyFrom_54 : decode cX3_copyFrom 54 = .ok (.aload_n 1, 1) := by decide +kernel
theorem dX3_copyFrom_55 : decode cX3_copyFrom 55 = .ok (.getfield 38, 3) := by decide +kernel
theorem dX3_copyFrom_58 : decode cX3_copyFrom 58 = .ok (.putfield 38, 3) := by decide +kernel
theorem dX3_copyFrom_61 : decode cX3_copyFrom 61 = .ok (.aload_n 0, 1) := by decide +kernel
theorem dX3_copyFrom_62 : decode cX3_copyFrom 62 = .ok (.aload_n 1, 1) := by decide +kernel
theorem dX3_copyFrom_63 : decode cX3_copyFrom 63 = .ok (.getfield 41, 3) := by decide +kernel
theorem dX3_copyFrom_66 : decode cX3_copyFrom 66 = .ok (.putfield 41, 3) := by decide +kernel
theorem dX3_copyFrom_69 : decode cX3_copyFrom 69 = .ok (.aload_n 0, 1) := by decide +kernel
theorem dX3_copyFrom_70 : decode cX3_copyFrom 70 = .ok (.aload_n 1, 1) := by decide +kernel
theorem dX3_copyFrom_71 : decode cX3_copyFrom 71 = .ok (.getfield 44, 3) := by decide +kernel
theorem dX3_copyFrom_74 : decode cX3_copyFrom 74 = .ok (.putfield 44, 3) := by decide +kernel
theorem dX3_copyFrom_77 : decode cX3_copyFrom 77 = .ok (.aload_n 0, 1) := by decide +kernel
theorem dX3_copyFrom_78 : decode cX3_copyFrom 78 = .ok (.aload_n 1, 1) := by decide +kernel
theorem dX3_copyFrom_79 : decode cX3_copyFrom 79 = .ok (.getfield 22, 3) := by decide +kernel
theorem dX3_copyFrom_82 : decode cX3_copyFrom 82 = .ok (.putfield 22, 3) := by decide +kernel
theorem dX3_copyFrom_85 : decode cX3_copyFrom 85 = .ok (.aload_n 0, 1) := by decide +kernel
theorem dX3_copyFrom_86 : decode cX3_copyFrom 86 = .ok (.aload_n 1, 1) := by decide +kernel
theorem dX3_copyFrom_87 : decode cX3_copyFrom 87 = .ok (.getfield 47, 3) := by decide +kernel
theorem dX3_copyFrom_90 : decode cX3_copyFrom 90 = .ok (.putfield 47, 3) := by decide +kernel
theorem dX3_copyFrom_93 : decode cX3_copyFrom 93 = .ok (.aload_n 0, 1) := by decide +kernel
theorem dX3_copyFrom_94 : decode cX3_copyFrom 94 = .ok (.aload_n 1, 1) := by decide +kernel
theorem dX3_copyFrom_95 : decode cX3_copyFrom 95 = .ok (.getfield 25, 3) := by decide +kernel
theorem dX3_copyFrom_98 : decode cX3_copyFrom 98 = .ok (.putfield 25, 3) := by decide +kernel
theorem dX3_copyFrom_101 : decode cX3_copyFrom 101 = .ok (.return_, 1) := by decide +kernel
theorem dX3_roomAt_0 : decode cX3_roomAt 0 = .ok (.aload_n 0, 1) := by decide +kernel
theorem dX3_roomAt_1 : decode cX3_roomAt 1 = .ok (.getfield 11, 3) := by decide +kernel
theorem dX3_roomAt_4 : decode cX3_roomAt 4 = .ok (.iload_n 1, 1) := by decide +kernel
theorem dX3_roomAt_5 : decode cX3_roomAt 5 = .ok (.bipush 6, 2) := by decide +kernel
theorem dX3_roomAt_7 : decode cX3_roomAt 7 = .ok (.invokestatic 50, 3) := by decide +kernel
theorem dX3_roomAt_10 : decode cX3_roomAt 10 = .ok (.aaload, 1) := by decide +kernel
theorem dX3_roomAt_11 : decode cX3_roomAt 11 = .ok (.areturn, 1) := by decide +kernel
theorem dX3_candlesBurning_0 : decode cX3_candlesBurning 0 = .ok (.iconst 0, 1) := by decide +kernel
theorem dX3_candlesBurning_1 : decode cX3_candlesBurning 1 = .ok (.istore_n 1, 1) := by decide +kernel
theorem dX3_candlesBurning_2 : decode cX3_candlesBurning 2 = .ok (.iconst 0, 1) := by decide +kernel
theorem dX3_candlesBurning_3 : decode cX3_candlesBurning 3 = .ok (.istore_n 2, 1) := by decide +kernel
theorem dX3_candlesBurning_4 : decode cX3_candlesBurning 4 = .ok (.iload_n 2, 1) := by decide +kernel
theorem dX3_candlesBurning_5 : decode cX3_candlesBurning 5 = .ok (.bipush 6, 2) := by decide +kernel
theorem dX3_candlesBurning_7 : decode cX3_candlesBurning 7 = .ok (.if_icmp .ge 24, 3) := by decide +kernel
theorem dX3_candlesBurning_10 : decode cX3_candlesBurning 10 = .ok (.iload_n 1, 1) := by decide +kernel
theorem dX3_candlesBurning_11 : decode cX3_candlesBurning 11 = .ok (.aload_n 0, 1) := by decide +kernel
theorem dX3_candlesBurning_12 : decode cX3_candlesBurning 12 = .ok (.getfield 11, 3) := by decide +kernel
theorem dX3_candlesBurning_15 : decode cX3_candlesBurning 15 = .ok (.iload_n 2, 1) := by decide +kernel
theorem dX3_candlesBurning_16 : decode cX3_candlesBurning 16 = .ok (.aaload, 1) := by decide +kernel
theorem dX3_candlesBurning_17 : decode cX3_candlesBurning 17 = .ok (.getfield 56, 3) := by decide +kernel
theorem dX3_candlesBurning_20 : decode cX3_candlesBurning 20 = .ok (.invokestatic 60, 3) := by decide +kernel
theorem dX3_candlesBurning_23 : decode cX3_candlesBurning 23 = .ok (.iadd, 1) := by decide +kernel
theorem dX3_candlesBurning_24 : decode cX3_candlesBurning 24 = .ok (.istore_n 1, 1) := by decide +kernel
theorem dX3_candlesBurning_25 : decode cX3_candlesBurning 25 = .ok (.iinc 2 1, 3) := by decide +kernel
theorem dX3_candlesBurning_28 : decode cX3_candlesBurning 28 = .ok (.goto (-24), 3) := by decide +kernel
theorem dX3_candlesBurning_31 : decode cX3_candlesBurning 31 = .ok (.iload_n 1, 1) := by decide +kernel
theorem dX3_candlesBurning_32 : decode cX3_candlesBurning 32 = .ok (.ireturn, 1) := by decide +kernel
theorem dX3_candlesBurningFrom_0 : decode cX3_candlesBurningFrom 0 = .ok (.iconst 0, 1) := by decide +kernel
theorem dX3_candlesBurningFrom_1 : decode cX3_candlesBurningFrom 1 = .ok (.istore_n 3, 1) := by decide +kernel
theorem dX3_candlesBurningFrom_2 : decode cX3_candlesBurningFrom 2 = .ok (.iconst 0, 1) := by decide +kernel
theorem dX3_candlesBurningFrom_3 : decode cX3_candlesBurningFrom 3 = .ok (.istore 4, 2) := by decide +kernel
theorem dX3_candlesBurningFrom_5 : decode cX3_candlesBurningFrom 5 = .ok (.iload 4, 2) := by decide +kernel
theorem dX3_candlesBurningFrom_7 : decode cX3_candlesBurningFrom 7 = .ok (.iload_n 2, 1) := by decide +kernel
theorem dX3_candlesBurningFrom_8 : decode cX3_candlesBurningFrom 8 = .ok (.if_icmp .ge 26, 3) := by decide +kernel
theorem dX3_candlesBurningFrom_11 : decode cX3_candlesBurningFrom 11 = .ok (.iload_n 3, 1) := by decide +kernel
theorem dX3_candlesBurningFrom_12 : decode cX3_candlesBurningFrom 12 = .ok (.aload_n 0, 1) := by decide +kernel
theorem dX3_candlesBurningFrom_13 : decode cX3_candlesBurningFrom 13 = .ok (.iload_n 1, 1) := by decide +kernel
theorem dX3_candlesBurningFrom_14 : decode cX3_candlesBurningFrom 14 = .ok (.iload 4, 2) := by decide +kernel
theorem dX3_candlesBurningFrom_16 : decode cX3_candlesBurningFrom 16 = .ok (.iadd, 1) := by decide +kernel
theorem dX3_candlesBurningFrom_17 : decode cX3_candlesBurningFrom 17 = .ok (.invokevirtual 64, 3) := by decide +kernel
theorem dX3_candlesBurningFrom_20 : decode cX3_candlesBurningFrom 20 = .ok (.getfield 56, 3) := by decide +kernel
theorem dX3_candlesBurningFrom_23 : decode cX3_candlesBurningFrom 23 = .ok (.invokestatic 60, 3) := by decide +kernel
theorem dX3_candlesBurningFrom_26 : decode cX3_candlesBurningFrom 26 = .ok (.iadd, 1) := by decide +kernel
theorem dX3_candlesBurningFrom_27 : decode cX3_candlesBurningFrom 27 = .ok (.istore_n 3, 1) := by decide +kernel
theorem dX3_candlesBurningFrom_28 : decode cX3_candlesBurningFrom 28 = .ok (.iinc 4 1, 3) := by decide +kernel
theorem dX3_candlesBurningFrom_31 : decode cX3_candlesBurningFrom 31 = .ok (.goto (-26), 3) := by decide +kernel
theorem dX3_candlesBurningFrom_34 : decode cX3_candlesBurningFrom 34 = .ok (.iload_n 3, 1) := by decide +kernel
theorem dX3_candlesBurningFrom_35 : decode cX3_candlesBurningFrom 35 = .ok (.ireturn, 1) := by decide +kernel
theorem dX3_thingsInAll_0 : decode cX3_thingsInAll 0 = .ok (.iconst 0, 1) := by decide +kernel
theorem dX3_thingsInAll_1 : decode cX3_thingsInAll 1 = .ok (.istore_n 1, 1) := by decide +kernel
theorem dX3_thingsInAll_2 : decode cX3_thingsInAll 2 = .ok (.iconst 0, 1) := by decide +kernel
theorem dX3_thingsInAll_3 : decode cX3_thingsInAll 3 = .ok (.istore_n 2, 1) := by decide +kernel
theorem dX3_thingsInAll_4 : decode cX3_thingsInAll 4 = .ok (.iload_n 2, 1) := by decide +kernel
theorem dX3_thingsInAll_5 : decode cX3_thingsInAll 5 = .ok (.bipush 6, 2) := by decide +kernel
theorem dX3_thingsInAll_7 : decode cX3_thingsInAll 7 = .ok (.if_icmp .ge 21, 3) := by decide +kernel
theorem dX3_thingsInAll_10 : decode cX3_thingsInAll 10 = .ok (.iload_n 1, 1) := by decide +kernel
theorem dX3_thingsInAll_11 : decode cX3_thingsInAll 11 = .ok (.aload_n 0, 1) := by decide +kernel
theorem dX3_thingsInAll_12 : decode cX3_thingsInAll 12 = .ok (.getfield 11, 3) := by decide +kernel
theorem dX3_thingsInAll_15 : decode cX3_thingsInAll 15 = .ok (.iload_n 2, 1) := by decide +kernel
theorem dX3_thingsInAll_16 : decode cX3_thingsInAll 16 = .ok (.aaload, 1) := by decide +kernel
theorem dX3_thingsInAll_17 : decode cX3_thingsInAll 17 = .ok (.getfield 68, 3) := by decide +kernel
theorem dX3_thingsInAll_20 : decode cX3_thingsInAll 20 = .ok (.iadd, 1) := by decide +kernel
theorem dX3_thingsInAll_21 : decode cX3_thingsInAll 21 = .ok (.istore_n 1, 1) := by decide +kernel
theorem dX3_thingsInAll_22 : decode cX3_thingsInAll 22 = .ok (.iinc 2 1, 3) := by decide +kernel
theorem dX3_thingsInAll_25 : decode cX3_thingsInAll 25 = .ok (.goto (-21), 3) := by decide +kernel
theorem dX3_thingsInAll_28 : decode cX3_thingsInAll 28 = .ok (.iload_n 1, 1) := by decide +kernel
theorem dX3_thingsInAll_29 : decode cX3_thingsInAll 29 = .ok (.ireturn, 1) := by decide +kernel
theorem dX3_roomOf_0 : decode cX3_roomOf 0 = .ok (.iconst 0, 1) := by decide +kernel
theorem dX3_roomOf_1 : decode cX3_roomOf 1 = .ok (.istore_n 2, 1) := by decide +kernel
theorem dX3_roomOf_2 : decode cX3_roomOf 2 = .ok (.iload_n 2, 1) := by decide +kernel
theorem dX3_roomOf_3 : decode cX3_roomOf 3 = .ok (.bipush 6, 2) := by decide +kernel
theorem dX3_roomOf_5 : decode cX3_roomOf 5 = .ok (.if_icmp .ge 25, 3) := by decide +kernel
theorem dX3_roomOf_8 : decode cX3_roomOf 8 = .ok (.aload_n 0, 1) := by decide +kernel
theorem dX3_roomOf_9 : decode cX3_roomOf 9 = .ok (.getfield 11, 3) := by decide +kernel
theorem dX3_roomOf_12 : decode cX3_roomOf 12 = .ok (.iload_n 2, 1) := by decide +kernel
theorem dX3_roomOf_13 : decode cX3_roomOf 13 = .ok (.aaload, 1) := by decide +kernel
theorem dX3_roomOf_14 : decode cX3_roomOf 14 = .ok (.iload_n 1, 1) := by decide +kernel
theorem dX3_roomOf_15 : decode cX3_roomOf 15 = .ok (.invokevirtual 71, 3) := by decide +kernel
theorem dX3_roomOf_18 : decode cX3_roomOf 18 = .ok (.iconst (-1), 1) := by decide +kernel
theorem dX3_roomOf_19 : decode cX3_roomOf 19 = .ok (.if_icmp .eq 5, 3) := by decide +kernel
theorem dX3_roomOf_22 : decode cX3_roomOf 22 = .ok (.iload_n 2, 1) := by decide +kernel
theorem dX3_roomOf_23 : decode cX3_roomOf 23 = .ok (.ireturn, 1) := by decide +kernel
theorem dX3_roomOf_24 : decode cX3_roomOf 24 = .ok (.iinc 2 1, 3) := by decide +kernel
theorem dX3_roomOf_27 : decode cX3_roomOf 27 = .ok (.goto (-25), 3) := by decide +kernel
theorem dX3_roomOf_30 : decode cX3_roomOf 30 = .ok (.iconst (-1), 1) := by decide +kernel
theorem dX3_roomOf_31 : decode cX3_roomOf 31 = .ok (.ireturn, 1) := by decide +kernel
theorem dX3_thingNumber_0 : decode cX3_thingNumber 0 = .ok (.aload_n 0, 1) := by decide +kernel
theorem dX3_thingNumber_1 : decode cX3_thingNumber 1 = .ok (.iload_n 1, 1) := by decide +kernel
theorem dX3_thingNumber_2 : decode cX3_thingNumber 2 = .ok (.invokevirtual 75, 3) := by decide +kernel
theorem dX3_thingNumber_5 : decode cX3_thingNumber 5 = .ok (.istore_n 3, 1) := by decide +kernel
theorem dX3_thingNumber_6 : decode cX3_thingNumber 6 = .ok (.iload_n 3, 1) := by decide +kernel
theorem dX3_thingNumber_7 : decode cX3_thingNumber 7 = .ok (.iconst (-1), 1) := by decide +kernel
theorem dX3_thingNumber_8 : decode cX3_thingNumber 8 = .ok (.if_icmp .ne 5, 3) := by decide +kernel
theorem dX3_thingNumber_11 : decode cX3_thingNumber 11 = .ok (.iconst (-1), 1) := by decide +kernel
theorem dX3_thingNumber_12 : decode cX3_thingNumber 12 = .ok (.ireturn, 1) := by decide +kernel
theorem dX3_thingNumber_13 : decode cX3_thingNumber 13 = .ok (.aload_n 0, 1) := by decide +kernel
theorem dX3_thingNumber_14 : decode cX3_thingNumber 14 = .ok (.iload_n 3, 1) := by decide +kernel
theorem dX3_thingNumber_15 : decode cX3_thingNumber 15 = .ok (.invokevirtual 64, 3) := by decide +kernel
theorem dX3_thingNumber_18 : decode cX3_thingNumber 18 = .ok (.astore 4, 2) := by decide +kernel
theorem dX3_thingNumber_20 : decode cX3_thingNumber 20 = .ok (.aload 4, 2) := by decide +kernel
theorem dX3_thingNumber_22 : decode cX3_thingNumber 22 = .ok (.iload_n 1, 1) := by decide +kernel
theorem dX3_thingNumber_23 : decode cX3_thingNumber 23 = .ok (.invokevirtual 71, 3) := by decide +kernel
theorem dX3_thingNumber_26 : decode cX3_thingNumber 26 = .ok (.istore 5, 2) := by decide +kernel
theorem dX3_thingNumber_28 : decode cX3_thingNumber 28 = .ok (.iload_n 2, 1) := by decide +kernel
theorem dX3_thingNumber_29 : decode cX3_thingNumber 29 = .ok (.lookupswitch 37 #[(0, 27), (1, 29)], 27) := by decide +kernel
theorem dX3_thingNumber_56 : decode cX3_thingNumber 56 = .ok (.iload_n 3, 1) := by decide +kernel
theorem dX3_thingNumber_57 : decode cX3_thingNumber 57 = .ok (.ireturn, 1) := by decide +kernel
theorem dX3_thingNumber_58 : decode cX3_thingNumber 58 = .ok (.aload 4, 2) := by decide +kernel
theorem dX3_thingNumber_60 : decode cX3_thingNumber 60 = .ok (.iload 5, 2) := by decide +kernel
theorem dX3_thingNumber_62 : decode cX3_thingNumber 62 = .ok (.invokevirtual 78, 3) := by decide +kernel
theorem dX3_thingNumber_65 : decode cX3_thingNumber 65 = .ok (.ireturn, 1) := by decide +kernel
theorem dX3_thingNumber_66 : decode cX3_thingNumber 66 = .ok (.iload 5, 2) := by decide +kernel
theorem dX3_thingNumber_68 : decode cX3_thingNumber 68 = .ok (.ireturn, 1) := by decide +kernel
theorem dX3_canStrike_0 : decode cX3_canStrike 0 = .ok (.aload_n 0, 1) := by decide +kernel
theorem dX3_canStrike_1 : decode cX3_canStrike 1 = .ok (.invokevirtual 81, 3) := by decide +kernel
theorem dX3_canStrike_4 : decode cX3_canStrike 4 = .ok (.ifCond .ne 18, 3) := by decide +kernel
theorem dX3_canStrike_7 : decode cX3_canStrike 7 = .ok (.aload_n 0, 1) := by decide +kernel
theorem dX3_canStrike_8 : decode cX3_canStrike 8 = .ok (.iload_n 1, 1) := by decide +kernel
theorem dX3_canStrike_9 : decode cX3_canStrike 9 = .ok (.invokevirtual 64, 3) := by decide +kernel
theorem dX3_canStrike_12 : decode cX3_canStrike 12 = .ok (.getfield 85, 3) := by decide +kernel
theorem dX3_canStrike_15 : decode cX3_canStrike 15 = .ok (.ifCond .le 7, 3) := by decide +kernel
theorem dX3_canStrike_18 : decode cX3_canStrike 18 = .ok (.iconst 1, 1) := by decide +kernel
theorem dX3_canStrike_19 : decode cX3_canStrike 19 = .ok (.goto 4, 3) := by decide +kernel
theorem dX3_canStrike_22 : decode cX3_canStrike 22 = .ok (.iconst 0, 1) := by decide +kernel
theorem dX3_canStrike_23 : decode cX3_canStrike 23 = .ok (.ireturn, 1) := by decide +kernel
theorem dX3_canLight_0 : decode cX3_canLight 0 = .ok (.aload_n 0, 1) := by decide +kernel
theorem dX3_canLight_1 : decode cX3_canLight 1 = .ok (.iload_n 1, 1) := by decide +kernel
theorem dX3_canLight_2 : decode cX3_canLight 2 = .ok (.invokevirtual 64, 3) := by decide +kernel
theorem dX3_canLight_5 : decode cX3_canLight 5 = .ok (.astore_n 3, 1) := by decide +kernel
theorem dX3_canLight_6 : decode cX3_canLight 6 = .ok (.aload_n 3, 1) := by decide +kernel
theorem dX3_canLight_7 : decode cX3_canLight 7 = .ok (.getfield 56, 3) := by decide +kernel
theorem dX3_canLight_10 : decode cX3_canLight 10 = .ok (.ifCond .ne 34, 3) := by decide +kernel
theorem dX3_canLight_13 : decode cX3_canLight 13 = .ok (.aload_n 3, 1) := by decide +kernel
theorem dX3_canLight_14 : decode cX3_canLight 14 = .ok (.getfield 85, 3) := by decide +kernel
theorem dX3_canLight_17 : decode cX3_canLight 17 = .ok (.ifCond .le 27, 3) := by decide +kernel
theorem dX3_canLight_20 : decode cX3_canLight 20 = .ok (.aload_n 0, 1) := by decide +kernel
theorem dX3_canLight_21 : decode cX3_canLight 21 = .ok (.iload_n 2, 1) := by decide +kernel
theorem dX3_canLight_22 : decode cX3_canLight 22 = .ok (.invokevirtual 64, 3) := by decide +kernel
theorem dX3_canLight_25 : decode cX3_canLight 25 = .ok (.getfield 56, 3) := by decide +kernel
theorem dX3_canLight_28 : decode cX3_canLight 28 = .ok (.ifCond .eq 16, 3) := by decide +kernel
theorem dX3_canLight_31 : decode cX3_canLight 31 = .ok (.aload_n 0, 1) := by decide +kernel
theorem dX3_canLight_32 : decode cX3_canLight 32 = .ok (.iload_n 1, 1) := by decide +kernel
theorem dX3_canLight_33 : decode cX3_canLight 33 = .ok (.iload_n 2, 1) := by decide +kernel
theorem dX3_canLight_34 : decode cX3_canLight 34 = .ok (.invokevirtual 88, 3) := by decide +kernel
theorem dX3_canLight_37 : decode cX3_canLight 37 = .ok (.ifCond .eq 7, 3) := by decide +kernel
theorem dX3_canLight_40 : decode cX3_canLight 40 = .ok (.iconst 1, 1) := by decide +kernel
theorem dX3_canLight_41 : decode cX3_canLight 41 = .ok (.goto 4, 3) := by decide +kernel
theorem dX3_canLight_44 : decode cX3_canLight 44 = .ok (.iconst 0, 1) := by decide +kernel
theorem dX3_canLight_45 : decode cX3_canLight 45 = .ok (.ireturn, 1) := by decide +kernel
theorem dX3_areJoined_0 : decode cX3_areJoined 0 = .ok (.iload_n 2, 1) := by decide +kernel
theorem dX3_areJoined_1 : decode cX3_areJoined 1 = .ok (.iload_n 1, 1) := by decide +kernel
theorem dX3_areJoined_2 : decode cX3_areJoined 2 = .ok (.iconst 1, 1) := by decide +kernel
theorem dX3_areJoined_3 : decode cX3_areJoined 3 = .ok (.iadd, 1) := by decide +kernel
theorem dX3_areJoined_4 : decode cX3_areJoined 4 = .ok (.bipush 6, 2) := by decide +kernel
theorem dX3_areJoined_6 : decode cX3_areJoined 6 = .ok (.invokestatic 50, 3) := by decide +kernel
theorem dX3_areJoined_9 : decode cX3_areJoined 9 = .ok (.if_icmp .ne 12, 3) := by decide +kernel
theorem dX3_areJoined_12 : decode cX3_areJoined 12 = .ok (.aload_n 0, 1) := by decide +kernel
theorem dX3_areJoined_13 : decode cX3_areJoined 13 = .ok (.iload_n 1, 1) := by decide +kernel
theorem dX3_areJoined_14 : decode cX3_areJoined 14 = .ok (.invokevirtual 64, 3) := by decide +kernel
theorem dX3_areJoined_17 : decode cX3_areJoined 17 = .ok (.getfield 92, 3) := by decide +kernel
theorem dX3_areJoined_20 : decode cX3_areJoined 20 = .ok (.ireturn, 1) := by decide +kernel
theorem dX3_areJoined_21 : decode cX3_areJoined 21 = .ok (.iload_n 1, 1) := by decide +kernel
theorem dX3_areJoined_22 : decode cX3_areJoined 22 = .ok (.iload_n 2, 1) := by decide +kernel
theorem dX3_areJoined_23 : decode cX3_areJoined 23 = .ok (.iconst 1, 1) := by decide +kernel
theorem dX3_areJoined_24 : decode cX3_areJoined 24 = .ok (.iadd, 1) := by decide +kernel
theorem dX3_areJoined_25 : decode cX3_areJoined 25 = .ok (.bipush 6, 2) := by decide +kernel
theorem dX3_areJoined_27 : decode cX3_areJoined 27 = .ok (.invokestatic 50, 3) := by decide +kernel
theorem dX3_areJoined_30 : decode cX3_areJoined 30 = .ok (.if_icmp .ne 12, 3) := by decide +kernel
theorem dX3_areJoined_33 : decode cX3_areJoined 33 = .ok (.aload_n 0, 1) := by decide +kernel
theorem dX3_areJoined_34 : decode cX3_areJoined 34 = .ok (.iload_n 2, 1) := by decide +kernel
theorem dX3_areJoined_35 : decode cX3_areJoined 35 = .ok (.invokevirtual 64, 3) := by decide +kernel
theorem dX3_areJoined_38 : decode cX3_areJoined 38 = .ok (.getfield 92, 3) := by decide +kernel
theorem dX3_areJoined_41 : decode cX3_areJoined 41 = .ok (.ireturn, 1) := by decide +kernel
theorem dX3_areJoined_42 : decode cX3_areJoined 42 = .ok (.iconst 0, 1) := by decide +kernel
theorem dX3_areJoined_43 : decode cX3_areJoined 43 = .ok (.ireturn, 1) := by decide +kernel
theorem dX3_kindle_0 : decode cX3_kindle 0 = .ok (.aload_n 0, 1) := by decide +kernel
theorem dX3_kindle_1 : decode cX3_kindle 1 = .ok (.iload_n 1, 1) := by decide +kernel
theorem dX3_kindle_2 : decode cX3_kindle 2 = .ok (.invokevirtual 64, 3) := by decide +kernel
theorem dX3_kindle_5 : decode cX3_kindle 5 = .ok (.astore_n 2, 1) := by decide +kernel
theorem dX3_kindle_6 : decode cX3_kindle 6 = .ok (.aload_n 2, 1) := by decide +kernel
theorem dX3_kindle_7 : decode cX3_kindle 7 = .ok (.iconst 1, 1) := by decide +kernel
theorem dX3_kindle_8 : decode cX3_kindle 8 = .ok (.putfield 56, 3) := by decide +kernel
theorem dX3_kindle_11 : decode cX3_kindle 11 = .ok (.aload_n 2, 1) := by decide +kernel
theorem dX3_kindle_12 : decode cX3_kindle 12 = .ok (.getfield 85, 3) := by decide +kernel
theorem dX3_kindle_15 : decode cX3_kindle 15 = .ok (.ireturn, 1) := by decide +kernel
theorem dX3_strikeIfPossible_0 : decode cX3_strikeIfPossible 0 = .ok (.aload_n 0, 1) := by decide +kernel
theorem dX3_strikeIfPossible_1 : decode cX3_strikeIfPossible 1 = .ok (.iload_n 1, 1) := by decide +kernel
theorem dX3_strikeIfPossible_2 : decode cX3_strikeIfPossible 2 = .ok (.invokevirtual 95, 3) := by decide +kernel
theorem dX3_strikeIfPossible_5 : decode cX3_strikeIfPossible 5 = .ok (.ifCond .ne 5, 3) := by decide +kernel
theorem dX3_strikeIfPossible_8 : decode cX3_strikeIfPossible 8 = .ok (.iconst 0, 1) := by decide +kernel
theorem dX3_strikeIfPossible_9 : decode cX3_strikeIfPossible 9 = .ok (.ireturn, 1) := by decide +kernel
theorem dX3_strikeIfPossible_10 : decode cX3_strikeIfPossible 10 = .ok (.aload_n 0, 1) := by decide +kernel
theorem dX3_strikeIfPossible_11 : decode cX3_strikeIfPossible 11 = .ok (.iload_n 1, 1) := by decide +kernel
theorem dX3_strikeIfPossible_12 : decode cX3_strikeIfPossible 12 = .ok (.invokevirtual 99, 3) := by decide +kernel
theorem dX3_strikeIfPossible_15 : decode cX3_strikeIfPossible 15 = .ok (.pop, 1) := by decide +kernel
theorem dX3_strikeIfPossible_16 : decode cX3_strikeIfPossible 16 = .ok (.iconst 1, 1) := by decide +kernel
theorem dX3_strikeIfPossible_17 : decode cX3_strikeIfPossible 17 = .ok (.ireturn, 1) := by decide +kernel
theorem dX3_lightIfPossible_0 : decode cX3_lightIfPossible 0 = .ok (.aload_n 0, 1) := by decide +kernel
theorem dX3_lightIfPossible_1 : decode cX3_lightIfPossible 1 = .ok (.iload_n 1, 1) := by decide +kernel
theorem dX3_lightIfPossible_2 : decode cX3_lightIfPossible 2 = .ok (.iload_n 2, 1) := by decide +kernel
theorem dX3_lightIfPossible_3 : decode cX3_lightIfPossible 3 = .ok (.invokevirtual 102, 3) := by decide +kernel
theorem dX3_lightIfPossible_6 : decode cX3_lightIfPossible 6 = .ok (.ifCond .ne 5, 3) := by decide +kernel
theorem dX3_lightIfPossible_9 : decode cX3_lightIfPossible 9 = .ok (.iconst 0, 1) := by decide +kernel
theorem dX3_lightIfPossible_10 : decode cX3_lightIfPossible 10 = .ok (.ireturn, 1) := by decide +kernel
theorem dX3_lightIfPossible_11 : decode cX3_lightIfPossible 11 = .ok (.aload_n 0, 1) := by decide +kernel
theorem dX3_lightIfPossible_12 : decode cX3_lightIfPossible 12 = .ok (.iload_n 1, 1) := by decide +kernel
theorem dX3_lightIfPossible_13 : decode cX3_lightIfPossible 13 = .ok (.invokevirtual 99, 3) := by decide +kernel
theorem dX3_lightIfPossible_16 : decode cX3_lightIfPossible 16 = .ok (.pop, 1) := by decide +kernel
theorem dX3_lightIfPossible_17 : decode cX3_lightIfPossible 17 = .ok (.iconst 1, 1) := by decide +kernel
theorem dX3_lightIfPossible_18 : decode cX3_lightIfPossible 18 = .ok (.ireturn, 1) := by decide +kernel
theorem dX3_hasNewCandle_0 : decode cX3_hasNewCandle 0 = .ok (.aload_n 0, 1) := by decide +kernel
theorem dX3_hasNewCandle_1 : decode cX3_hasNewCandle 1 = .ok (.getfield 18, 3) := by decide +kernel
theorem dX3_hasNewCandle_4 : decode cX3_hasNewCandle 4 = .ok (.ifCond .le 7, 3) := by decide +kernel
theorem dX3_hasNewCandle_7 : decode cX3_hasNewCandle 7 = .ok (.iconst 1, 1) := by decide +kernel
theorem dX3_hasNewCandle_8 : decode cX3_hasNewCandle 8 = .ok (.goto 4, 3) := by decide +kernel
theorem dX3_hasNewCandle_11 : decode cX3_hasNewCandle 11 = .ok (.iconst 0, 1) := by decide +kernel
theorem dX3_hasNewCandle_12 : decode cX3_hasNewCandle 12 = .ok (.ireturn, 1) := by decide +kernel
theorem dX3_putNewCandle_0 : decode cX3_putNewCandle 0 = .ok (.aload_n 0, 1) := by decide +kernel
theorem dX3_putNewCandle_1 : decode cX3_putNewCandle 1 = .ok (.iload_n 1, 1) := by decide +kernel
theorem dX3_putNewCandle_2 : decode cX3_putNewCandle 2 = .ok (.invokevirtual 64, 3) := by decide +kernel
theorem dX3_putNewCandle_5 : decode cX3_putNewCandle 5 = .ok (.invokevirtual 105, 3) := by decide +kernel
theorem dX3_putNewCandle_8 : decode cX3_putNewCandle 8 = .ok (.aload_n 0, 1) := by decide +kernel
theorem dX3_putNewCandle_9 : decode cX3_putNewCandle 9 = .ok (.dup, 1) := by decide +kernel
theorem dX3_putNewCandle_10 : decode cX3_putNewCandle 10 = .ok (.getfield 18, 3) := by decide +kernel
theorem dX3_putNewCandle_13 : decode cX3_putNewCandle 13 = .ok (.iconst 1, 1) := by decide +kernel
theorem dX3_putNewCandle_14 : decode cX3_putNewCandle 14 = .ok (.isub, 1) := by decide +kernel
theorem dX3_putNewCandle_15 : decode cX3_putNewCandle 15 = .ok (.putfield 18, 3) := by decide +kernel
theorem dX3_putNewCandle_18 : decode cX3_putNewCandle 18 = .ok (.aload_n 0, 1) := by decide +kernel
theorem dX3_putNewCandle_19 : decode cX3_putNewCandle 19 = .ok (.getfield 18, 3) := by decide +kernel
theorem dX3_putNewCandle_22 : decode cX3_putNewCandle 22 = .ok (.ireturn, 1) := by decide +kernel
theorem dX3_renewIfPossible_0 : decode cX3_renewIfPossible 0 = .ok (.aload_n 0, 1) := by decide +kernel
theorem dX3_renewIfPossible_1 : decode cX3_renewIfPossible 1 = .ok (.invokevirtual 108, 3) := by decide +kernel
theorem dX3_renewIfPossible_4 : decode cX3_renewIfPossible 4 = .ok (.ifCond .ne 5, 3) := by decide +kernel
theorem dX3_renewIfPossible_7 : decode cX3_renewIfPossible 7 = .ok (.iconst 0, 1) := by decide +kernel
theorem dX3_renewIfPossible_8 : decode cX3_renewIfPossible 8 = .ok (.ireturn, 1) := by decide +kernel
theorem dX3_renewIfPossible_9 : decode cX3_renewIfPossible 9 = .ok (.aload_n 0, 1) := by decide +kernel
theorem dX3_renewIfPossible_10 : decode cX3_renewIfPossible 10 = .ok (.iload_n 1, 1) := by decide +kernel
theorem dX3_renewIfPossible_11 : decode cX3_renewIfPossible 11 = .ok (.invokevirtual 112, 3) := by decide +kernel
theorem dX3_renewIfPossible_14 : decode cX3_renewIfPossible 14 = .ok (.pop, 1) := by decide +kernel
theorem dX3_renewIfPossible_15 : decode cX3_renewIfPossible 15 = .ok (.iconst 1, 1) := by decide +kernel
theorem dX3_renewIfPossible_16 : decode cX3_renewIfPossible 16 = .ok (.ireturn, 1) := by decide +kernel
theorem dX3_canKeep_0 : decode cX3_canKeep 0 = .ok (.aload_n 0, 1) := by decide +kernel
theorem dX3_canKeep_1 : decode cX3_canKeep 1 = .ok (.iload_n 2, 1) := by decide +kernel
theorem dX3_canKeep_2 : decode cX3_canKeep 2 = .ok (.invokevirtual 75, 3) := by decide +kernel
theorem dX3_canKeep_5 : decode cX3_canKeep 5 = .ok (.iconst (-1), 1) := by decide +kernel
theorem dX3_canKeep_6 : decode cX3_canKeep 6 = .ok (.if_icmp .ne 19, 3) := by decide +kernel
theorem dX3_canKeep_9 : decode cX3_canKeep 9 = .ok (.aload_n 0, 1) := by decide +kernel
theorem dX3_canKeep_10 : decode cX3_canKeep 10 = .ok (.iload_n 1, 1) := by decide +kernel
theorem dX3_canKeep_11 : decode cX3_canKeep 11 = .ok (.invokevirtual 64, 3) := by decide +kernel
theorem dX3_canKeep_14 : decode cX3_canKeep 14 = .ok (.getfield 68, 3) := by decide +kernel
theorem dX3_canKeep_17 : decode cX3_canKeep 17 = .ok (.iconst 4, 1) := by decide +kernel
theorem dX3_canKeep_18 : decode cX3_canKeep 18 = .ok (.if_icmp .ge 7, 3) := by decide +kernel
theorem dX3_canKeep_21 : decode cX3_canKeep 21 = .ok (.iconst 1, 1) := by decide +kernel
theorem dX3_canKeep_22 : decode cX3_canKeep 22 = .ok (.goto 4, 3) := by decide +kernel
theorem dX3_canKeep_25 : decode cX3_canKeep 25 = .ok (.iconst 0, 1) := by decide +kernel
theorem dX3_canKeep_26 : decode cX3_canKeep 26 = .ok (.ireturn, 1) := by decide +kernel
theorem dX3_putThing_0 : decode cX3_putThing 0 = .ok (.aload_n 0, 1) := by decide +kernel
theorem dX3_putThing_1 : decode cX3_putThing 1 = .ok (.iload_n 1, 1) := by decide +kernel
theorem dX3_putThing_2 : decode cX3_putThing 2 = .ok (.invokevirtual 64, 3) := by decide +kernel
theorem dX3_putThing_5 : decode cX3_putThing 5 = .ok (.astore_n 3, 1) := by decide +kernel
theorem dX3_putThing_6 : decode cX3_putThing 6 = .ok (.aload_n 3, 1) := by decide +kernel
theorem dX3_putThing_7 : decode cX3_putThing 7 = .ok (.iload_n 2, 1) := by decide +kernel
theorem dX3_putThing_8 : decode cX3_putThing 8 = .ok (.invokevirtual 115, 3) := by decide +kernel
theorem dX3_putThing_11 : decode cX3_putThing 11 = .ok (.aload_n 3, 1) := by decide +kernel
theorem dX3_putThing_12 : decode cX3_putThing 12 = .ok (.getfield 68, 3) := by decide +kernel
theorem dX3_putThing_15 : decode cX3_putThing 15 = .ok (.ireturn, 1) := by decide +kernel
theorem dX3_keepIfPossible_0 : decode cX3_keepIfPossible 0 = .ok (.aload_n 0, 1) := by decide +kernel
theorem dX3_keepIfPossible_1 : decode cX3_keepIfPossible 1 = .ok (.iload_n 1, 1) := by decide +kernel
theorem dX3_keepIfPossible_2 : decode cX3_keepIfPossible 2 = .ok (.iload_n 2, 1) := by decide +kernel
theorem dX3_keepIfPossible_3 : decode cX3_keepIfPossible 3 = .ok (.invokevirtual 119, 3) := by decide +kernel
theorem dX3_keepIfPossible_6 : decode cX3_keepIfPossible 6 = .ok (.ifCond .ne 5, 3) := by decide +kernel
theorem dX3_keepIfPossible_9 : decode cX3_keepIfPossible 9 = .ok (.iconst 0, 1) := by decide +kernel
theorem dX3_keepIfPossible_10 : decode cX3_keepIfPossible 10 = .ok (.ireturn, 1) := by decide +kernel
theorem dX3_keepIfPossible_11 : decode cX3_keepIfPossible 11 = .ok (.aload_n 0, 1) := by decide +kernel
theorem dX3_keepIfPossible_12 : decode cX3_keepIfPossible 12 = .ok (.iload_n 1, 1) := by decide +kernel
theorem dX3_keepIfPossible_13 : decode cX3_keepIfPossible 13 = .ok (.iload_n 2, 1) := by decide +kernel
theorem dX3_keepIfPossible_14 : decode cX3_keepIfPossible 14 = .ok (.invokevirtual 122, 3) := by decide +kernel
theorem dX3_keepIfPossible_17 : decode cX3_keepIfPossible 17 = .ok (.pop, 1) := by decide +kernel
theorem dX3_keepIfPossible_18 : decode cX3_keepIfPossible 18 = .ok (.iconst 1, 1) := by decide +kernel
theorem dX3_keepIfPossible_19 : decode cX3_keepIfPossible 19 = .ok (.ireturn, 1) := by decide +kernel
theorem dX3_beginDraught_0 : decode cX3_beginDraught 0 = .ok (.aload_n 0, 1) := by decide +kernel
theorem dX3_beginDraught_1 : decode cX3_beginDraught 1 = .ok (.iload_n 1, 1) := by decide +kernel
theorem dX3_beginDraught_2 : decode cX3_beginDraught 2 = .ok (.putfield 22, 3) := by decide +kernel
theorem dX3_beginDraught_5 : decode cX3_beginDraught 5 = .ok (.aload_n 0, 1) := by decide +kernel
theorem dX3_beginDraught_6 : decode cX3_beginDraught 6 = .ok (.iload_n 2, 1) := by decide +kernel
theorem dX3_beginDraught_7 : decode cX3_beginDraught 7 = .ok (.putfield 47, 3) := by decide +kernel
theorem dX3_beginDraught_10 : decode cX3_beginDraught 10 = .ok (.aload_n 0, 1) := by decide +kernel
theorem dX3_beginDraught_11 : decode cX3_beginDraught 11 = .ok (.iload_n 1, 1) := by decide +kernel
theorem dX3_beginDraught_12 : decode cX3_beginDraught 12 = .ok (.aload_n 0, 1) := by decide +kernel
theorem dX3_beginDraught_13 : decode cX3_beginDraught 13 = .ok (.invokevirtual 125, 3) := by decide +kernel
theorem dX3_beginDraught_16 : decode cX3_beginDraught 16 = .ok (.invokevirtual 128, 3) := by decide +kernel
theorem dX3_beginDraught_19 : decode cX3_beginDraught 19 = .ok (.ireturn, 1) := by decide +kernel
theorem dX3_roomsBlown_0 : decode cX3_roomsBlown 0 = .ok (.iconst 0, 1) := by decide +kernel
theorem dX3_roomsBlown_1 : decode cX3_roomsBlown 1 = .ok (.istore_n 1, 1) := by decide +kernel
theorem dX3_roomsBlown_2 : decode cX3_roomsBlown 2 = .ok (.iload_n 1, 1) := by decide +kernel
theorem dX3_roomsBlown_3 : decode cX3_roomsBlown 3 = .ok (.aload_n 0, 1) := by decide +kernel
theorem dX3_roomsBlown_4 : decode cX3_roomsBlown 4 = .ok (.getfield 47, 3) := by decide +kernel
theorem dX3_roomsBlown_7 : decode cX3_roomsBlown 7 = .ok (.if_icmp .ge 40, 3) := by decide +kernel
theorem dX3_roomsBlown_10 : decode cX3_roomsBlown 10 = .ok (.aload_n 0, 1) := by decide +kernel
theorem dX3_roomsBlown_11 : decode cX3_roomsBlown 11 = .ok (.aload_n 0, 1) := by decide +kernel
theorem dX3_roomsBlown_12 : decode cX3_roomsBlown 12 = .ok (.getfield 22, 3) := by decide +kernel
theorem dX3_roomsBlown_15 : decode cX3_roomsBlown 15 = .ok (.iload_n 1, 1) := by decide +kernel
theorem dX3_roomsBlown_16 : decode cX3_roomsBlown 16 = .ok (.iadd, 1) := by decide +kernel
theorem dX3_roomsBlown_17 : decode cX3_roomsBlown 17 = .ok (.invokevirtual 64, 3) := by decide +kernel
theorem dX3_roomsBlown_20 : decode cX3_roomsBlown 20 = .ok (.astore_n 2, 1) := by decide +kernel
theorem dX3_roomsBlown_21 : decode cX3_roomsBlown 21 = .ok (.aload_n 2, 1) := by decide +kernel
theorem dX3_roomsBlown_22 : decode cX3_roomsBlown 22 = .ok (.getfield 131, 3) := by decide +kernel
theorem dX3_roomsBlown_25 : decode cX3_roomsBlown 25 = .ok (.ifCond .eq 5, 3) := by decide +kernel
theorem dX3_roomsBlown_28 : decode cX3_roomsBlown 28 = .ok (.iload_n 1, 1) := by decide +kernel
theorem dX3_roomsBlown_29 : decode cX3_roomsBlown 29 = .ok (.ireturn, 1) := by decide +kernel
theorem dX3_roomsBlown_30 : decode cX3_roomsBlown 30 = .ok (.aload_n 2, 1) := by decide +kernel
theorem dX3_roomsBlown_31 : decode cX3_roomsBlown 31 = .ok (.getfield 92, 3) := by decide +kernel
theorem dX3_roomsBlown_34 : decode cX3_roomsBlown 34 = .ok (.ifCond .ne 7, 3) := by decide +kernel
theorem dX3_roomsBlown_37 : decode cX3_roomsBlown 37 = .ok (.iload_n 1, 1) := by decide +kernel
theorem dX3_roomsBlown_38 : decode cX3_roomsBlown 38 = .ok (.iconst 1, 1) := by decide +kernel
theorem dX3_roomsBlown_39 : decode cX3_roomsBlown 39 = .ok (.iadd, 1) := by decide +kernel
theorem dX3_roomsBlown_40 : decode cX3_roomsBlown 40 = .ok (.ireturn, 1) := by decide +kernel
theorem dX3_roomsBlown_41 : decode cX3_roomsBlown 41 = .ok (.iinc 1 1, 3) := by decide +kernel
theorem dX3_roomsBlown_44 : decode cX3_roomsBlown 44 = .ok (.goto (-42), 3) := by decide +kernel
theorem dX3_roomsBlown_47 : decode cX3_roomsBlown 47 = .ok (.aload_n 0, 1) := by decide +kernel
theorem dX3_roomsBlown_48 : decode cX3_roomsBlown 48 = .ok (.getfield 47, 3) := by decide +kernel
theorem dX3_roomsBlown_51 : decode cX3_roomsBlown 51 = .ok (.ireturn, 1) := by decide +kernel
theorem dX3_isInDraught_0 : decode cX3_isInDraught 0 = .ok (.iload_n 1, 1) := by decide +kernel
theorem dX3_isInDraught_1 : decode cX3_isInDraught 1 = .ok (.aload_n 0, 1) := by decide +kernel
theorem dX3_isInDraught_2 : decode cX3_isInDraught 2 = .ok (.getfield 22, 3) := by decide +kernel
theorem dX3_isInDraught_5 : decode cX3_isInDraught 5 = .ok (.isub, 1) := by decide +kernel
theorem dX3_isInDraught_6 : decode cX3_isInDraught 6 = .ok (.bipush 6, 2) := by decide +kernel
theorem dX3_isInDraught_8 : decode cX3_isInDraught 8 = .ok (.invokestatic 50, 3) := by decide +kernel
theorem dX3_isInDraught_11 : decode cX3_isInDraught 11 = .ok (.aload_n 0, 1) := by decide +kernel
theorem dX3_isInDraught_12 : decode cX3_isInDraught 12 = .ok (.invokevirtual 125, 3) := by decide +kernel
theorem dX3_isInDraught_15 : decode cX3_isInDraught 15 = .ok (.if_icmp .ge 7, 3) := by decide +kernel
theorem dX3_isInDraught_18 : decode cX3_isInDraught 18 = .ok (.iconst 1, 1) := by decide +kernel
theorem dX3_isInDraught_19 : decode cX3_isInDraught 19 = .ok (.goto 4, 3) := by decide +kernel
theorem dX3_isInDraught_22 : decode cX3_isInDraught 22 = .ok (.iconst 0, 1) := by decide +kernel
theorem dX3_isInDraught_23 : decode cX3_isInDraught 23 = .ok (.ireturn, 1) := by decide +kernel
theorem dX3_blow_0 : decode cX3_blow 0 = .ok (.aload_n 0, 1) := by decide +kernel
theorem dX3_blow_1 : decode cX3_blow 1 = .ok (.invokevirtual 125, 3) := by decide +kernel
theorem dX3_blow_4 : decode cX3_blow 4 = .ok (.istore_n 1, 1) := by decide +kernel
theorem dX3_blow_5 : decode cX3_blow 5 = .ok (.aload_n 0, 1) := by decide +kernel
theorem dX3_blow_6 : decode cX3_blow 6 = .ok (.dup, 1) := by decide +kernel
theorem dX3_blow_7 : decode cX3_blow 7 = .ok (.getfield 44, 3) := by decide +kernel
theorem dX3_blow_10 : decode cX3_blow 10 = .ok (.aload_n 0, 1) := by decide +kernel
theorem dX3_blow_11 : decode cX3_blow 11 = .ok (.aload_n 0, 1) := by decide +kernel
theorem dX3_blow_12 : decode cX3_blow 12 = .ok (.getfield 22, 3) := by decide +kernel
theorem dX3_blow_15 : decode cX3_blow 15 = .ok (.iload_n 1, 1) := by decide +kernel
theorem dX3_blow_16 : decode cX3_blow 16 = .ok (.invokevirtual 128, 3) := by decide +kernel
theorem dX3_blow_19 : decode cX3_blow 19 = .ok (.iadd, 1) := by decide +kernel
theorem dX3_blow_20 : decode cX3_blow 20 = .ok (.putfield 44, 3) := by decide +kernel
theorem dX3_blow_23 : decode cX3_blow 23 = .ok (.iconst 0, 1) := by decide +kernel
theorem dX3_blow_24 : decode cX3_blow 24 = .ok (.istore_n 2, 1) := by decide +kernel
theorem dX3_blow_25 : decode cX3_blow 25 = .ok (.iload_n 2, 1) := by decide +kernel
theorem dX3_blow_26 : decode cX3_blow 26 = .ok (.iload_n 1, 1) := by decide +kernel
theorem dX3_blow_27 : decode cX3_blow 27 = .ok (.if_icmp .ge 23, 3) := by decide +kernel
theorem dX3_blow_30 : decode cX3_blow 30 = .ok (.aload_n 0, 1) := by decide +kernel
theorem dX3_blow_31 : decode cX3_blow 31 = .ok (.aload_n 0, 1) := by decide +kernel
theorem dX3_blow_32 : decode cX3_blow 32 = .ok (.getfield 22, 3) := by decide +kernel
theorem dX3_blow_35 : decode cX3_blow 35 = .ok (.iload_n 2, 1) := by decide +kernel
theorem dX3_blow_36 : decode cX3_blow 36 = .ok (.iadd, 1) := by decide +kernel
theorem dX3_blow_37 : decode cX3_blow 37 = .ok (.invokevirtual 64, 3) := by decide +kernel
theorem dX3_blow_40 : decode cX3_blow 40 = .ok (.iconst 0, 1) := by decide +kernel
theorem dX3_blow_41 : decode cX3_blow 41 = .ok (.putfield 56, 3) := by decide +kernel
theorem dX3_blow_44 : decode cX3_blow 44 = .ok (.iinc 2 1, 3) := by decide +kernel
theorem dX3_blow_47 : decode cX3_blow 47 = .ok (.goto (-22), 3) := by decide +kernel
theorem dX3_blow_50 : decode cX3_blow 50 = .ok (.aload_n 0, 1) := by decide +kernel
theorem dX3_blow_51 : decode cX3_blow 51 = .ok (.iconst (-1), 1) := by decide +kernel
theorem dX3_blow_52 : decode cX3_blow 52 = .ok (.putfield 22, 3) := by decide +kernel
theorem dX3_blow_55 : decode cX3_blow 55 = .ok (.aload_n 0, 1) := by decide +kernel
theorem dX3_blow_56 : decode cX3_blow 56 = .ok (.iconst 0, 1) := by decide +kernel
theorem dX3_blow_57 : decode cX3_blow 57 = .ok (.putfield 47, 3) := by decide +kernel
theorem dX3_blow_60 : decode cX3_blow 60 = .ok (.return_, 1) := by decide +kernel
theorem dX3_passBeats_0 : decode cX3_passBeats 0 = .ok (.iconst 0, 1) := by decide +kernel
theorem dX3_passBeats_1 : decode cX3_passBeats 1 = .ok (.istore_n 2, 1) := by decide +kernel
theorem dX3_passBeats_2 : decode cX3_passBeats 2 = .ok (.iconst 0, 1) := by decide +kernel
theorem dX3_passBeats_3 : decode cX3_passBeats 3 = .ok (.istore_n 3, 1) := by decide +kernel
theorem dX3_passBeats_4 : decode cX3_passBeats 4 = .ok (.iload_n 3, 1) := by decide +kernel
theorem dX3_passBeats_5 : decode cX3_passBeats 5 = .ok (.iload_n 1, 1) := by decide +kernel
theorem dX3_passBeats_6 : decode cX3_passBeats 6 = .ok (.if_icmp .ge 16, 3) := by decide +kernel
theorem dX3_passBeats_9 : decode cX3_passBeats 9 = .ok (.iload_n 2, 1) := by decide +kernel
theorem dX3_passBeats_10 : decode cX3_passBeats 10 = .ok (.aload_n 0, 1) := by decide +kernel
theorem dX3_passBeats_11 : decode cX3_passBeats 11 = .ok (.invokevirtual 134, 3) := by decide +kernel
theorem dX3_passBeats_14 : decode cX3_passBeats 14 = .ok (.iadd, 1) := by decide +kernel
theorem dX3_passBeats_15 : decode cX3_passBeats 15 = .ok (.istore_n 2, 1) := by decide +kernel
theorem dX3_passBeats_16 : decode cX3_passBeats 16 = .ok (.iinc 3 1, 3) := by decide +kernel
theorem dX3_passBeats_19 : decode cX3_passBeats 19 = .ok (.goto (-15), 3) := by decide +kernel
theorem dX3_passBeats_22 : decode cX3_passBeats 22 = .ok (.iload_n 2, 1) := by decide +kernel
theorem dX3_passBeats_23 : decode cX3_passBeats 23 = .ok (.ireturn, 1) := by decide +kernel
theorem dX3_passBeat_0 : decode cX3_passBeat 0 = .ok (.iconst 0, 1) := by decide +kernel
theorem dX3_passBeat_1 : decode cX3_passBeat 1 = .ok (.istore_n 1, 1) := by decide +kernel
theorem dX3_passBeat_2 : decode cX3_passBeat 2 = .ok (.iload_n 1, 1) := by decide +kernel
theorem dX3_passBeat_3 : decode cX3_passBeat 3 = .ok (.bipush 6, 2) := by decide +kernel
theorem dX3_passBeat_5 : decode cX3_passBeat 5 = .ok (.if_icmp .ge 18, 3) := by decide +kernel
theorem dX3_passBeat_8 : decode cX3_passBeat 8 = .ok (.aload_n 0, 1) := by decide +kernel
theorem dX3_passBeat_9 : decode cX3_passBeat 9 = .ok (.getfield 11, 3) := by decide +kernel
theorem dX3_passBeat_12 : decode cX3_passBeat 12 = .ok (.iload_n 1, 1) := by decide +kernel
theorem dX3_passBeat_13 : decode cX3_passBeat 13 = .ok (.aaload, 1) := by decide +kernel
theorem dX3_passBeat_14 : decode cX3_passBeat 14 = .ok (.invokevirtual 137, 3) := by decide +kernel
theorem dX3_passBeat_17 : decode cX3_passBeat 17 = .ok (.iinc 1 1, 3) := by decide +kernel
theorem dX3_passBeat_20 : decode cX3_passBeat 20 = .ok (.goto (-18), 3) := by decide +kernel
theorem dX3_passBeat_23 : decode cX3_passBeat 23 = .ok (.aload_n 0, 1) := by decide +kernel
theorem dX3_passBeat_24 : decode cX3_passBeat 24 = .ok (.invokevirtual 140, 3) := by decide +kernel
theorem dX3_passBeat_27 : decode cX3_passBeat 27 = .ok (.iconst 0, 1) := by decide +kernel
theorem dX3_passBeat_28 : decode cX3_passBeat 28 = .ok (.istore_n 1, 1) := by decide +kernel
theorem dX3_passBeat_29 : decode cX3_passBeat 29 = .ok (.iconst 0, 1) := by decide +kernel
theorem dX3_passBeat_30 : decode cX3_passBeat 30 = .ok (.istore_n 2, 1) := by decide +kernel
theorem dX3_passBeat_31 : decode cX3_passBeat 31 = .ok (.iload_n 2, 1) := by decide +kernel
theorem dX3_passBeat_32 : decode cX3_passBeat 32 = .ok (.bipush 6, 2) := by decide +kernel
theorem dX3_passBeat_34 : decode cX3_passBeat 34 = .ok (.if_icmp .ge 25, 3) := by decide +kernel
theorem dX3_passBeat_37 : decode cX3_passBeat 37 = .ok (.iload_n 1, 1) := by decide +kernel
theorem dX3_passBeat_38 : decode cX3_passBeat 38 = .ok (.aload_n 0, 1) := by decide +kernel
theorem dX3_passBeat_39 : decode cX3_passBeat 39 = .ok (.getfield 11, 3) := by decide +kernel
theorem dX3_passBeat_42 : decode cX3_passBeat 42 = .ok (.iload_n 2, 1) := by decide +kernel
theorem dX3_passBeat_43 : decode cX3_passBeat 43 = .ok (.aaload, 1) := by decide +kernel
theorem dX3_passBeat_44 : decode cX3_passBeat 44 = .ok (.aload_n 0, 1) := by decide +kernel
theorem dX3_passBeat_45 : decode cX3_passBeat 45 = .ok (.getfield 25, 3) := by decide +kernel
theorem dX3_passBeat_48 : decode cX3_passBeat 48 = .ok (.invokevirtual 143, 3) := by decide +kernel
theorem dX3_passBeat_51 : decode cX3_passBeat 51 = .ok (.iadd, 1) := by decide +kernel
theorem dX3_passBeat_52 : decode cX3_passBeat 52 = .ok (.istore_n 1, 1) := by decide +kernel
theorem dX3_passBeat_53 : decode cX3_passBeat 53 = .ok (.iinc 2 1, 3) := by decide +kernel
theorem dX3_passBeat_56 : decode cX3_passBeat 56 = .ok (.goto (-25), 3) := by decide +kernel
theorem dX3_passBeat_59 : decode cX3_passBeat 59 = .ok (.aload_n 0, 1) := by decide +kernel
theorem dX3_passBeat_60 : decode cX3_passBeat 60 = .ok (.dup, 1) := by decide +kernel
theorem dX3_passBeat_61 : decode cX3_passBeat 61 = .ok (.getfield 35, 3) := by decide +kernel
theorem dX3_passBeat_64 : decode cX3_passBeat 64 = .ok (.iload_n 1, 1) := by decide +kernel
theorem dX3_passBeat_65 : decode cX3_passBeat 65 = .ok (.iadd, 1) := by decide +kernel
theorem dX3_passBeat_66 : decode cX3_passBeat 66 = .ok (.putfield 35, 3) := by decide +kernel
theorem dX3_passBeat_69 : decode cX3_passBeat 69 = .ok (.aload_n 0, 1) := by decide +kernel
theorem dX3_passBeat_70 : decode cX3_passBeat 70 = .ok (.dup, 1) := by decide +kernel
theorem dX3_passBeat_71 : decode cX3_passBeat 71 = .ok (.getfield 32, 3) := by decide +kernel
theorem dX3_passBeat_74 : decode cX3_passBeat 74 = .ok (.iconst 1, 1) := by decide +kernel
theorem dX3_passBeat_75 : decode cX3_passBeat 75 = .ok (.iadd, 1) := by decide +kernel
theorem dX3_passBeat_76 : decode cX3_passBeat 76 = .ok (.putfield 32, 3) := by decide +kernel
theorem dX3_passBeat_79 : decode cX3_passBeat 79 = .ok (.iload_n 1, 1) := by decide +kernel
theorem dX3_passBeat_80 : decode cX3_passBeat 80 = .ok (.ireturn, 1) := by decide +kernel
theorem dX3_readThing_0 : decode cX3_readThing 0 = .ok (.aload_n 0, 1) := by decide +kernel
theorem dX3_readThing_1 : decode cX3_readThing 1 = .ok (.iload_n 1, 1) := by decide +kernel
theorem dX3_readThing_2 : decode cX3_readThing 2 = .ok (.invokevirtual 75, 3) := by decide +kernel
theorem dX3_readThing_5 : decode cX3_readThing 5 = .ok (.istore_n 2, 1) := by decide +kernel
theorem dX3_readThing_6 : decode cX3_readThing 6 = .ok (.iload_n 2, 1) := by decide +kernel
theorem dX3_readThing_7 : decode cX3_readThing 7 = .ok (.iconst (-1), 1) := by decide +kernel
theorem dX3_readThing_8 : decode cX3_readThing 8 = .ok (.if_icmp .ne 5, 3) := by decide +kernel
theorem dX3_readThing_11 : decode cX3_readThing 11 = .ok (.iconst (-1), 1) := by decide +kernel
theorem dX3_readThing_12 : decode cX3_readThing 12 = .ok (.ireturn, 1) := by decide +kernel
theorem dX3_readThing_13 : decode cX3_readThing 13 = .ok (.aload_n 0, 1) := by decide +kernel
theorem dX3_readThing_14 : decode cX3_readThing 14 = .ok (.iload_n 2, 1) := by decide +kernel
theorem dX3_readThing_15 : decode cX3_readThing 15 = .ok (.invokevirtual 64, 3) := by decide +kernel
theorem dX3_readThing_18 : decode cX3_readThing 18 = .ok (.astore_n 3, 1) := by decide +kernel
theorem dX3_readThing_19 : decode cX3_readThing 19 = .ok (.aload_n 0, 1) := by decide +kernel
theorem dX3_readThing_20 : decode cX3_readThing 20 = .ok (.dup, 1) := by decide +kernel
theorem dX3_readThing_21 : decode cX3_readThing 21 = .ok (.getfield 38, 3) := by decide +kernel
theorem dX3_readThing_24 : decode cX3_readThing 24 = .ok (.iconst 1, 1) := by decide +kernel
theorem dX3_readThing_25 : decode cX3_readThing 25 = .ok (.iadd, 1) := by decide +kernel
theorem dX3_readThing_26 : decode cX3_readThing 26 = .ok (.putfield 38, 3) := by decide +kernel
theorem dX3_readThing_29 : decode cX3_readThing 29 = .ok (.aload_n 3, 1) := by decide +kernel
theorem dX3_readThing_30 : decode cX3_readThing 30 = .ok (.getfield 56, 3) := by decide +kernel
theorem dX3_readThing_33 : decode cX3_readThing 33 = .ok (.ifCond .eq 17, 3) := by decide +kernel
theorem dX3_readThing_36 : decode cX3_readThing 36 = .ok (.aload_n 3, 1) := by decide +kernel
theorem dX3_readThing_37 : decode cX3_readThing 37 = .ok (.iconst 0, 1) := by decide +kernel
theorem dX3_readThing_38 : decode cX3_readThing 38 = .ok (.putfield 146, 3) := by decide +kernel
theorem dX3_readThing_41 : decode cX3_readThing 41 = .ok (.aload_n 0, 1) := by decide +kernel
theorem dX3_readThing_42 : decode cX3_readThing 42 = .ok (.iconst 1, 1) := by decide +kernel
theorem dX3_readThing_43 : decode cX3_readThing 43 = .ok (.invokevirtual 149, 3) := by decide +kernel
theorem dX3_readThing_46 : decode cX3_readThing 46 = .ok (.pop, 1) := by decide +kernel
theorem dX3_readThing_47 : decode cX3_readThing 47 = .ok (.goto 19, 3) := by decide +kernel
theorem dX3_readThing_50 : decode cX3_readThing 50 = .ok (.aload_n 0, 1) := by decide +kernel
theorem dX3_readThing_51 : decode cX3_readThing 51 = .ok (.dup, 1) := by decide +kernel
theorem dX3_readThing_52 : decode cX3_readThing 52 = .ok (.getfield 41, 3) := by decide +kernel
theorem dX3_readThing_55 : decode cX3_readThing 55 = .ok (.iconst 1, 1) := by decide +kernel
theorem dX3_readThing_56 : decode cX3_readThing 56 = .ok (.iadd, 1) := by decide +kernel
theorem dX3_readThing_57 : decode cX3_readThing 57 = .ok (.putfield 41, 3) := by decide +kernel
theorem dX3_readThing_60 : decode cX3_readThing 60 = .ok (.aload_n 0, 1) := by decide +kernel
theorem dX3_readThing_61 : decode cX3_readThing 61 = .ok (.iconst 3, 1) := by decide +kernel
theorem dX3_readThing_62 : decode cX3_readThing 62 = .ok (.invokevirtual 149, 3) := by decide +kernel
theorem dX3_readThing_65 : decode cX3_readThing 65 = .ok (.pop, 1) := by decide +kernel
theorem dX3_readThing_66 : decode cX3_readThing 66 = .ok (.iload_n 2, 1) := by decide +kernel
theorem dX3_readThing_67 : decode cX3_readThing 67 = .ok (.ireturn, 1) := by decide +kernel
theorem dX3_beatsLit_0 : decode cX3_beatsLit 0 = .ok (.aload_n 0, 1) := by decide +kernel
theorem dX3_beatsLit_1 : decode cX3_beatsLit 1 = .ok (.iload_n 1, 1) := by decide +kernel
theorem dX3_beatsLit_2 : decode cX3_beatsLit 2 = .ok (.invokevirtual 64, 3) := by decide +kernel
theorem dX3_beatsLit_5 : decode cX3_beatsLit 5 = .ok (.astore_n 2, 1) := by decide +kernel
theorem dX3_beatsLit_6 : decode cX3_beatsLit 6 = .ok (.aload_n 2, 1) := by decide +kernel
theorem dX3_beatsLit_7 : decode cX3_beatsLit 7 = .ok (.getfield 56, 3) := by decide +kernel
theorem dX3_beatsLit_10 : decode cX3_beatsLit 10 = .ok (.ifCond .ne 5, 3) := by decide +kernel
theorem dX3_beatsLit_13 : decode cX3_beatsLit 13 = .ok (.iconst 0, 1) := by decide +kernel
theorem dX3_beatsLit_14 : decode cX3_beatsLit 14 = .ok (.ireturn, 1) := by decide +kernel
theorem dX3_beatsLit_15 : decode cX3_beatsLit 15 = .ok (.aload_n 0, 1) := by decide +kernel
theorem dX3_beatsLit_16 : decode cX3_beatsLit 16 = .ok (.iload_n 1, 1) := by decide +kernel
theorem dX3_beatsLit_17 : decode cX3_beatsLit 17 = .ok (.invokevirtual 152, 3) := by decide +kernel
theorem dX3_beatsLit_20 : decode cX3_beatsLit 20 = .ok (.ifCond .eq 7, 3) := by decide +kernel
theorem dX3_beatsLit_23 : decode cX3_beatsLit 23 = .ok (.iconst 1, 1) := by decide +kernel
theorem dX3_beatsLit_24 : decode cX3_beatsLit 24 = .ok (.goto 7, 3) := by decide +kernel
theorem dX3_beatsLit_27 : decode cX3_beatsLit 27 = .ok (.aload_n 2, 1) := by decide +kernel
theorem dX3_beatsLit_28 : decode cX3_beatsLit 28 = .ok (.invokevirtual 155, 3) := by decide +kernel
theorem dX3_beatsLit_31 : decode cX3_beatsLit 31 = .ok (.ireturn, 1) := by decide +kernel
theorem dX3_beatsToForgetting_0 : decode cX3_beatsToForgetting 0 = .ok (.iconst (-1), 1) := by decide +kernel
theorem dX3_beatsToForgetting_1 : decode cX3_beatsToForgetting 1 = .ok (.istore_n 1, 1) := by decide +kernel
theorem dX3_beatsToForgetting_2 : decode cX3_beatsToForgetting 2 = .ok (.iconst 0, 1) := by decide +kernel
theorem dX3_beatsToForgetting_3 : decode cX3_beatsToForgetting 3 = .ok (.istore_n 2, 1) := by decide +kernel
theorem dX3_beatsToForgetting_4 : decode cX3_beatsToForgetting 4 = .ok (.iload_n 2, 1) := by decide +kernel
theorem dX3_beatsToForgetting_5 : decode cX3_beatsToForgetting 5 = .ok (.bipush 6, 2) := by decide +kernel
theorem dX3_beatsToForgetting_7 : decode cX3_beatsToForgetting 7 = .ok (.if_icmp .ge 55, 3) := by decide +kernel
theorem dX3_beatsToForgetting_10 : decode cX3_beatsToForgetting 10 = .ok (.aload_n 0, 1) := by decide +kernel
theorem dX3_beatsToForgetting_11 : decode cX3_beatsToForgetting 11 = .ok (.getfield 11, 3) := by decide +kernel
theorem dX3_beatsToForgetting_14 : decode cX3_beatsToForgetting 14 = .ok (.iload_n 2, 1) := by decide +kernel
theorem dX3_beatsToForgetting_15 : decode cX3_beatsToForgetting 15 = .ok (.aaload, 1) := by decide +kernel
theorem dX3_beatsToForgetting_16 : decode cX3_beatsToForgetting 16 = .ok (.getfield 68, 3) := by decide +kernel
theorem dX3_beatsToForgetting_19 : decode cX3_beatsToForgetting 19 = .ok (.ifCond .le 37, 3) := by decide +kernel
theorem dX3_beatsToForgetting_22 : decode cX3_beatsToForgetting 22 = .ok (.aload_n 0, 1) := by decide +kernel
theorem dX3_beatsToForgetting_23 : decode cX3_beatsToForgetting 23 = .ok (.getfield 11, 3) := by decide +kernel
theorem dX3_beatsToForgetting_26 : decode cX3_beatsToForgetting 26 = .ok (.iload_n 2, 1) := by decide +kernel
theorem dX3_beatsToForgetting_27 : decode cX3_beatsToForgetting 27 = .ok (.aaload, 1) := by decide +kernel
theorem dX3_beatsToForgetting_28 : decode cX3_beatsToForgetting 28 = .ok (.aload_n 0, 1) := by decide +kernel
theorem dX3_beatsToForgetting_29 : decode cX3_beatsToForgetting 29 = .ok (.iload_n 2, 1) := by decide +kernel
theorem dX3_beatsToForgetting_30 : decode cX3_beatsToForgetting 30 = .ok (.invokevirtual 158, 3) := by decide +kernel
theorem dX3_beatsToForgetting_33 : decode cX3_beatsToForgetting 33 = .ok (.aload_n 0, 1) := by decide +kernel
theorem dX3_beatsToForgetting_34 : decode cX3_beatsToForgetting 34 = .ok (.getfield 25, 3) := by decide +kernel
theorem dX3_beatsToForgetting_37 : decode cX3_beatsToForgetting 37 = .ok (.invokevirtual 161, 3) := by decide +kernel
theorem dX3_beatsToForgetting_40 : decode cX3_beatsToForgetting 40 = .ok (.istore_n 3, 1) := by decide +kernel
theorem dX3_beatsToForgetting_41 : decode cX3_beatsToForgetting 41 = .ok (.iload_n 1, 1) := by decide +kernel
theorem dX3_beatsToForgetting_42 : decode cX3_beatsToForgetting 42 = .ok (.iconst (-1), 1) := by decide +kernel
theorem dX3_beatsToForgetting_43 : decode cX3_beatsToForgetting 43 = .ok (.if_icmp .ne 7, 3) := by decide +kernel
theorem dX3_beatsToForgetting_46 : decode cX3_beatsToForgetting 46 = .ok (.iload_n 3, 1) := by decide +kernel
theorem dX3_beatsToForgetting_47 : decode cX3_beatsToForgetting 47 = .ok (.goto 8, 3) := by decide +kernel
theorem dX3_beatsToForgetting_50 : decode cX3_beatsToForgetting 50 = .ok (.iload_n 1, 1) := by decide +kernel
theorem dX3_beatsToForgetting_51 : decode cX3_beatsToForgetting 51 = .ok (.iload_n 3, 1) := by decide +kernel
theorem dX3_beatsToForgetting_52 : decode cX3_beatsToForgetting 52 = .ok (.invokestatic 164, 3) := by decide +kernel
theorem dX3_beatsToForgetting_55 : decode cX3_beatsToForgetting 55 = .ok (.istore_n 1, 1) := by decide +kernel
theorem dX3_beatsToForgetting_56 : decode cX3_beatsToForgetting 56 = .ok (.iinc 2 1, 3) := by decide +kernel
theorem dX3_beatsToForgetting_59 : decode cX3_beatsToForgetting 59 = .ok (.goto (-55), 3) := by decide +kernel
theorem dX3_beatsToForgetting_62 : decode cX3_beatsToForgetting 62 = .ok (.iload_n 1, 1) := by decide +kernel
theorem dX3_beatsToForgetting_63 : decode cX3_beatsToForgetting 63 = .ok (.ireturn, 1) := by decide +kernel
theorem dX3_candlesToLight_0 : decode cX3_candlesToLight 0 = .ok (.aload_n 0, 1) := by decide +kernel
theorem dX3_candlesToLight_1 : decode cX3_candlesToLight 1 = .ok (.invokevirtual 81, 3) := by decide +kernel
theorem dX3_candlesToLight_4 : decode cX3_candlesToLight 4 = .ok (.ifCond .ne 20, 3) := by decide +kernel
theorem dX3_candlesToLight_7 : decode cX3_candlesToLight 7 = .ok (.aload_n 0, 1) := by decide +kernel
theorem dX3_candlesToLight_8 : decode cX3_candlesToLight 8 = .ok (.iload_n 1, 1) := by decide +kernel
theorem dX3_candlesToLight_9 : decode cX3_candlesToLight 9 = .ok (.invokevirtual 64, 3) := by decide +kernel
theorem dX3_candlesToLight_12 : decode cX3_candlesToLight 12 = .ok (.getfield 85, 3) := by decide +kernel
theorem dX3_candlesToLight_15 : decode cX3_candlesToLight 15 = .ok (.ifCond .le 7, 3) := by decide +kernel
theorem dX3_candlesToLight_18 : decode cX3_candlesToLight 18 = .ok (.iconst 1, 1) := by decide +kernel
theorem dX3_candlesToLight_19 : decode cX3_candlesToLight 19 = .ok (.goto 4, 3) := by decide +kernel
theorem dX3_candlesToLight_22 : decode cX3_candlesToLight 22 = .ok (.iconst (-1), 1) := by decide +kernel
theorem dX3_candlesToLight_23 : decode cX3_candlesToLight 23 = .ok (.ireturn, 1) := by decide +kernel
theorem dX3_candlesToLight_24 : decode cX3_candlesToLight 24 = .ok (.aload_n 0, 1) := by decide +kernel
theorem dX3_candlesToLight_25 : decode cX3_candlesToLight 25 = .ok (.iload_n 1, 1) := by decide +kernel
theorem dX3_candlesToLight_26 : decode cX3_candlesToLight 26 = .ok (.iconst (-1), 1) := by decide +kernel
theorem dX3_candlesToLight_27 : decode cX3_candlesToLight 27 = .ok (.invokevirtual 167, 3) := by decide +kernel
theorem dX3_candlesToLight_30 : decode cX3_candlesToLight 30 = .ok (.istore_n 2, 1) := by decide +kernel
theorem dX3_candlesToLight_31 : decode cX3_candlesToLight 31 = .ok (.aload_n 0, 1) := by decide +kernel
theorem dX3_candlesToLight_32 : decode cX3_candlesToLight 32 = .ok (.iload_n 1, 1) := by decide +kernel
theorem dX3_candlesToLight_33 : decode cX3_candlesToLight 33 = .ok (.iconst 1, 1) := by decide +kernel
theorem dX3_candlesToLight_34 : decode cX3_candlesToLight 34 = .ok (.invokevirtual 167, 3) := by decide +kernel
theorem dX3_candlesToLight_37 : decode cX3_candlesToLight 37 = .ok (.istore_n 3, 1) := by decide +kernel
theorem dX3_candlesToLight_38 : decode cX3_candlesToLight 38 = .ok (.iload_n 2, 1) := by decide +kernel
theorem dX3_candlesToLight_39 : decode cX3_candlesToLight 39 = .ok (.iconst (-1), 1) := by decide +kernel
theorem dX3_candlesToLight_40 : decode cX3_candlesToLight 40 = .ok (.if_icmp .ne 5, 3) := by decide +kernel
theorem dX3_candlesToLight_43 : decode cX3_candlesToLight 43 = .ok (.iload_n 3, 1) := by decide +kernel
theorem dX3_candlesToLight_44 : decode cX3_candlesToLight 44 = .ok (.ireturn, 1) := by decide +kernel
theorem dX3_candlesToLight_45 : decode cX3_candlesToLight 45 = .ok (.iload_n 3, 1) := by decide +kernel
theorem dX3_candlesToLight_46 : decode cX3_candlesToLight 46 = .ok (.iconst (-1), 1) := by decide +kernel
theorem dX3_candlesToLight_47 : decode cX3_candlesToLight 47 = .ok (.if_icmp .ne 7, 3) := by decide +kernel
theorem dX3_candlesToLight_50 : decode cX3_candlesToLight 50 = .ok (.iload_n 2, 1) := by decide +kernel
theorem dX3_candlesToLight_51 : decode cX3_candlesToLight 51 = .ok (.goto 8, 3) := by decide +kernel
theorem dX3_candlesToLight_54 : decode cX3_candlesToLight 54 = .ok (.iload_n 2, 1) := by decide +kernel
theorem dX3_candlesToLight_55 : decode cX3_candlesToLight 55 = .ok (.iload_n 3, 1) := by decide +kernel
theorem dX3_candlesToLight_56 : decode cX3_candlesToLight 56 = .ok (.invokestatic 164, 3) := by decide +kernel
theorem dX3_candlesToLight_59 : decode cX3_candlesToLight 59 = .ok (.ireturn, 1) := by decide +kernel
theorem dX3_candlesOnWay_0 : decode cX3_candlesOnWay 0 = .ok (.iconst 0, 1) := by decide +kernel
theorem dX3_candlesOnWay_1 : decode cX3_candlesOnWay 1 = .ok (.istore_n 3, 1) := by decide +kernel
theorem dX3_candlesOnWay_2 : decode cX3_candlesOnWay 2 = .ok (.iload_n 3, 1) := by decide +kernel
theorem dX3_candlesOnWay_3 : decode cX3_candlesOnWay 3 = .ok (.bipush 6, 2) := by decide +kernel
theorem dX3_candlesOnWay_5 : decode cX3_candlesOnWay 5 = .ok (.if_icmp .ge 71, 3) := by decide +kernel
theorem dX3_candlesOnWay_8 : decode cX3_candlesOnWay 8 = .ok (.iload_n 1, 1) := by decide +kernel
theorem dX3_candlesOnWay_9 : decode cX3_candlesOnWay 9 = .ok (.iload_n 3, 1) := by decide +kernel
theorem dX3_candlesOnWay_10 : decode cX3_candlesOnWay 10 = .ok (.iload_n 2, 1) := by decide +kernel
theorem dX3_candlesOnWay_11 : decode cX3_candlesOnWay 11 = .ok (.imul, 1) := by decide +kernel
theorem dX3_candlesOnWay_12 : decode cX3_candlesOnWay 12 = .ok (.iadd, 1) := by decide +kernel
theorem dX3_candlesOnWay_13 : decode cX3_candlesOnWay 13 = .ok (.bipush 6, 2) := by decide +kernel
theorem dX3_candlesOnWay_15 : decode cX3_candlesOnWay 15 = .ok (.invokestatic 50, 3) := by decide +kernel
theorem dX3_candlesOnWay_18 : decode cX3_candlesOnWay 18 = .ok (.istore 4, 2) := by decide +kernel
theorem dX3_candlesOnWay_20 : decode cX3_candlesOnWay 20 = .ok (.aload_n 0, 1) := by decide +kernel
theorem dX3_candlesOnWay_21 : decode cX3_candlesOnWay 21 = .ok (.iload 4, 2) := by decide +kernel
theorem dX3_candlesOnWay_23 : decode cX3_candlesOnWay 23 = .ok (.invokevirtual 64, 3) := by decide +kernel
theorem dX3_candlesOnWay_26 : decode cX3_candlesOnWay 26 = .ok (.getfield 56, 3) := by decide +kernel
theorem dX3_candlesOnWay_29 : decode cX3_candlesOnWay 29 = .ok (.ifCond .eq 5, 3) := by decide +kernel
theorem dX3_candlesOnWay_32 : decode cX3_candlesOnWay 32 = .ok (.iload_n 3, 1) := by decide +kernel
theorem dX3_candlesOnWay_33 : decode cX3_candlesOnWay 33 = .ok (.ireturn, 1) := by decide +kernel
theorem dX3_candlesOnWay_34 : decode cX3_candlesOnWay 34 = .ok (.iload 4, 2) := by decide +kernel
theorem dX3_candlesOnWay_36 : decode cX3_candlesOnWay 36 = .ok (.iload_n 2, 1) := by decide +kernel
theorem dX3_candlesOnWay_37 : decode cX3_candlesOnWay 37 = .ok (.iadd, 1) := by decide +kernel
theorem dX3_candlesOnWay_38 : decode cX3_candlesOnWay 38 = .ok (.bipush 6, 2) := by decide +kernel
theorem dX3_candlesOnWay_40 : decode cX3_candlesOnWay 40 = .ok (.invokestatic 50, 3) := by decide +kernel
theorem dX3_candlesOnWay_43 : decode cX3_candlesOnWay 43 = .ok (.istore 5, 2) := by decide +kernel
theorem dX3_candlesOnWay_45 : decode cX3_candlesOnWay 45 = .ok (.aload_n 0, 1) := by decide +kernel
theorem dX3_candlesOnWay_46 : decode cX3_candlesOnWay 46 = .ok (.iload 4, 2) := by decide +kernel
theorem dX3_candlesOnWay_48 : decode cX3_candlesOnWay 48 = .ok (.invokevirtual 64, 3) := by decide +kernel
theorem dX3_candlesOnWay_51 : decode cX3_candlesOnWay 51 = .ok (.getfield 85, 3) := by decide +kernel
theorem dX3_candlesOnWay_54 : decode cX3_candlesOnWay 54 = .ok (.ifCond .eq 14, 3) := by decide +kernel
theorem dX3_candlesOnWay_57 : decode cX3_candlesOnWay 57 = .ok (.aload_n 0, 1) := by decide +kernel
theorem dX3_candlesOnWay_58 : decode cX3_candlesOnWay 58 = .ok (.iload 4, 2) := by decide +kernel
theorem dX3_candlesOnWay_60 : decode cX3_candlesOnWay 60 = .ok (.iload 5, 2) := by decide +kernel
theorem dX3_candlesOnWay_62 : decode cX3_candlesOnWay 62 = .ok (.invokevirtual 88, 3) := by decide +kernel
theorem dX3_candlesOnWay_65 : decode cX3_candlesOnWay 65 = .ok (.ifCond .ne 5, 3) := by decide +kernel
theorem dX3_candlesOnWay_68 : decode cX3_candlesOnWay 68 = .ok (.iconst (-1), 1) := by decide +kernel
theorem dX3_candlesOnWay_69 : decode cX3_candlesOnWay 69 = .ok (.ireturn, 1) := by decide +kernel
theorem dX3_candlesOnWay_70 : decode cX3_candlesOnWay 70 = .ok (.iinc 3 1, 3) := by decide +kernel
theorem dX3_candlesOnWay_73 : decode cX3_candlesOnWay 73 = .ok (.goto (-71), 3) := by decide +kernel
theorem dX3_candlesOnWay_76 : decode cX3_candlesOnWay 76 = .ok (.iconst (-1), 1) := by decide +kernel
theorem dX3_candlesOnWay_77 : decode cX3_candlesOnWay 77 = .ok (.ireturn, 1) := by decide +kernel
theorem dX3_neediest_0 : decode cX3_neediest 0 = .ok (.iconst (-1), 1) := by decide +kernel
theorem dX3_neediest_1 : decode cX3_neediest 1 = .ok (.istore_n 1, 1) := by decide +kernel
theorem dX3_neediest_2 : decode cX3_neediest 2 = .ok (.iconst 0, 1) := by decide +kernel
theorem dX3_neediest_3 : decode cX3_neediest 3 = .ok (.istore_n 2, 1) := by decide +kernel
theorem dX3_neediest_4 : decode cX3_neediest 4 = .ok (.iload_n 2, 1) := by decide +kernel
theorem dX3_neediest_5 : decode cX3_neediest 5 = .ok (.bipush 6, 2) := by decide +kernel
theorem dX3_neediest_7 : decode cX3_neediest 7 = .ok (.if_icmp .ge 37, 3) := by decide +kernel
theorem dX3_neediest_10 : decode cX3_neediest 10 = .ok (.aload_n 0, 1) := by decide +kernel
theorem dX3_neediest_11 : decode cX3_neediest 11 = .ok (.getfield 11, 3) := by decide +kernel
theorem dX3_neediest_14 : decode cX3_neediest 14 = .ok (.iload_n 2, 1) := by decide +kernel
theorem dX3_neediest_15 : decode cX3_neediest 15 = .ok (.aaload, 1) := by decide +kernel
theorem dX3_neediest_16 : decode cX3_neediest 16 = .ok (.getfield 68, 3) := by decide +kernel
theorem dX3_neediest_19 : decode cX3_neediest 19 = .ok (.ifCond .le 19, 3) := by decide +kernel
theorem dX3_neediest_22 : decode cX3_neediest 22 = .ok (.iload_n 1, 1) := by decide +kernel
theorem dX3_neediest_23 : decode cX3_neediest 23 = .ok (.iconst (-1), 1) := by decide +kernel
theorem dX3_neediest_24 : decode cX3_neediest 24 = .ok (.if_icmp .eq 12, 3) := by decide +kernel
theorem dX3_neediest_27 : decode cX3_neediest 27 = .ok (.aload_n 0, 1) := by decide +kernel
theorem dX3_neediest_28 : decode cX3_neediest 28 = .ok (.iload_n 2, 1) := by decide +kernel
theorem dX3_neediest_29 : decode cX3_neediest 29 = .ok (.iload_n 1, 1) := by decide +kernel
theorem dX3_neediest_30 : decode cX3_neediest 30 = .ok (.invokevirtual 170, 3) := by decide +kernel
theorem dX3_neediest_33 : decode cX3_neediest 33 = .ok (.ifCond .eq 5, 3) := by decide +kernel
theorem dX3_neediest_36 : decode cX3_neediest 36 = .ok (.iload_n 2, 1) := by decide +kernel
theorem dX3_neediest_37 : decode cX3_neediest 37 = .ok (.istore_n 1, 1) := by decide +kernel
theorem dX3_neediest_38 : decode cX3_neediest 38 = .ok (.iinc 2 1, 3) := by decide +kernel
theorem dX3_neediest_41 : decode cX3_neediest 41 = .ok (.goto (-37), 3) := by decide +kernel
theorem dX3_neediest_44 : decode cX3_neediest 44 = .ok (.iload_n 1, 1) := by decide +kernel
theorem dX3_neediest_45 : decode cX3_neediest 45 = .ok (.ireturn, 1) := by decide +kernel
theorem dX3_isNeedier_0 : decode cX3_isNeedier 0 = .ok (.aload_n 0, 1) := by decide +kernel
theorem dX3_isNeedier_1 : decode cX3_isNeedier 1 = .ok (.iload_n 1, 1) := by decide +kernel
theorem dX3_isNeedier_2 : decode cX3_isNeedier 2 = .ok (.invokevirtual 64, 3) := by decide +kernel
theorem dX3_isNeedier_5 : decode cX3_isNeedier 5 = .ok (.astore_n 3, 1) := by decide +kernel
theorem dX3_isNeedier_6 : decode cX3_isNeedier 6 = .ok (.aload_n 0, 1) := by decide +kernel
theorem dX3_isNeedier_7 : decode cX3_isNeedier 7 = .ok (.iload_n 2, 1) := by decide +kernel
theorem dX3_isNeedier_8 : decode cX3_isNeedier 8 = .ok (.invokevirtual 64, 3) := by decide +kernel
theorem dX3_isNeedier_11 : decode cX3_isNeedier 11 = .ok (.astore 4, 2) := by decide +kernel
theorem dX3_isNeedier_13 : decode cX3_isNeedier 13 = .ok (.aload_n 3, 1) := by decide +kernel
theorem dX3_isNeedier_14 : decode cX3_isNeedier 14 = .ok (.getfield 85, 3) := by decide +kernel
theorem dX3_isNeedier_17 : decode cX3_isNeedier 17 = .ok (.aload 4, 2) := by decide +kernel
theorem dX3_isNeedier_19 : decode cX3_isNeedier 19 = .ok (.getfield 85, 3) := by decide +kernel
theorem dX3_isNeedier_22 : decode cX3_isNeedier 22 = .ok (.if_icmp .eq 21, 3) := by decide +kernel
theorem dX3_isNeedier_25 : decode cX3_isNeedier 25 = .ok (.aload_n 3, 1) := by decide +kernel
theorem dX3_isNeedier_26 : decode cX3_isNeedier 26 = .ok (.getfield 85, 3) := by decide +kernel
theorem dX3_isNeedier_29 : decode cX3_isNeedier 29 = .ok (.aload 4, 2) := by decide +kernel
theorem dX3_isNeedier_31 : decode cX3_isNeedier 31 = .ok (.getfield 85, 3) := by decide +kernel
theorem dX3_isNeedier_34 : decode cX3_isNeedier 34 = .ok (.if_icmp .ge 7, 3) := by decide +kernel
theorem dX3_isNeedier_37 : decode cX3_isNeedier 37 = .ok (.iconst 1, 1) := by decide +kernel
theorem dX3_isNeedier_38 : decode cX3_isNeedier 38 = .ok (.goto 4, 3) := by decide +kernel
theorem dX3_isNeedier_41 : decode cX3_isNeedier 41 = .ok (.iconst 0, 1) := by decide +kernel
theorem dX3_isNeedier_42 : decode cX3_isNeedier 42 = .ok (.ireturn, 1) := by decide +kernel
theorem dX3_isNeedier_43 : decode cX3_isNeedier 43 = .ok (.aload_n 3, 1) := by decide +kernel
theorem dX3_isNeedier_44 : decode cX3_isNeedier 44 = .ok (.getfield 68, 3) := by decide +kernel
theorem dX3_isNeedier_47 : decode cX3_isNeedier 47 = .ok (.aload 4, 2) := by decide +kernel
theorem dX3_isNeedier_49 : decode cX3_isNeedier 49 = .ok (.getfield 68, 3) := by decide +kernel
theorem dX3_isNeedier_52 : decode cX3_isNeedier 52 = .ok (.if_icmp .le 7, 3) := by decide +kernel
theorem dX3_isNeedier_55 : decode cX3_isNeedier 55 = .ok (.iconst 1, 1) := by decide +kernel
theorem dX3_isNeedier_56 : decode cX3_isNeedier 56 = .ok (.goto 4, 3) := by decide +kernel
theorem dX3_isNeedier_59 : decode cX3_isNeedier 59 = .ok (.iconst 0, 1) := by decide +kernel
theorem dX3_isNeedier_60 : decode cX3_isNeedier 60 = .ok (.ireturn, 1) := by decide +kernel
theorem dX3_shareInLight_0 : decode cX3_shareInLight 0 = .ok (.aload_n 0, 1) := by decide +kernel
theorem dX3_shareInLight_1 : decode cX3_shareInLight 1 = .ok (.invokevirtual 173, 3) := by decide +kernel
theorem dX3_shareInLight_4 : decode cX3_shareInLight 4 = .ok (.istore_n 1, 1) := by decide +kernel
theorem dX3_shareInLight_5 : decode cX3_shareInLight 5 = .ok (.iload_n 1, 1) := by decide +kernel
theorem dX3_shareInLight_6 : decode cX3_shareInLight 6 = .ok (.ifCond .ne 5, 3) := by decide +kernel
theorem dX3_shareInLight_9 : decode cX3_shareInLight 9 = .ok (.dconst 1, 1) := by decide +kernel
theorem dX3_shareInLight_10 : decode cX3_shareInLight 10 = .ok (.dreturn, 1) := by decide +kernel
theorem dX3_shareInLight_11 : decode cX3_shareInLight 11 = .ok (.iconst 0, 1) := by decide +kernel
theorem dX3_shareInLight_12 : decode cX3_shareInLight 12 = .ok (.istore_n 2, 1) := by decide +kernel
theorem dX3_shareInLight_13 : decode cX3_shareInLight 13 = .ok (.iconst 0, 1) := by decide +kernel
theorem dX3_shareInLight_14 : decode cX3_shareInLight 14 = .ok (.istore_n 3, 1) := by decide +kernel
theorem dX3_shareInLight_15 : decode cX3_shareInLight 15 = .ok (.iload_n 3, 1) := by decide +kernel
theorem dX3_shareInLight_16 : decode cX3_shareInLight 16 = .ok (.bipush 6, 2) := by decide +kernel
theorem dX3_shareInLight_18 : decode cX3_shareInLight 18 = .ok (.if_icmp .ge 37, 3) := by decide +kernel
theorem dX3_shareInLight_21 : decode cX3_shareInLight 21 = .ok (.iload_n 2, 1) := by decide +kernel
theorem dX3_shareInLight_22 : decode cX3_shareInLight 22 = .ok (.aload_n 0, 1) := by decide +kernel
theorem dX3_shareInLight_23 : decode cX3_shareInLight 23 = .ok (.getfield 11, 3) := by decide +kernel
theorem dX3_shareInLight_26 : decode cX3_shareInLight 26 = .ok (.iload_n 3, 1) := by decide +kernel
theorem dX3_shareInLight_27 : decode cX3_shareInLight 27 = .ok (.aaload, 1) := by decide +kernel
theorem dX3_shareInLight_28 : decode cX3_shareInLight 28 = .ok (.getfield 56, 3) := by decide +kernel
theorem dX3_shareInLight_31 : decode cX3_shareInLight 31 = .ok (.ifCond .eq 15, 3) := by decide +kernel
theorem dX3_shareInLight_34 : decode cX3_shareInLight 34 = .ok (.aload_n 0, 1) := by decide +kernel
theorem dX3_shareInLight_35 : decode cX3_shareInLight 35 = .ok (.getfield 11, 3) := by decide +kernel
theorem dX3_shareInLight_38 : decode cX3_shareInLight 38 = .ok (.iload_n 3, 1) := by decide +kernel
theorem dX3_shareInLight_39 : decode cX3_shareInLight 39 = .ok (.aaload, 1) := by decide +kernel
theorem dX3_shareInLight_40 : decode cX3_shareInLight 40 = .ok (.getfield 68, 3) := by decide +kernel
theorem dX3_shareInLight_43 : decode cX3_shareInLight 43 = .ok (.goto 4, 3) := by decide +kernel
theorem dX3_shareInLight_46 : decode cX3_shareInLight 46 = .ok (.iconst 0, 1) := by decide +kernel
theorem dX3_shareInLight_47 : decode cX3_shareInLight 47 = .ok (.iadd, 1) := by decide +kernel
theorem dX3_shareInLight_48 : decode cX3_shareInLight 48 = .ok (.istore_n 2, 1) := by decide +kernel
theorem dX3_shareInLight_49 : decode cX3_shareInLight 49 = .ok (.iinc 3 1, 3) := by decide +kernel
theorem dX3_shareInLight_52 : decode cX3_shareInLight 52 = .ok (.goto (-37), 3) := by decide +kernel
theorem dX3_shareInLight_55 : decode cX3_shareInLight 55 = .ok (.iload_n 2, 1) := by decide +kernel
theorem dX3_shareInLight_56 : decode cX3_shareInLight 56 = .ok (.i2d, 1) := by decide +kernel
theorem dX3_shareInLight_57 : decode cX3_shareInLight 57 = .ok (.iload_n 1, 1) := by decide +kernel
theorem dX3_shareInLight_58 : decode cX3_shareInLight 58 = .ok (.i2d, 1) := by decide +kernel
theorem dX3_shareInLight_59 : decode cX3_shareInLight 59 = .ok (.ddiv, 1) := by decide +kernel
theorem dX3_shareInLight_60 : decode cX3_shareInLight 60 = .ok (.dreturn, 1) := by decide +kernel
theorem dX4_init_0 : decode cX4_init 0 = .ok (.aload_n 0, 1) := by decide +kernel
theorem dX4_init_1 : decode cX4_init 1 = .ok (.invokespecial 1, 3) := by decide +kernel
theorem dX4_init_4 : decode cX4_init 4 = .ok (.aload_n 0, 1) := by decide +kernel
theorem dX4_init_5 : decode cX4_init 5 = .ok (.new 7, 3) := by decide +kernel
theorem dX4_init_8 : decode cX4_init 8 = .ok (.dup, 1) := by decide +kernel
theorem dX4_init_9 : decode cX4_init 9 = .ok (.invokespecial 9, 3) := by decide +kernel
theorem dX4_init_12 : decode cX4_init 12 = .ok (.putfield 10, 3) := by decide +kernel
theorem dX4_init_15 : decode cX4_init 15 = .ok (.aload_n 0, 1) := by decide +kernel
theorem dX4_init_16 : decode cX4_init 16 = .ok (.new 16, 3) := by decide +kernel
theorem dX4_init_19 : decode cX4_init 19 = .ok (.dup, 1) := by decide +kernel
theorem dX4_init_20 : decode cX4_init 20 = .ok (.invokespecial 18, 3) := by decide +kernel
theorem dX4_init_23 : decode cX4_init 23 = .ok (.putfield 19, 3) := by decide +kernel
theorem dX4_init_26 : decode cX4_init 26 = .ok (.aload_n 0, 1) := by decide +kernel
theorem dX4_init_27 : decode cX4_init 27 = .ok (.new 23, 3) := by decide +kernel
theorem dX4_init_30 : decode cX4_init 30 = .ok (.dup, 1) := by decide +kernel
theorem dX4_init_31 : decode cX4_init 31 = .ok (.invokespecial 25, 3) := by decide +kernel
theorem dX4_init_34 : decode cX4_init 34 = .ok (.putfield 26, 3) := by decide +kernel
theorem dX4_init_37 : decode cX4_init 37 = .ok (.return_, 1) := by decide +kernel
theorem dX4_strike_0 : decode cX4_strike 0 = .ok (.iload_n 1, 1) := by decide +kernel
theorem dX4_strike_1 : decode cX4_strike 1 = .ok (.invokestatic 30, 3) := by decide +kernel
theorem dX4_strike_4 : decode cX4_strike 4 = .ok (.aload_n 0, 1) := by decide +kernel
theorem dX4_strike_5 : decode cX4_strike 5 = .ok (.getfield 10, 3) := by decide +kernel
theorem dX4_strike_8 : decode cX4_strike 8 = .ok (.iload_n 1, 1) := by decide +kernel
theorem dX4_strike_9 : decode cX4_strike 9 = .ok (.invokevirtual 34, 3) := by decide +kernel
theorem dX4_strike_12 : decode cX4_strike 12 = .ok (.ifCond .ne 13, 3) := by decide +kernel
theorem dX4_strike_15 : decode cX4_strike 15 = .ok (.new 38, 3) := by decide +kernel
theorem dX4_strike_18 : decode cX4_strike 18 = .ok (.dup, 1) := by decide +kernel
theorem dX4_strike_19 : decode cX4_strike 19 = .ok (.ldc 40, 2) := by decide +kernel
theorem dX4_strike_21 : decode cX4_strike 21 = .ok (.invokespecial 42, 3) := by decide +kernel
theorem dX4_strike_24 : decode cX4_strike 24 = .ok (.athrow, 1) := by decide +kernel
theorem dX4_strike_25 : decode cX4_strike 25 = .ok (.aload_n 0, 1) := by decide +kernel
theorem dX4_strike_26 : decode cX4_strike 26 = .ok (.getfield 19, 3) := by decide +kernel
theorem dX4_strike_29 : decode cX4_strike 29 = .ok (.aload_n 0, 1) := by decide +kernel
theorem dX4_strike_30 : decode cX4_strike 30 = .ok (.getfield 10, 3) := by decide +kernel
theorem dX4_strike_33 : decode cX4_strike 33 = .ok (.invokevirtual 45, 3) := by decide +kernel
theorem dX4_strike_36 : decode cX4_strike 36 = .ok (.aload_n 0, 1) := by decide +kernel
theorem dX4_strike_37 : decode cX4_strike 37 = .ok (.getfield 10, 3) := by decide +kernel
theorem dX4_strike_40 : decode cX4_strike 40 = .ok (.iload_n 1, 1) := by decide +kernel
theorem dX4_strike_41 : decode cX4_strike 41 = .ok (.invokevirtual 49, 3) := by decide +kernel
theorem dX4_strike_44 : decode cX4_strike 44 = .ok (.ireturn, 1) := by decide +kernel
theorem dX4_light_0 : decode cX4_light 0 = .ok (.iload_n 1, 1) := by decide +kernel
theorem dX4_light_1 : decode cX4_light 1 = .ok (.invokestatic 30, 3) := by decide +kernel
theorem dX4_light_4 : decode cX4_light 4 = .ok (.iload_n 2, 1) := by decide +kernel
theorem dX4_light_5 : decode cX4_light 5 = .ok (.invokestatic 30, 3) := by decide +kernel
theorem dX4_light_8 : decode cX4_light 8 = .ok (.aload_n 0, 1) := by decide +kernel
theorem dX4_light_9 : decode cX4_light 9 = .ok (.getfield 10, 3) := by decide +kernel
theorem dX4_light_12 : decode cX4_light 12 = .ok (.iload_n 1, 1) := by decide +kernel
theorem dX4_light_13 : decode cX4_light 13 = .ok (.iload_n 2, 1) := by decide +kernel
theorem dX4_light_14 : decode cX4_light 14 = .ok (.invokevirtual 53, 3) := by decide +kernel
theorem dX4_light_17 : decode cX4_light 17 = .ok (.ifCond .ne 13, 3) := by decide +kernel
theorem dX4_light_20 : decode cX4_light 20 = .ok (.new 38, 3) := by decide +kernel
theorem dX4_light_23 : decode cX4_light 23 = .ok (.dup, 1) := by decide +kernel
theorem dX4_light_24 : decode cX4_light 24 = .ok (.ldc 57, 2) := by decide +kernel
theorem dX4_light_26 : decode cX4_light 26 = .ok (.invokespecial 42, 3) := by decide +kernel
theorem dX4_light_29 : decode cX4_light 29 = .ok (.athrow, 1) := by decide +kernel
theorem dX4_light_30 : decode cX4_light 30 = .ok (.aload_n 0, 1) := by decide +kernel
theorem dX4_light_31 : decode cX4_light 31 = .ok (.getfield 19, 3) := by decide +kernel
theorem dX4_light_34 : decode cX4_light 34 = .ok (.aload_n 0, 1) := by decide +kernel
theorem dX4_light_35 : decode cX4_light 35 = .ok (.getfield 10, 3) := by decide +kernel
theorem dX4_light_38 : decode cX4_light 38 = .ok (.invokevirtual 45, 3) := by decide +kernel
theorem dX4_light_41 : decode cX4_light 41 = .ok (.aload_n 0, 1) := by decide +kernel
theorem dX4_light_42 : decode cX4_light 42 = .ok (.getfield 10, 3) := by decide +kernel
theorem dX4_light_45 : decode cX4_light 45 = .ok (.iload_n 1, 1) := by decide +kernel
theorem dX4_light_46 : decode cX4_light 46 = .ok (.invokevirtual 49, 3) := by decide +kernel
theorem dX4_light_49 : decode cX4_light 49 = .ok (.ireturn, 1) := by decide +kernel
theorem dX4_fresh_0 : decode cX4_fresh 0 = .ok (.iload_n 1, 1) := by decide +kernel
theorem dX4_fresh_1 : decode cX4_fresh 1 = .ok (.invokestatic 30, 3) := by decide +kernel
theorem dX4_fresh_4 : decode cX4_fresh 4 = .ok (.aload_n 0, 1) := by decide +kernel
theorem dX4_fresh_5 : decode cX4_fresh 5 = .ok (.getfield 10, 3) := by decide +kernel
theorem dX4_fresh_8 : decode cX4_fresh 8 = .ok (.invokevirtual 59, 3) := by decide +kernel
theorem dX4_fresh_11 : decode cX4_fresh 11 = .ok (.ifCond .ne 13, 3) := by decide +kernel
theorem dX4_fresh_14 : decode cX4_fresh 14 = .ok (.new 38, 3) := by decide +kernel
theorem dX4_fresh_17 : decode cX4_fresh 17 = .ok (.dup, 1) := by decide +kernel
theorem dX4_fresh_18 : decode cX4_fresh 18 = .ok (.ldc 63, 2) := by decide +kernel
theorem dX4_fresh_20 : decode cX4_fresh 20 = .ok (.invokespecial 42, 3) := by decide +kernel
theorem dX4_fresh_23 : decode cX4_fresh 23 = .ok (.athrow, 1) := by decide +kernel
theorem dX4_fresh_24 : decode cX4_fresh 24 = .ok (.aload_n 0, 1) := by decide +kernel
theorem dX4_fresh_25 : decode cX4_fresh 25 = .ok (.getfield 19, 3) := by decide +kernel
theorem dX4_fresh_28 : decode cX4_fresh 28 = .ok (.aload_n 0, 1) := by decide +kernel
theorem dX4_fresh_29 : decode cX4_fresh 29 = .ok (.getfield 10, 3) := by decide +kernel
theorem dX4_fresh_32 : decode cX4_fresh 32 = .ok (.invokevirtual 45, 3) := by decide +kernel
theorem dX4_fresh_35 : decode cX4_fresh 35 = .ok (.aload_n 0, 1) := by decide +kernel
theorem dX4_fresh_36 : decode cX4_fresh 36 = .ok (.getfield 10, 3) := by decide +kernel
theorem dX4_fresh_39 : decode cX4_fresh 39 = .ok (.iload_n 1, 1) := by decide +kernel
theorem dX4_fresh_40 : decode cX4_fresh 40 = .ok (.invokevirtual 65, 3) := by decide +kernel
theorem dX4_fresh_43 : decode cX4_fresh 43 = .ok (.ireturn, 1) := by decide +kernel
theorem dX4_door_0 : decode cX4_door 0 = .ok (.iload_n 1, 1) := by decide +kernel
theorem dX4_door_1 : decode cX4_door 1 = .ok (.invokestatic 68, 3) := by decide +kernel
theorem dX4_door_4 : decode cX4_door 4 = .ok (.ifCond .ne 13, 3) := by decide +kernel
theorem dX4_door_7 : decode cX4_door 7 = .ok (.new 71, 3) := by decide +kernel
theorem dX4_door_10 : decode cX4_door 10 = .ok (.dup, 1) := by decide +kernel
theorem dX4_door_11 : decode cX4_door 11 = .ok (.ldc 73, 2) := by decide +kernel
theorem dX4_door_13 : decode cX4_door 13 = .ok (.invokespecial 75, 3) := by decide +kernel
theorem dX4_door_16 : decode cX4_door 16 = .ok (.athrow, 1) := by decide +kernel
theorem dX4_door_17 : decode cX4_door 17 = .ok (.aload_n 0, 1) := by decide +kernel
theorem dX4_door_18 : decode cX4_door 18 = .ok (.getfield 19, 3) := by decide +kernel
theorem dX4_door_21 : decode cX4_door 21 = .ok (.aload_n 0, 1) := by decide +kernel
theorem dX4_door_22 : decode cX4_door 22 = .ok (.getfield 10, 3) := by decide +kernel
theorem dX4_door_25 : decode cX4_door 25 = .ok (.invokevirtual 45, 3) := by decide +kernel
theorem dX4_door_28 : decode cX4_door 28 = .ok (.aload_n 0, 1) := by decide +kernel
theorem dX4_door_29 : decode cX4_door 29 = .ok (.getfield 10, 3) := by decide +kernel
theorem dX4_door_32 : decode cX4_door 32 = .ok (.iload_n 1, 1) := by decide +kernel
theorem dX4_door_33 : decode cX4_door 33 = .ok (.invokevirtual 76, 3) := by decide +kernel
theorem dX4_door_36 : decode cX4_door 36 = .ok (.astore_n 3, 1) := by decide +kernel
theorem dX4_door_37 : decode cX4_door 37 = .ok (.aload_n 3, 1) := by decide +kernel
theorem dX4_door_38 : decode cX4_door 38 = .ok (.getfield 80, 3) := by decide +kernel
theorem dX4_door_41 : decode cX4_door 41 = .ok (.istore 4, 2) := by decide +kernel
theorem dX4_door_43 : decode cX4_door 43 = .ok (.aload_n 3, 1) := by decide +kernel
theorem dX4_door_44 : decode cX4_door 44 = .ok (.iload_n 2, 1) := by decide +kernel
theorem dX4_door_45 : decode cX4_door 45 = .ok (.putfield 80, 3) := by decide +kernel
theorem dX4_door_48 : decode cX4_door 48 = .ok (.iload 4, 2) := by decide +kernel
theorem dX4_door_50 : decode cX4_door 50 = .ok (.invokestatic 86, 3) := by decide +kernel
theorem dX4_door_53 : decode cX4_door 53 = .ok (.ireturn, 1) := by decide +kernel
theorem dX4_shield_0 : decode cX4_shield 0 = .ok (.iload_n 1, 1) := by decide +kernel
theorem dX4_shield_1 : decode cX4_shield 1 = .ok (.invokestatic 30, 3) := by decide +kernel
theorem dX4_shield_4 : decode cX4_shield 4 = .ok (.aload_n 0, 1) := by decide +kernel
theorem dX4_shield_5 : decode cX4_shield 5 = .ok (.getfield 19, 3) := by decide +kernel
theorem dX4_shield_8 : decode cX4_shield 8 = .ok (.aload_n 0, 1) := by decide +kernel
theorem dX4_shield_9 : decode cX4_shield 9 = .ok (.getfield 10, 3) := by decide +kernel
theorem dX4_shield_12 : decode cX4_shield 12 = .ok (.invokevirtual 45, 3) := by decide +kernel
theorem dX4_shield_15 : decode cX4_shield 15 = .ok (.aload_n 0, 1) := by decide +kernel
theorem dX4_shield_16 : decode cX4_shield 16 = .ok (.getfield 10, 3) := by decide +kernel
theorem dX4_shield_19 : decode cX4_shield 19 = .ok (.iload_n 1, 1) := by decide +kernel
theorem dX4_shield_20 : decode cX4_shield 20 = .ok (.invokevirtual 76, 3) := by decide +kernel
theorem dX4_shield_23 : decode cX4_shield 23 = .ok (.astore_n 3, 1) := by decide +kernel
theorem dX4_shield_24 : decode cX4_shield 24 = .ok (.aload_n 3, 1) := by decide +kernel
theorem dX4_shield_25 : decode cX4_shield 25 = .ok (.getfield 90, 3) := by decide +kernel
theorem dX4_shield_28 : decode cX4_shield 28 = .ok (.istore 4, 2) := by decide +kernel
theorem dX4_shield_30 : decode cX4_shield 30 = .ok (.aload_n 3, 1) := by decide +kernel
theorem dX4_shield_31 : decode cX4_shield 31 = .ok (.iload_n 2, 1) := by decide +kernel
theorem dX4_shield_32 : decode cX4_shield 32 = .ok (.putfield 90, 3) := by decide +kernel
theorem dX4_shield_35 : decode cX4_shield 35 = .ok (.iload 4, 2) := by decide +kernel
theorem dX4_shield_37 : decode cX4_shield 37 = .ok (.invokestatic 86, 3) := by decide +kernel
theorem dX4_shield_40 : decode cX4_shield 40 = .ok (.ireturn, 1) := by decide +kernel
theorem dX4_draught_0 : decode cX4_draught 0 = .ok (.iload_n 1, 1) := by decide +kernel
theorem dX4_draught_1 : decode cX4_draught 1 = .ok (.invokestatic 30, 3) := by decide +kernel
theorem dX4_draught_4 : decode cX4_draught 4 = .ok (.iload_n 2, 1) := by decide +kernel
theorem dX4_draught_5 : decode cX4_draught 5 = .ok (.iconst 1, 1) := by decide +kernel
theorem dX4_draught_6 : decode cX4_draught 6 = .ok (.if_icmp .lt 9, 3) := by decide +kernel
theorem dX4_draught_9 : decode cX4_draught 9 = .ok (.iload_n 2, 1) := by decide +kernel
theorem dX4_draught_10 : decode cX4_draught 10 = .ok (.bipush 6, 2) := by decide +kernel
theorem dX4_draught_12 : decode cX4_draught 12 = .ok (.if_icmp .le 13, 3) := by decide +kernel
theorem dX4_draught_15 : decode cX4_draught 15 = .ok (.new 93, 3) := by decide +kernel
theorem dX4_draught_18 : decode cX4_draught 18 = .ok (.dup, 1) := by decide +kernel
theorem dX4_draught_19 : decode cX4_draught 19 = .ok (.ldc 95, 2) := by decide +kernel
theorem dX4_draught_21 : decode cX4_draught 21 = .ok (.invokespecial 97, 3) := by decide +kernel
theorem dX4_draught_24 : decode cX4_draught 24 = .ok (.athrow, 1) := by decide +kernel
theorem dX4_draught_25 : decode cX4_draught 25 = .ok (.aload_n 0, 1) := by decide +kernel
theorem dX4_draught_26 : decode cX4_draught 26 = .ok (.getfield 19, 3) := by decide +kernel
theorem dX4_draught_29 : decode cX4_draught 29 = .ok (.aload_n 0, 1) := by decide +kernel
theorem dX4_draught_30 : decode cX4_draught 30 = .ok (.getfield 10, 3) := by decide +kernel
theorem dX4_draught_33 : decode cX4_draught 33 = .ok (.invokevirtual 45, 3) := by decide +kernel
theorem dX4_draught_36 : decode cX4_draught 36 = .ok (.aload_n 0, 1) := by decide +kernel
theorem dX4_draught_37 : decode cX4_draught 37 = .ok (.getfield 10, 3) := by decide +kernel
theorem dX4_draught_40 : decode cX4_draught 40 = .ok (.iload_n 1, 1) := by decide +kernel
theorem dX4_draught_41 : decode cX4_draught 41 = .ok (.iload_n 2, 1) := by decide +kernel
theorem dX4_draught_42 : decode cX4_draught 42 = .ok (.invokevirtual 98, 3) := by decide +kernel
theorem dX4_draught_45 : decode cX4_draught 45 = .ok (.ireturn, 1) := by decide +kernel
theorem dX4_set_0 : decode cX4_set 0 = .ok (.iload_n 1, 1) := by decide +kernel
theorem dX4_set_1 : decode cX4_set 1 = .ok (.iconst 1, 1) := by decide +kernel
theorem dX4_set_2 : decode cX4_set 2 = .ok (.if_icmp .lt 9, 3) := by decide +kernel
theorem dX4_set_5 : decode cX4_set 5 = .ok (.iload_n 1, 1) := by decide +kernel
theorem dX4_set_6 : decode cX4_set 6 = .ok (.bipush 50, 2) := by decide +kernel
theorem dX4_set_8 : decode cX4_set 8 = .ok (.if_icmp .le 13, 3) := by decide +kernel
theorem dX4_set_11 : decode cX4_set 11 = .ok (.new 93, 3) := by decide +kernel
theorem dX4_set_14 : decode cX4_set 14 = .ok (.dup, 1) := by decide +kernel
theorem dX4_set_15 : decode cX4_set 15 = .ok (.ldc 102, 2) := by decide +kernel
theorem dX4_set_17 : decode cX4_set 17 = .ok (.invokespecial 97, 3) := by decide +kernel
theorem dX4_set_20 : decode cX4_set 20 = .ok (.athrow, 1) := by decide +kernel
theorem dX4_set_21 : decode cX4_set 21 = .ok (.aload_n 0, 1) := by decide +kernel
theorem dX4_set_22 : decode cX4_set 22 = .ok (.getfield 19, 3) := by decide +kernel
theorem dX4_set_25 : decode cX4_set 25 = .ok (.aload_n 0, 1) := by decide +kernel
theorem dX4_set_26 : decode cX4_set 26 = .ok (.getfield 10, 3) := by decide +kernel
theorem dX4_set_29 : decode cX4_set 29 = .ok (.invokevirtual 45, 3) := by decide +kernel
theorem dX4_set_32 : decode cX4_set 32 = .ok (.aload_n 0, 1) := by decide +kernel
theorem dX4_set_33 : decode cX4_set 33 = .ok (.getfield 10, 3) := by decide +kernel
theorem dX4_set_36 : decode cX4_set 36 = .ok (.getfield 104, 3) := by decide +kernel
theorem dX4_set_39 : decode cX4_set 39 = .ok (.istore_n 2, 1) := by decide +kernel
theorem dX4_set_40 : decode cX4_set 40 = .ok (.aload_n 0, 1) := by decide +kernel
theorem dX4_set_41 : decode cX4_set 41 = .ok (.getfield 10, 3) := by decide +kernel
theorem dX4_set_44 : decode cX4_set 44 = .ok (.iload_n 1, 1) := by decide +kernel
theorem dX4_set_45 : decode cX4_set 45 = .ok (.putfield 104, 3) := by decide +kernel
theorem dX4_set_48 : decode cX4_set 48 = .ok (.iload_n 2, 1) := by decide +kernel
theorem dX4_set_49 : decode cX4_set 49 = .ok (.ireturn, 1) := by decide +kernel
theorem dX4_keep_0 : decode cX4_keep 0 = .ok (.iload_n 1, 1) := by decide +kernel
theorem dX4_keep_1 : decode cX4_keep 1 = .ok (.invokestatic 30, 3) := by decide +kernel
theorem dX4_keep_4 : decode cX4_keep 4 = .ok (.iload_n 2, 1) := by decide +kernel
theorem dX4_keep_5 : decode cX4_keep 5 = .ok (.invokestatic 108, 3) := by decide +kernel
theorem dX4_keep_8 : decode cX4_keep 8 = .ok (.aload_n 0, 1) := by decide +kernel
theorem dX4_keep_9 : decode cX4_keep 9 = .ok (.getfield 10, 3) := by decide +kernel
theorem dX4_keep_12 : decode cX4_keep 12 = .ok (.iload_n 1, 1) := by decide +kernel
theorem dX4_keep_13 : decode cX4_keep 13 = .ok (.iload_n 2, 1) := by decide +kernel
theorem dX4_keep_14 : decode cX4_keep 14 = .ok (.invokevirtual 111, 3) := by decide +kernel
theorem dX4_keep_17 : decode cX4_keep 17 = .ok (.ifCond .ne 13, 3) := by decide +kernel
theorem dX4_keep_20 : decode cX4_keep 20 = .ok (.new 38, 3) := by decide +kernel
theorem dX4_keep_23 : decode cX4_keep 23 = .ok (.dup, 1) := by decide +kernel
theorem dX4_keep_24 : decode cX4_keep 24 = .ok (.ldc 114, 2) := by decide +kernel
theorem dX4_keep_26 : decode cX4_keep 26 = .ok (.invokespecial 42, 3) := by decide +kernel
theorem dX4_keep_29 : decode cX4_keep 29 = .ok (.athrow, 1) := by decide +kernel
theorem dX4_keep_30 : decode cX4_keep 30 = .ok (.aload_n 0, 1) := by decide +kernel
theorem dX4_keep_31 : decode cX4_keep 31 = .ok (.getfield 19, 3) := by decide +kernel
theorem dX4_keep_34 : decode cX4_keep 34 = .ok (.aload_n 0, 1) := by decide +kernel
theorem dX4_keep_35 : decode cX4_keep 35 = .ok (.getfield 10, 3) := by decide +kernel
theorem dX4_keep_38 : decode cX4_keep 38 = .ok (.invokevirtual 45, 3) := by decide +kernel
theorem dX4_keep_41 : decode cX4_keep 41 = .ok (.aload_n 0, 1) := by decide +kernel
theorem dX4_keep_42 : decode cX4_keep 42 = .ok (.getfield 10, 3) := by decide +kernel
theorem dX4_keep_45 : decode cX4_keep 45 = .ok (.iload_n 1, 1) := by decide +kernel
theorem dX4_keep_46 : decode cX4_keep 46 = .ok (.iload_n 2, 1) := by decide +kernel
theorem dX4_keep_47 : decode cX4_keep 47 = .ok (.invokevirtual 116, 3) := by decide +kernel
theorem dX4_keep_50 : decode cX4_keep 50 = .ok (.ireturn, 1) := by decide +kernel
theorem dX4_read_0 : decode cX4_read 0 = .ok (.iload_n 1, 1) := by decide +kernel
theorem dX4_read_1 : decode cX4_read 1 = .ok (.invokestatic 108, 3) := by decide +kernel
theorem dX4_read_4 : decode cX4_read 4 = .ok (.aload_n 0, 1) := by decide +kernel
theorem dX4_read_5 : decode cX4_read 5 = .ok (.getfield 19, 3) := by decide +kernel
theorem dX4_read_8 : decode cX4_read 8 = .ok (.aload_n 0, 1) := by decide +kernel
theorem dX4_read_9 : decode cX4_read 9 = .ok (.getfield 10, 3) := by decide +kernel
theorem dX4_read_12 : decode cX4_read 12 = .ok (.invokevirtual 45, 3) := by decide +kernel
theorem dX4_read_15 : decode cX4_read 15 = .ok (.aload_n 0, 1) := by decide +kernel
theorem dX4_read_16 : decode cX4_read 16 = .ok (.getfield 10, 3) := by decide +kernel
theorem dX4_read_19 : decode cX4_read 19 = .ok (.iload_n 1, 1) := by decide +kernel
theorem dX4_read_20 : decode cX4_read 20 = .ok (.invokevirtual 119, 3) := by decide +kernel
theorem dX4_read_23 : decode cX4_read 23 = .ok (.ireturn, 1) := by decide +kernel
theorem dX4_pass_0 : decode cX4_pass 0 = .ok (.iload_n 1, 1) := by decide +kernel
theorem dX4_pass_1 : decode cX4_pass 1 = .ok (.iconst 1, 1) := by decide +kernel
theorem dX4_pass_2 : decode cX4_pass 2 = .ok (.if_icmp .lt 9, 3) := by decide +kernel
theorem dX4_pass_5 : decode cX4_pass 5 = .ok (.iload_n 1, 1) := by decide +kernel
theorem dX4_pass_6 : decode cX4_pass 6 = .ok (.bipush 60, 2) := by decide +kernel
theorem dX4_pass_8 : decode cX4_pass 8 = .ok (.if_icmp .le 13, 3) := by decide +kernel
theorem dX4_pass_11 : decode cX4_pass 11 = .ok (.new 93, 3) := by decide +kernel
theorem dX4_pass_14 : decode cX4_pass 14 = .ok (.dup, 1) := by decide +kernel
theorem dX4_pass_15 : decode cX4_pass 15 = .ok (.ldc 122, 2) := by decide +kernel
theorem dX4_pass_17 : decode cX4_pass 17 = .ok (.invokespecial 97, 3) := by decide +kernel
theorem dX4_pass_20 : decode cX4_pass 20 = .ok (.athrow, 1) := by decide +kernel
theorem dX4_pass_21 : decode cX4_pass 21 = .ok (.aload_n 0, 1) := by decide +kernel
theorem dX4_pass_22 : decode cX4_pass 22 = .ok (.getfield 19, 3) := by decide +kernel
theorem dX4_pass_25 : decode cX4_pass 25 = .ok (.aload_n 0, 1) := by decide +kernel
theorem dX4_pass_26 : decode cX4_pass 26 = .ok (.getfield 10, 3) := by decide +kernel
theorem dX4_pass_29 : decode cX4_pass 29 = .ok (.invokevirtual 45, 3) := by decide +kernel
theorem dX4_pass_32 : decode cX4_pass 32 = .ok (.aload_n 0, 1) := by decide +kernel
theorem dX4_pass_33 : decode cX4_pass 33 = .ok (.getfield 10, 3) := by decide +kernel
theorem dX4_pass_36 : decode cX4_pass 36 = .ok (.iload_n 1, 1) := by decide +kernel
theorem dX4_pass_37 : decode cX4_pass 37 = .ok (.invokevirtual 124, 3) := by decide +kernel
theorem dX4_pass_40 : decode cX4_pass 40 = .ok (.ireturn, 1) := by decide +kernel
theorem dX4_append_0 : decode cX4_append 0 = .ok (.iload_n 1, 1) := by decide +kernel
theorem dX4_append_1 : decode cX4_append 1 = .ok (.bipush 33, 2) := by decide +kernel
theorem dX4_append_3 : decode cX4_append 3 = .ok (.if_icmp .lt 9, 3) := by decide +kernel
theorem dX4_append_6 : decode cX4_append 6 = .ok (.iload_n 1, 1) := by decide +kernel
theorem dX4_append_7 : decode cX4_append 7 = .ok (.bipush 126, 2) := by decide +kernel
theorem dX4_append_9 : decode cX4_append 9 = .ok (.if_icmp .le 13, 3) := by decide +kernel
theorem dX4_append_12 : decode cX4_append 12 = .ok (.new 93, 3) := by decide +kernel
theorem dX4_append_15 : decode cX4_append 15 = .ok (.dup, 1) := by decide +kernel
theorem dX4_append_16 : decode cX4_append 16 = .ok (.ldc 127, 2) := by decide +kernel
theorem dX4_append_18 : decode cX4_append 18 = .ok (.invokespecial 97, 3) := by decide +kernel
theorem dX4_append_21 : decode cX4_append 21 = .ok (.athrow, 1) := by decide +kernel
theorem dX4_append_22 : decode cX4_append 22 = .ok (.aload_n 0, 1) := by decide +kernel
theorem dX4_append_23 : decode cX4_append 23 = .ok (.getfield 26, 3) := by decide +kernel
theorem dX4_append_26 : decode cX4_append 26 = .ok (.invokevirtual 129, 3) := by decide +kernel
theorem dX4_append_29 : decode cX4_append 29 = .ok (.ifCond .eq 13, 3) := by decide +kernel
theorem dX4_append_32 : decode cX4_append 32 = .ok (.new 38, 3) := by decide +kernel
theorem dX4_append_35 : decode cX4_append 35 = .ok (.dup, 1) := by decide +kernel
theorem dX4_append_36 : decode cX4_append 36 = .ok (.ldc 132, 2) := by decide +kernel
theorem dX4_append_38 : decode cX4_append 38 = .ok (.invokespecial 42, 3) := by decide +kernel
theorem dX4_append_41 : decode cX4_append 41 = .ok (.athrow, 1) := by decide +kernel
theorem dX4_append_42 : decode cX4_append 42 = .ok (.aload_n 0, 1) := by decide +kernel
theorem dX4_append_43 : decode cX4_append 43 = .ok (.getfield 26, 3) := by decide +kernel
theorem dX4_append_46 : decode cX4_append 46 = .ok (.iload_n 1, 1) := by decide +kernel
theorem dX4_append_47 : decode cX4_append 47 = .ok (.i2c, 1) := by decide +kernel
theorem dX4_append_48 : decode cX4_append 48 = .ok (.invokevirtual 134, 3) := by decide +kernel
theorem dX4_append_51 : decode cX4_append 51 = .ok (.ireturn, 1) := by decide +kernel
theorem dX4_clearBuffer_0 : decode cX4_clearBuffer 0 = .ok (.aload_n 0, 1) := by decide +kernel
theorem dX4_clearBuffer_1 : decode cX4_clearBuffer 1 = .ok (.getfield 26, 3) := by decide +kernel
theorem dX4_clearBuffer_4 : decode cX4_clearBuffer 4 = .ok (.invokevirtual 138, 3) := by decide +kernel
theorem dX4_clearBuffer_7 : decode cX4_clearBuffer 7 = .ok (.ireturn, 1) := by decide +kernel
theorem dX4_firstError_0 : decode cX4_firstError 0 = .ok (.aload_n 0, 1) := by decide +kernel
theorem dX4_firstError_1 : decode cX4_firstError 1 = .ok (.getfield 26, 3) := by decide +kernel
theorem dX4_firstError_4 : decode cX4_firstError 4 = .ok (.invokevirtual 142, 3) := by decide +kernel
theorem dX4_firstError_7 : decode cX4_firstError 7 = .ok (.ireturn, 1) := by decide +kernel
theorem dX4_play_0 : decode cX4_play 0 = .ok (.aload_n 0, 1) := by decide +kernel
theorem dX4_play_1 : decode cX4_play 1 = .ok (.getfield 26, 3) := by decide +kernel
theorem dX4_play_4 : decode cX4_play 4 = .ok (.invokevirtual 145, 3) := by decide +kernel
theorem dX4_play_7 : decode cX4_play 7 = .ok (.ifCond .ne 13, 3) := by decide +kernel
theorem dX4_play_10 : decode cX4_play 10 = .ok (.new 93, 3) := by decide +kernel
theorem dX4_play_13 : decode cX4_play 13 = .ok (.dup, 1) := by decide +kernel
theorem dX4_play_14 : decode cX4_play 14 = .ok (.ldc 148, 2) := by decide +kernel
theorem dX4_play_16 : decode cX4_play 16 = .ok (.invokespecial 97, 3) := by decide +kernel
theorem dX4_play_19 : decode cX4_play 19 = .ok (.athrow, 1) := by decide +kernel
theorem dX4_play_20 : decode cX4_play 20 = .ok (.aload_n 0, 1) := by decide +kernel
theorem dX4_play_21 : decode cX4_play 21 = .ok (.getfield 19, 3) := by decide +kernel
theorem dX4_play_24 : decode cX4_play 24 = .ok (.aload_n 0, 1) := by decide +kernel
theorem dX4_play_25 : decode cX4_play 25 = .ok (.getfield 10, 3) := by decide +kernel
theorem dX4_play_28 : decode cX4_play 28 = .ok (.invokevirtual 45, 3) := by decide +kernel
theorem dX4_play_31 : decode cX4_play 31 = .ok (.aload_n 0, 1) := by decide +kernel
theorem dX4_play_32 : decode cX4_play 32 = .ok (.invokevirtual 150, 3) := by decide +kernel
theorem dX4_play_35 : decode cX4_play 35 = .ok (.istore_n 1, 1) := by decide +kernel
theorem dX4_play_36 : decode cX4_play 36 = .ok (.aload_n 0, 1) := by decide +kernel
theorem dX4_play_37 : decode cX4_play 37 = .ok (.getfield 26, 3) := by decide +kernel
theorem dX4_play_40 : decode cX4_play 40 = .ok (.invokevirtual 138, 3) := by decide +kernel
theorem dX4_play_43 : decode cX4_play 43 = .ok (.pop, 1) := by decide +kernel
theorem dX4_play_44 : decode cX4_play 44 = .ok (.iload_n 1, 1) := by decide +kernel
theorem dX4_play_45 : decode cX4_play 45 = .ok (.ireturn, 1) := by decide +kernel
theorem dX4_undo_0 : decode cX4_undo 0 = .ok (.aload_n 0, 1) := by decide +kernel
theorem dX4_undo_1 : decode cX4_undo 1 = .ok (.getfield 19, 3) := by decide +kernel
theorem dX4_undo_4 : decode cX4_undo 4 = .ok (.getfield 153, 3) := by decide +kernel
theorem dX4_undo_7 : decode cX4_undo 7 = .ok (.ifCond .ne 13, 3) := by decide +kernel
theorem dX4_undo_10 : decode cX4_undo 10 = .ok (.new 38, 3) := by decide +kernel
theorem dX4_undo_13 : decode cX4_undo 13 = .ok (.dup, 1) := by decide +kernel
theorem dX4_undo_14 : decode cX4_undo 14 = .ok (.ldc 156, 2) := by decide +kernel
theorem dX4_undo_16 : decode cX4_undo 16 = .ok (.invokespecial 42, 3) := by decide +kernel
theorem dX4_undo_19 : decode cX4_undo 19 = .ok (.athrow, 1) := by decide +kernel
theorem dX4_undo_20 : decode cX4_undo 20 = .ok (.aload_n 0, 1) := by decide +kernel
theorem dX4_undo_21 : decode cX4_undo 21 = .ok (.getfield 19, 3) := by decide +kernel
theorem dX4_undo_24 : decode cX4_undo 24 = .ok (.aload_n 0, 1) := by decide +kernel
theorem dX4_undo_25 : decode cX4_undo 25 = .ok (.getfield 10, 3) := by decide +kernel
theorem dX4_undo_28 : decode cX4_undo 28 = .ok (.invokevirtual 158, 3) := by decide +kernel
theorem dX4_undo_31 : decode cX4_undo 31 = .ok (.ireturn, 1) := by decide +kernel
theorem dX4_room_0 : decode cX4_room 0 = .ok (.iload_n 1, 1) := by decide +kernel
theorem dX4_room_1 : decode cX4_room 1 = .ok (.invokestatic 30, 3) := by decide +kernel
theorem dX4_room_4 : decode cX4_room 4 = .ok (.iload_n 2, 1) := by decide +kernel
theorem dX4_room_5 : decode cX4_room 5 = .ok (.bipush 8, 2) := by decide +kernel
theorem dX4_room_7 : decode cX4_room 7 = .ok (.invokestatic 162, 3) := by decide +kernel
theorem dX4_room_10 : decode cX4_room 10 = .ok (.aload_n 0, 1) := by decide +kernel
theorem dX4_room_11 : decode cX4_room 11 = .ok (.getfield 10, 3) := by decide +kernel
theorem dX4_room_14 : decode cX4_room 14 = .ok (.iload_n 1, 1) := by decide +kernel
theorem dX4_room_15 : decode cX4_room 15 = .ok (.invokevirtual 76, 3) := by decide +kernel
theorem dX4_room_18 : decode cX4_room 18 = .ok (.iload_n 2, 1) := by decide +kernel
theorem dX4_room_19 : decode cX4_room 19 = .ok (.invokevirtual 166, 3) := by decide +kernel
theorem dX4_room_22 : decode cX4_room 22 = .ok (.ireturn, 1) := by decide +kernel
theorem dX4_thing_0 : decode cX4_thing 0 = .ok (.iload_n 1, 1) := by decide +kernel
theorem dX4_thing_1 : decode cX4_thing 1 = .ok (.invokestatic 108, 3) := by decide +kernel
theorem dX4_thing_4 : decode cX4_thing 4 = .ok (.iload_n 2, 1) := by decide +kernel
theorem dX4_thing_5 : decode cX4_thing 5 = .ok (.iconst 3, 1) := by decide +kernel
theorem dX4_thing_6 : decode cX4_thing 6 = .ok (.invokestatic 162, 3) := by decide +kernel
theorem dX4_thing_9 : decode cX4_thing 9 = .ok (.aload_n 0, 1) := by decide +kernel
theorem dX4_thing_10 : decode cX4_thing 10 = .ok (.getfield 10, 3) := by decide +kernel
theorem dX4_thing_13 : decode cX4_thing 13 = .ok (.iload_n 1, 1) := by decide +kernel
theorem dX4_thing_14 : decode cX4_thing 14 = .ok (.iload_n 2, 1) := by decide +kernel
theorem dX4_thing_15 : decode cX4_thing 15 = .ok (.invokevirtual 169, 3) := by decide +kernel
theorem dX4_thing_18 : decode cX4_thing 18 = .ok (.ireturn, 1) := by decide +kernel
theorem dX4_count_0 : decode cX4_count 0 = .ok (.iload_n 1, 1) := by decide +kernel
theorem dX4_count_1 : decode cX4_count 1 = .ok (.bipush 12, 2) := by decide +kernel
theorem dX4_count_3 : decode cX4_count 3 = .ok (.invokestatic 162, 3) := by decide +kernel
theorem dX4_count_6 : decode cX4_count 6 = .ok (.aload_n 0, 1) := by decide +kernel
theorem dX4_count_7 : decode cX4_count 7 = .ok (.iload_n 1, 1) := by decide +kernel
theorem dX4_count_8 : decode cX4_count 8 = .ok (.invokevirtual 172, 3) := by decide +kernel
theorem dX4_count_11 : decode cX4_count 11 = .ok (.ireturn, 1) := by decide +kernel
theorem dX4_lasts_0 : decode cX4_lasts 0 = .ok (.iload_n 1, 1) := by decide +kernel
theorem dX4_lasts_1 : decode cX4_lasts 1 = .ok (.invokestatic 30, 3) := by decide +kernel
theorem dX4_lasts_4 : decode cX4_lasts 4 = .ok (.aload_n 0, 1) := by decide +kernel
theorem dX4_lasts_5 : decode cX4_lasts 5 = .ok (.getfield 10, 3) := by decide +kernel
theorem dX4_lasts_8 : decode cX4_lasts 8 = .ok (.iload_n 1, 1) := by decide +kernel
theorem dX4_lasts_9 : decode cX4_lasts 9 = .ok (.invokevirtual 175, 3) := by decide +kernel
theorem dX4_lasts_12 : decode cX4_lasts 12 = .ok (.ireturn, 1) := by decide +kernel
theorem dX4_nextForgotten_0 : decode cX4_nextForgotten 0 = .ok (.aload_n 0, 1) := by decide +kernel
theorem dX4_nextForgotten_1 : decode cX4_nextForgotten 1 = .ok (.getfield 10, 3) := by decide +kernel
theorem dX4_nextForgotten_4 : decode cX4_nextForgotten 4 = .ok (.invokevirtual 178, 3) := by decide +kernel
theorem dX4_nextForgotten_7 : decode cX4_nextForgotten 7 = .ok (.ireturn, 1) := by decide +kernel
theorem dX4_carried_0 : decode cX4_carried 0 = .ok (.iload_n 1, 1) := by decide +kernel
theorem dX4_carried_1 : decode cX4_carried 1 = .ok (.invokestatic 30, 3) := by decide +kernel
theorem dX4_carried_4 : decode cX4_carried 4 = .ok (.aload_n 0, 1) := by decide +kernel
theorem dX4_carried_5 : decode cX4_carried 5 = .ok (.getfield 10, 3) := by decide +kernel
theorem dX4_carried_8 : decode cX4_carried 8 = .ok (.iload_n 1, 1) := by decide +kernel
theorem dX4_carried_9 : decode cX4_carried 9 = .ok (.invokevirtual 181, 3) := by decide +kernel
theorem dX4_carried_12 : decode cX4_carried 12 = .ok (.ireturn, 1) := by decide +kernel
theorem dX4_needy_0 : decode cX4_needy 0 = .ok (.aload_n 0, 1) := by decide +kernel
theorem dX4_needy_1 : decode cX4_needy 1 = .ok (.getfield 10, 3) := by decide +kernel
theorem dX4_needy_4 : decode cX4_needy 4 = .ok (.invokevirtual 184, 3) := by decide +kernel
theorem dX4_needy_7 : decode cX4_needy 7 = .ok (.ireturn, 1) := by decide +kernel
theorem dX4_saves_0 : decode cX4_saves 0 = .ok (.iload_n 1, 1) := by decide +kernel
theorem dX4_saves_1 : decode cX4_saves 1 = .ok (.invokestatic 30, 3) := by decide +kernel
theorem dX4_saves_4 : decode cX4_saves 4 = .ok (.aload_n 0, 1) := by decide +kernel
theorem dX4_saves_5 : decode cX4_saves 5 = .ok (.getfield 10, 3) := by decide +kernel
theorem dX4_saves_8 : decode cX4_saves 8 = .ok (.iload_n 1, 1) := by decide +kernel
theorem dX4_saves_9 : decode cX4_saves 9 = .ok (.invokevirtual 76, 3) := by decide +kernel
theorem dX4_saves_12 : decode cX4_saves 12 = .ok (.invokevirtual 187, 3) := by decide +kernel
theorem dX4_saves_15 : decode cX4_saves 15 = .ok (.ireturn, 1) := by decide +kernel
theorem dX4_lit_0 : decode cX4_lit 0 = .ok (.aload_n 0, 1) := by decide +kernel
theorem dX4_lit_1 : decode cX4_lit 1 = .ok (.getfield 10, 3) := by decide +kernel
theorem dX4_lit_4 : decode cX4_lit 4 = .ok (.invokevirtual 190, 3) := by decide +kernel
theorem dX4_lit_7 : decode cX4_lit 7 = .ok (.dreturn, 1) := by decide +kernel
theorem dX4_digest_0 : decode cX4_digest 0 = .ok (.ldc2_w 194, 3) := by decide +kernel
theorem dX4_digest_3 : decode cX4_digest 3 = .ok (.lstore_n 1, 1) := by decide +kernel
theorem dX4_digest_4 : decode cX4_digest 4 = .ok (.iconst 0, 1) := by decide +kernel
theorem dX4_digest_5 : decode cX4_digest 5 = .ok (.istore_n 3, 1) := by decide +kernel
theorem dX4_digest_6 : decode cX4_digest 6 = .ok (.iload_n 3, 1) := by decide +kernel
theorem dX4_digest_7 : decode cX4_digest 7 = .ok (.bipush 12, 2) := by decide +kernel
theorem dX4_digest_9 : decode cX4_digest 9 = .ok (.if_icmp .ge 20, 3) := by decide +kernel
theorem dX4_digest_12 : decode cX4_digest 12 = .ok (.lload_n 1, 1) := by decide +kernel
theorem dX4_digest_13 : decode cX4_digest 13 = .ok (.aload_n 0, 1) := by decide +kernel
theorem dX4_digest_14 : decode cX4_digest 14 = .ok (.iload_n 3, 1) := by decide +kernel
theorem dX4_digest_15 : decode cX4_digest 15 = .ok (.invokevirtual 172, 3) := by decide +kernel
theorem dX4_digest_18 : decode cX4_digest 18 = .ok (.i2l, 1) := by decide +kernel
theorem dX4_digest_19 : decode cX4_digest 19 = .ok (.invokestatic 196, 3) := by decide +kernel
theorem dX4_digest_22 : decode cX4_digest 22 = .ok (.lstore_n 1, 1) := by decide +kernel
theorem dX4_digest_23 : decode cX4_digest 23 = .ok (.iinc 3 1, 3) := by decide +kernel
theorem dX4_digest_26 : decode cX4_digest 26 = .ok (.goto (-20), 3) := by decide +kernel
theorem dX4_digest_29 : decode cX4_digest 29 = .ok (.iconst 0, 1) := by decide +kernel
theorem dX4_digest_30 : decode cX4_digest 30 = .ok (.istore_n 3, 1) := by decide +kernel
theorem dX4_digest_31 : decode cX4_digest 31 = .ok (.iload_n 3, 1) := by decide +kernel
theorem dX4_digest_32 : decode cX4_digest 32 = .ok (.bipush 6, 2) := by decide +kernel
theorem dX4_digest_34 : decode cX4_digest 34 = .ok (.if_icmp .ge 16, 3) := by decide +kernel
theorem dX4_digest_37 : decode cX4_digest 37 = .ok (.aload_n 0, 1) := by decide +kernel
theorem dX4_digest_38 : decode cX4_digest 38 = .ok (.lload_n 1, 1) := by decide +kernel
theorem dX4_digest_39 : decode cX4_digest 39 = .ok (.iload_n 3, 1) := by decide +kernel
theorem dX4_digest_40 : decode cX4_digest 40 = .ok (.invokevirtual 200, 3) := by decide +kernel
theorem dX4_digest_43 : decode cX4_digest 43 = .ok (.lstore_n 1, 1) := by decide +kernel
theorem dX4_digest_44 : decode cX4_digest 44 = .ok (.iinc 3 1, 3) := by decide +kernel
theorem dX4_digest_47 : decode cX4_digest 47 = .ok (.goto (-16), 3) := by decide +kernel
theorem dX4_digest_50 : decode cX4_digest 50 = .ok (.lload_n 1, 1) := by decide +kernel
theorem dX4_digest_51 : decode cX4_digest 51 = .ok (.aload_n 0, 1) := by decide +kernel
theorem dX4_digest_52 : decode cX4_digest 52 = .ok (.getfield 10, 3) := by decide +kernel
theorem dX4_digest_55 : decode cX4_digest 55 = .ok (.invokevirtual 178, 3) := by decide +kernel
theorem dX4_digest_58 : decode cX4_digest 58 = .ok (.i2l, 1) := by decide +kernel
theorem dX4_digest_59 : decode cX4_digest 59 = .ok (.invokestatic 196, 3) := by decide +kernel
theorem dX4_digest_62 : decode cX4_digest 62 = .ok (.lstore_n 1, 1) := by decide +kernel
theorem dX4_digest_63 : decode cX4_digest 63 = .ok (.lload_n 1, 1) := by decide +kernel
theorem dX4_digest_64 : decode cX4_digest 64 = .ok (.aload_n 0, 1) := by decide +kernel
theorem dX4_digest_65 : decode cX4_digest 65 = .ok (.getfield 10, 3) := by decide +kernel
theorem dX4_digest_68 : decode cX4_digest 68 = .ok (.invokevirtual 184, 3) := by decide +kernel
theorem dX4_digest_71 : decode cX4_digest 71 = .ok (.i2l, 1) := by decide +kernel
theorem dX4_digest_72 : decode cX4_digest 72 = .ok (.invokestatic 196, 3) := by decide +kernel
theorem dX4_digest_75 : decode cX4_digest 75 = .ok (.lstore_n 1, 1) := by decide +kernel
theorem dX4_digest_76 : decode cX4_digest 76 = .ok (.lload_n 1, 1) := by decide +kernel
theorem dX4_digest_77 : decode cX4_digest 77 = .ok (.aload_n 0, 1) := by decide +kernel
theorem dX4_digest_78 : decode cX4_digest 78 = .ok (.getfield 10, 3) := by decide +kernel
theorem dX4_digest_81 : decode cX4_digest 81 = .ok (.invokevirtual 190, 3) := by decide +kernel
theorem dX4_digest_84 : decode cX4_digest 84 = .ok (.invokestatic 204, 3) := by decide +kernel
theorem dX4_digest_87 : decode cX4_digest 87 = .ok (.invokestatic 196, 3) := by decide +kernel
theorem dX4_digest_90 : decode cX4_digest 90 = .ok (.lstore_n 1, 1) := by decide +kernel
theorem dX4_digest_91 : decode cX4_digest 91 = .ok (.lload_n 1, 1) := by decide +kernel
theorem dX4_digest_92 : decode cX4_digest 92 = .ok (.aload_n 0, 1) := by decide +kernel
theorem dX4_digest_93 : decode cX4_digest 93 = .ok (.getfield 26, 3) := by decide +kernel
theorem dX4_digest_96 : decode cX4_digest 96 = .ok (.getfield 208, 3) := by decide +kernel
theorem dX4_digest_99 : decode cX4_digest 99 = .ok (.i2l, 1) := by decide +kernel
theorem dX4_digest_100 : decode cX4_digest 100 = .ok (.invokestatic 196, 3) := by decide +kernel
theorem dX4_digest_103 : decode cX4_digest 103 = .ok (.lstore_n 1, 1) := by decide +kernel
theorem dX4_digest_104 : decode cX4_digest 104 = .ok (.iconst 0, 1) := by decide +kernel
theorem dX4_digest_105 : decode cX4_digest 105 = .ok (.istore_n 3, 1) := by decide +kernel
theorem dX4_digest_106 : decode cX4_digest 106 = .ok (.iload_n 3, 1) := by decide +kernel
theorem dX4_digest_107 : decode cX4_digest 107 = .ok (.aload_n 0, 1) := by decide +kernel
theorem dX4_digest_108 : decode cX4_digest 108 = .ok (.getfield 26, 3) := by decide +kernel
theorem dX4_digest_111 : decode cX4_digest 111 = .ok (.getfield 208, 3) := by decide +kernel
theorem dX4_digest_114 : decode cX4_digest 114 = .ok (.if_icmp .ge 23, 3) := by decide +kernel
theorem dX4_digest_117 : decode cX4_digest 117 = .ok (.lload_n 1, 1) := by decide +kernel
theorem dX4_digest_118 : decode cX4_digest 118 = .ok (.aload_n 0, 1) := by decide +kernel
theorem dX4_digest_119 : decode cX4_digest 119 = .ok (.getfield 26, 3) := by decide +kernel
theorem dX4_digest_122 : decode cX4_digest 122 = .ok (.iload_n 3, 1) := by decide +kernel
theorem dX4_digest_123 : decode cX4_digest 123 = .ok (.invokevirtual 211, 3) := by decide +kernel
theorem dX4_digest_126 : decode cX4_digest 126 = .ok (.i2l, 1) := by decide +kernel
theorem dX4_digest_127 : decode cX4_digest 127 = .ok (.invokestatic 196, 3) := by decide +kernel
theorem dX4_digest_130 : decode cX4_digest 130 = .ok (.lstore_n 1, 1) := by decide +kernel
theorem dX4_digest_131 : decode cX4_digest 131 = .ok (.iinc 3 1, 3) := by decide +kernel
theorem dX4_digest_134 : decode cX4_digest 134 = .ok (.goto (-28), 3) := by decide +kernel
theorem dX4_digest_137 : decode cX4_digest 137 = .ok (.lload_n 1, 1) := by decide +kernel
theorem dX4_digest_138 : decode cX4_digest 138 = .ok (.lreturn, 1) := by decide +kernel
theorem dX4_requireRoom_0 : decode cX4_requireRoom 0 = .ok (.iload_n 0, 1) := by decide +kernel
theorem dX4_requireRoom_1 : decode cX4_requireRoom 1 = .ok (.invokestatic 68, 3) := by decide +kernel
theorem dX4_requireRoom_4 : decode cX4_requireRoom 4 = .ok (.ifCond .ne 13, 3) := by decide +kernel
theorem dX4_requireRoom_7 : decode cX4_requireRoom 7 = .ok (.new 71, 3) := by decide +kernel
theorem dX4_requireRoom_10 : decode cX4_requireRoom 10 = .ok (.dup, 1) := by decide +kernel
theorem dX4_requireRoom_11 : decode cX4_requireRoom 11 = .ok (.ldc 214, 2) := by decide +kernel
theorem dX4_requireRoom_13 : decode cX4_requireRoom 13 = .ok (.invokespecial 75, 3) := by decide +kernel
theorem dX4_requireRoom_16 : decode cX4_requireRoom 16 = .ok (.athrow, 1) := by decide +kernel
theorem dX4_requireRoom_17 : decode cX4_requireRoom 17 = .ok (.return_, 1) := by decide +kernel
theorem dX4_requireKey_0 : decode cX4_requireKey 0 = .ok (.iload_n 0, 1) := by decide +kernel
theorem dX4_requireKey_1 : decode cX4_requireKey 1 = .ok (.ifCond .lt 9, 3) := by decide +kernel
theorem dX4_requireKey_4 : decode cX4_requireKey 4 = .ok (.iload_n 0, 1) := by decide +kernel
theorem dX4_requireKey_5 : decode cX4_requireKey 5 = .ok (.bipush 100, 2) := by decide +kernel
theorem dX4_requireKey_7 : decode cX4_requireKey 7 = .ok (.if_icmp .lt 13, 3) := by decide +kernel
theorem dX4_requireKey_10 : decode cX4_requireKey 10 = .ok (.new 93, 3) := by decide +kernel
theorem dX4_requireKey_13 : decode cX4_requireKey 13 = .ok (.dup, 1) := by decide +kernel
theorem dX4_requireKey_14 : decode cX4_requireKey 14 = .ok (.ldc 216, 2) := by decide +kernel
theorem dX4_requireKey_16 : decode cX4_requireKey 16 = .ok (.invokespecial 97, 3) := by decide +kernel
theorem dX4_requireKey_19 : decode cX4_requireKey 19 = .ok (.athrow, 1) := by decide +kernel
theorem dX4_requireKey_20 : decode cX4_requireKey 20 = .ok (.return_, 1) := by decide +kernel
theorem dX4_requireNumber_0 : decode cX4_requireNumber 0 = .ok (.iload_n 0, 1) := by decide +kernel
theorem dX4_requireNumber_1 : decode cX4_requireNumber 1 = .ok (.ifCond .lt 8, 3) := by decide +kernel
theorem dX4_requireNumber_4 : decode cX4_requireNumber 4 = .ok (.iload_n 0, 1) := by decide +kernel
theorem dX4_requireNumber_5 : decode cX4_requireNumber 5 = .ok (.iload_n 1, 1) := by decide +kernel
theorem dX4_requireNumber_6 : decode cX4_requireNumber 6 = .ok (.if_icmp .lt 13, 3) := by decide +kernel
theorem dX4_requireNumber_9 : decode cX4_requireNumber 9 = .ok (.new 93, 3) := by decide +kernel
theorem dX4_requireNumber_12 : decode cX4_requireNumber 12 = .ok (.dup, 1) := by decide +kernel
theorem dX4_requireNumber_13 : decode cX4_requireNumber 13 = .ok (.ldc 218, 2) := by decide +kernel
theorem dX4_requireNumber_15 : decode cX4_requireNumber 15 = .ok (.invokespecial 97, 3) := by decide +kernel
theorem dX4_requireNumber_18 : decode cX4_requireNumber 18 = .ok (.athrow, 1) := by decide +kernel
theorem dX4_requireNumber_19 : decode cX4_requireNumber 19 = .ok (.return_, 1) := by decide +kernel
theorem dX4_isRoom_0 : decode cX4_isRoom 0 = .ok (.iload_n 0, 1) := by decide +kernel
theorem dX4_isRoom_1 : decode cX4_isRoom 1 = .ok (.ifCond .lt 13, 3) := by decide +kernel
theorem dX4_isRoom_4 : decode cX4_isRoom 4 = .ok (.iload_n 0, 1) := by decide +kernel
theorem dX4_isRoom_5 : decode cX4_isRoom 5 = .ok (.bipush 6, 2) := by decide +kernel
theorem dX4_isRoom_7 : decode cX4_isRoom 7 = .ok (.if_icmp .ge 7, 3) := by decide +kernel
theorem dX4_isRoom_10 : decode cX4_isRoom 10 = .ok (.iconst 1, 1) := by decide +kernel
theorem dX4_isRoom_11 : decode cX4_isRoom 11 = .ok (.goto 4, 3) := by decide +kernel
theorem dX4_isRoom_14 : decode cX4_isRoom 14 = .ok (.iconst 0, 1) := by decide +kernel
theorem dX4_isRoom_15 : decode cX4_isRoom 15 = .ok (.ireturn, 1) := by decide +kernel
theorem dX4_asNumber_0 : decode cX4_asNumber 0 = .ok (.iload_n 0, 1) := by decide +kernel
theorem dX4_asNumber_1 : decode cX4_asNumber 1 = .ok (.ifCond .eq 7, 3) := by decide +kernel
theorem dX4_asNumber_4 : decode cX4_asNumber 4 = .ok (.iconst 1, 1) := by decide +kernel
theorem dX4_asNumber_5 : decode cX4_asNumber 5 = .ok (.goto 4, 3) := by decide +kernel
theorem dX4_asNumber_8 : decode cX4_asNumber 8 = .ok (.iconst 0, 1) := by decide +kernel
theorem dX4_asNumber_9 : decode cX4_asNumber 9 = .ok (.ireturn, 1) := by decide +kernel
theorem dX4_countNumber_0 : decode cX4_countNumber 0 = .ok (.iload_n 1, 1) := by decide +kernel
theorem dX4_countNumber_1 : decode cX4_countNumber 1 = .ok (.tableswitch 147 0 10 #[59, 67, 75, 83, 91, 99, 107, 115, 123, 131, 139], 59) := by decide +kernel
theorem dX4_countNumber_60 : decode cX4_countNumber 60 = .ok (.aload_n 0, 1) := by decide +kernel
theorem dX4_countNumber_61 : decode cX4_countNumber 61 = .ok (.getfield 10, 3) := by decide +kernel
theorem dX4_countNumber_64 : decode cX4_countNumber 64 = .ok (.getfield 220, 3) := by decide +kernel
theorem dX4_countNumber_67 : decode cX4_countNumber 67 = .ok (.ireturn, 1) := by decide +kernel
theorem dX4_countNumber_68 : decode cX4_countNumber 68 = .ok (.aload_n 0, 1) := by decide +kernel
theorem dX4_countNumber_69 : decode cX4_countNumber 69 = .ok (.getfield 10, 3) := by decide +kernel
theorem dX4_countNumber_72 : decode cX4_countNumber 72 = .ok (.getfield 223, 3) := by decide +kernel
theorem dX4_countNumber_75 : decode cX4_countNumber 75 = .ok (.ireturn, 1) := by decide +kernel
theorem dX4_countNumber_76 : decode cX4_countNumber 76 = .ok (.aload_n 0, 1) := by decide +kernel
theorem dX4_countNumber_77 : decode cX4_countNumber 77 = .ok (.getfield 10, 3) := by decide +kernel
theorem dX4_countNumber_80 : decode cX4_countNumber 80 = .ok (.invokevirtual 226, 3) := by decide +kernel
theorem dX4_countNumber_83 : decode cX4_countNumber 83 = .ok (.ireturn, 1) := by decide +kernel
theorem dX4_countNumber_84 : decode cX4_countNumber 84 = .ok (.aload_n 0, 1) := by decide +kernel
theorem dX4_countNumber_85 : decode cX4_countNumber 85 = .ok (.getfield 10, 3) := by decide +kernel
theorem dX4_countNumber_88 : decode cX4_countNumber 88 = .ok (.invokevirtual 229, 3) := by decide +kernel
theorem dX4_countNumber_91 : decode cX4_countNumber 91 = .ok (.ireturn, 1) := by decide +kernel
theorem dX4_countNumber_92 : decode cX4_countNumber 92 = .ok (.aload_n 0, 1) := by decide +kernel
theorem dX4_countNumber_93 : decode cX4_countNumber 93 = .ok (.getfield 10, 3) := by decide +kernel
theorem dX4_countNumber_96 : decode cX4_countNumber 96 = .ok (.getfield 232, 3) := by decide +kernel
theorem dX4_countNumber_99 : decode cX4_countNumber 99 = .ok (.ireturn, 1) := by decide +kernel
theorem dX4_countNumber_100 : decode cX4_countNumber 100 = .ok (.aload_n 0, 1) := by decide +kernel
theorem dX4_countNumber_101 : decode cX4_countNumber 101 = .ok (.getfield 10, 3) := by decide +kernel
theorem dX4_countNumber_104 : decode cX4_countNumber 104 = .ok (.getfield 235, 3) := by decide +kernel
theorem dX4_countNumber_107 : decode cX4_countNumber 107 = .ok (.ireturn, 1) := by decide +kernel
theorem dX4_countNumber_108 : decode cX4_countNumber 108 = .ok (.aload_n 0, 1) := by decide +kernel
theorem dX4_countNumber_109 : decode cX4_countNumber 109 = .ok (.getfield 10, 3) := by decide +kernel
theorem dX4_countNumber_112 : decode cX4_countNumber 112 = .ok (.getfield 238, 3) := by decide +kernel
theorem dX4_countNumber_115 : decode cX4_countNumber 115 = .ok (.ireturn, 1) := by decide +kernel
theorem dX4_countNumber_116 : decode cX4_countNumber 116 = .ok (.aload_n 0, 1) := by decide +kernel
theorem dX4_countNumber_117 : decode cX4_countNumber 117 = .ok (.getfield 10, 3) := by decide +kernel
theorem dX4_countNumber_120 : decode cX4_countNumber 120 = .ok (.getfield 241, 3) := by decide +kernel
theorem dX4_countNumber_123 : decode cX4_countNumber 123 = .ok (.ireturn, 1) := by decide +kernel
theorem dX4_countNumber_124 : decode cX4_countNumber 124 = .ok (.aload_n 0, 1) := by decide +kernel
theorem dX4_countNumber_125 : decode cX4_countNumber 125 = .ok (.getfield 10, 3) := by decide +kernel
theorem dX4_countNumber_128 : decode cX4_countNumber 128 = .ok (.getfield 244, 3) := by decide +kernel
theorem dX4_countNumber_131 : decode cX4_countNumber 131 = .ok (.ireturn, 1) := by decide +kernel
theorem dX4_countNumber_132 : decode cX4_countNumber 132 = .ok (.aload_n 0, 1) := by decide +kernel
theorem dX4_countNumber_133 : decode cX4_countNumber 133 = .ok (.getfield 10, 3) := by decide +kernel
theorem dX4_countNumber_136 : decode cX4_countNumber 136 = .ok (.getfield 247, 3) := by decide +kernel
theorem dX4_countNumber_139 : decode cX4_countNumber 139 = .ok (.ireturn, 1) := by decide +kernel
theorem dX4_countNumber_140 : decode cX4_countNumber 140 = .ok (.aload_n 0, 1) := by decide +kernel
theorem dX4_countNumber_141 : decode cX4_countNumber 141 = .ok (.getfield 10, 3) := by decide +kernel
theorem dX4_countNumber_144 : decode cX4_countNumber 144 = .ok (.getfield 104, 3) := by decide +kernel
theorem dX4_countNumber_147 : decode cX4_countNumber 147 = .ok (.ireturn, 1) := by decide +kernel
theorem dX4_countNumber_148 : decode cX4_countNumber 148 = .ok (.aload_n 0, 1) := by decide +kernel
theorem dX4_countNumber_149 : decode cX4_countNumber 149 = .ok (.getfield 19, 3) := by decide +kernel
theorem dX4_countNumber_152 : decode cX4_countNumber 152 = .ok (.getfield 153, 3) := by decide +kernel
theorem dX4_countNumber_155 : decode cX4_countNumber 155 = .ok (.ireturn, 1) := by decide +kernel
theorem dX4_playDeeds_0 : decode cX4_playDeeds 0 = .ok (.iconst 0, 1) := by decide +kernel
theorem dX4_playDeeds_1 : decode cX4_playDeeds 1 = .ok (.istore_n 1, 1) := by decide +kernel
theorem dX4_playDeeds_2 : decode cX4_playDeeds 2 = .ok (.iconst 0, 1) := by decide +kernel
theorem dX4_playDeeds_3 : decode cX4_playDeeds 3 = .ok (.istore_n 2, 1) := by decide +kernel
theorem dX4_playDeeds_4 : decode cX4_playDeeds 4 = .ok (.iload_n 2, 1) := by decide +kernel
theorem dX4_playDeeds_5 : decode cX4_playDeeds 5 = .ok (.aload_n 0, 1) := by decide +kernel
theorem dX4_playDeeds_6 : decode cX4_playDeeds 6 = .ok (.getfield 26, 3) := by decide +kernel
theorem dX4_playDeeds_9 : decode cX4_playDeeds 9 = .ok (.getfield 208, 3) := by decide +kernel
theorem dX4_playDeeds_12 : decode cX4_playDeeds 12 = .ok (.if_icmp .ge 33, 3) := by decide +kernel
theorem dX4_playDeeds_15 : decode cX4_playDeeds 15 = .ok (.aload_n 0, 1) := by decide +kernel
theorem dX4_playDeeds_16 : decode cX4_playDeeds 16 = .ok (.getfield 26, 3) := by decide +kernel
theorem dX4_playDeeds_19 : decode cX4_playDeeds 19 = .ok (.iload_n 2, 1) := by decide +kernel
theorem dX4_playDeeds_20 : decode cX4_playDeeds 20 = .ok (.invokevirtual 250, 3) := by decide +kernel
theorem dX4_playDeeds_23 : decode cX4_playDeeds 23 = .ok (.ifCond .eq 16, 3) := by decide +kernel
theorem dX4_playDeeds_26 : decode cX4_playDeeds 26 = .ok (.aload_n 0, 1) := by decide +kernel
theorem dX4_playDeeds_27 : decode cX4_playDeeds 27 = .ok (.iload_n 2, 1) := by decide +kernel
theorem dX4_playDeeds_28 : decode cX4_playDeeds 28 = .ok (.invokevirtual 253, 3) := by decide +kernel
theorem dX4_playDeeds_31 : decode cX4_playDeeds 31 = .ok (.ifCond .ne 5, 3) := by decide +kernel
theorem dX4_playDeeds_34 : decode cX4_playDeeds 34 = .ok (.iload_n 1, 1) := by decide +kernel
theorem dX4_playDeeds_35 : decode cX4_playDeeds 35 = .ok (.ireturn, 1) := by decide +kernel
theorem dX4_playDeeds_36 : decode cX4_playDeeds 36 = .ok (.iinc 1 1, 3) := by decide +kernel
theorem dX4_playDeeds_39 : decode cX4_playDeeds 39 = .ok (.iinc 2 1, 3) := by decide +kernel
theorem dX4_playDeeds_42 : decode cX4_playDeeds 42 = .ok (.goto (-38), 3) := by decide +kernel
theorem dX4_playDeeds_45 : decode cX4_playDeeds 45 = .ok (.iload_n 1, 1) := by decide +kernel
theorem dX4_playDeeds_46 : decode cX4_playDeeds 46 = .ok (.ireturn, 1) := by decide +kernel
theorem dX4_playDeed_0 : decode cX4_playDeed 0 = .ok (.aload_n 0, 1) := by decide +kernel
theorem dX4_playDeed_1 : decode cX4_playDeed 1 = .ok (.getfield 26, 3) := by decide +kernel
theorem dX4_playDeed_4 : decode cX4_playDeed 4 = .ok (.iload_n 1, 1) := by decide +kernel
theorem dX4_playDeed_5 : decode cX4_playDeed 5 = .ok (.invokevirtual 256, 3) := by decide +kernel
theorem dX4_playDeed_8 : decode cX4_playDeed 8 = .ok (.istore_n 2, 1) := by decide +kernel
theorem dX4_playDeed_9 : decode cX4_playDeed 9 = .ok (.aload_n 0, 1) := by decide +kernel
theorem dX4_playDeed_10 : decode cX4_playDeed 10 = .ok (.getfield 26, 3) := by decide +kernel
theorem dX4_playDeed_13 : decode cX4_playDeed 13 = .ok (.iload_n 1, 1) := by decide +kernel
theorem dX4_playDeed_14 : decode cX4_playDeed 14 = .ok (.iconst 2, 1) := by decide +kernel
theorem dX4_playDeed_15 : decode cX4_playDeed 15 = .ok (.iadd, 1) := by decide +kernel
theorem dX4_playDeed_16 : decode cX4_playDeed 16 = .ok (.invokevirtual 259, 3) := by decide +kernel
theorem dX4_playDeed_19 : decode cX4_playDeed 19 = .ok (.istore_n 3, 1) := by decide +kernel
theorem dX4_playDeed_20 : decode cX4_playDeed 20 = .ok (.aload_n 0, 1) := by decide +kernel
theorem dX4_playDeed_21 : decode cX4_playDeed 21 = .ok (.getfield 26, 3) := by decide +kernel
theorem dX4_playDeed_24 : decode cX4_playDeed 24 = .ok (.iload_n 1, 1) := by decide +kernel
theorem dX4_playDeed_25 : decode cX4_playDeed 25 = .ok (.iconst 1, 1) := by decide +kernel
theorem dX4_playDeed_26 : decode cX4_playDeed 26 = .ok (.iadd, 1) := by decide +kernel
theorem dX4_playDeed_27 : decode cX4_playDeed 27 = .ok (.invokevirtual 211, 3) := by decide +kernel
theorem dX4_playDeed_30 : decode cX4_playDeed 30 = .ok (.lookupswitch 114 #[(42, 50), (60, 59), (62, 76), (98, 102), (110, 93)], 50) := by decide +kernel
theorem dX4_playDeed_80 : decode cX4_playDeed 80 = .ok (.aload_n 0, 1) := by decide +kernel
theorem dX4_playDeed_81 : decode cX4_playDeed 81 = .ok (.getfield 10, 3) := by decide +kernel
theorem dX4_playDeed_84 : decode cX4_playDeed 84 = .ok (.iload_n 2, 1) := by decide +kernel
theorem dX4_playDeed_85 : decode cX4_playDeed 85 = .ok (.invokevirtual 262, 3) := by decide +kernel
theorem dX4_playDeed_88 : decode cX4_playDeed 88 = .ok (.ireturn, 1) := by decide +kernel
theorem dX4_playDeed_89 : decode cX4_playDeed 89 = .ok (.aload_n 0, 1) := by decide +kernel
theorem dX4_playDeed_90 : decode cX4_playDeed 90 = .ok (.getfield 10, 3) := by decide +kernel
theorem dX4_playDeed_93 : decode cX4_playDeed 93 = .ok (.iload_n 2, 1) := by decide +kernel
theorem dX4_playDeed_94 : decode cX4_playDeed 94 = .ok (.iload_n 2, 1) := by decide +kernel
theorem dX4_playDeed_95 : decode cX4_playDeed 95 = .ok (.iconst 1, 1) := by decide +kernel
theorem dX4_playDeed_96 : decode cX4_playDeed 96 = .ok (.isub, 1) := by decide +kernel
theorem dX4_playDeed_97 : decode cX4_playDeed 97 = .ok (.bipush 6, 2) := by decide +kernel
theorem dX4_playDeed_99 : decode cX4_playDeed 99 = .ok (.invokestatic 265, 3) := by decide +kernel
theorem dX4_playDeed_102 : decode cX4_playDeed 102 = .ok (.invokevirtual 270, 3) := by decide +kernel
theorem dX4_playDeed_105 : decode cX4_playDeed 105 = .ok (.ireturn, 1) := by decide +kernel
theorem dX4_playDeed_106 : decode cX4_playDeed 106 = .ok (.aload_n 0, 1) := by decide +kernel
theorem dX4_playDeed_107 : decode cX4_playDeed 107 = .ok (.getfield 10, 3) := by decide +kernel
theorem dX4_playDeed_110 : decode cX4_playDeed 110 = .ok (.iload_n 2, 1) := by decide +kernel
theorem dX4_playDeed_111 : decode cX4_playDeed 111 = .ok (.iload_n 2, 1) := by decide +kernel
theorem dX4_playDeed_112 : decode cX4_playDeed 112 = .ok (.iconst 1, 1) := by decide +kernel
theorem dX4_playDeed_113 : decode cX4_playDeed 113 = .ok (.iadd, 1) := by decide +kernel
theorem dX4_playDeed_114 : decode cX4_playDeed 114 = .ok (.bipush 6, 2) := by decide +kernel
theorem dX4_playDeed_116 : decode cX4_playDeed 116 = .ok (.invokestatic 265, 3) := by decide +kernel
theorem dX4_playDeed_119 : decode cX4_playDeed 119 = .ok (.invokevirtual 270, 3) := by decide +kernel
theorem dX4_playDeed_122 : decode cX4_playDeed 122 = .ok (.ireturn, 1) := by decide +kernel
theorem dX4_playDeed_123 : decode cX4_playDeed 123 = .ok (.aload_n 0, 1) := by decide +kernel
theorem dX4_playDeed_124 : decode cX4_playDeed 124 = .ok (.getfield 10, 3) := by decide +kernel
theorem dX4_playDeed_127 : decode cX4_playDeed 127 = .ok (.iload_n 2, 1) := by decide +kernel
theorem dX4_playDeed_128 : decode cX4_playDeed 128 = .ok (.invokevirtual 273, 3) := by decide +kernel
theorem dX4_playDeed_131 : decode cX4_playDeed 131 = .ok (.ireturn, 1) := by decide +kernel
theorem dX4_playDeed_132 : decode cX4_playDeed 132 = .ok (.aload_n 0, 1) := by decide +kernel
theorem dX4_playDeed_133 : decode cX4_playDeed 133 = .ok (.getfield 10, 3) := by decide +kernel
theorem dX4_playDeed_136 : decode cX4_playDeed 136 = .ok (.iload_n 2, 1) := by decide +kernel
theorem dX4_playDeed_137 : decode cX4_playDeed 137 = .ok (.iload_n 3, 1) := by decide +kernel
theorem dX4_playDeed_138 : decode cX4_playDeed 138 = .ok (.invokevirtual 98, 3) := by decide +kernel
theorem dX4_playDeed_141 : decode cX4_playDeed 141 = .ok (.pop, 1) := by decide +kernel
theorem dX4_playDeed_142 : decode cX4_playDeed 142 = .ok (.iconst 1, 1) := by decide +kernel
theorem dX4_playDeed_143 : decode cX4_playDeed 143 = .ok (.ireturn, 1) := by decide +kernel
theorem dX4_playDeed_144 : decode cX4_playDeed 144 = .ok (.aload_n 0, 1) := by decide +kernel
theorem dX4_playDeed_145 : decode cX4_playDeed 145 = .ok (.getfield 10, 3) := by decide +kernel
theorem dX4_playDeed_148 : decode cX4_playDeed 148 = .ok (.iload_n 2, 1) := by decide +kernel
theorem dX4_playDeed_149 : decode cX4_playDeed 149 = .ok (.iload_n 3, 1) := by decide +kernel
theorem dX4_playDeed_150 : decode cX4_playDeed 150 = .ok (.invokevirtual 276, 3) := by decide +kernel
theorem dX4_playDeed_153 : decode cX4_playDeed 153 = .ok (.ireturn, 1) := by decide +kernel
theorem dX4_mix_0 : decode cX4_mix 0 = .ok (.ldc2_w 279, 3) := by decide +kernel
theorem dX4_mix_3 : decode cX4_mix 3 = .ok (.lload_n 0, 1) := by decide +kernel
theorem dX4_mix_4 : decode cX4_mix 4 = .ok (.lmul, 1) := by decide +kernel
theorem dX4_mix_5 : decode cX4_mix 5 = .ok (.lload_n 2, 1) := by decide +kernel
theorem dX4_mix_6 : decode cX4_mix 6 = .ok (.ladd, 1) := by decide +kernel
theorem dX4_mix_7 : decode cX4_mix 7 = .ok (.lreturn, 1) := by decide +kernel
theorem dX4_mixRoom_0 : decode cX4_mixRoom 0 = .ok (.lload_n 1, 1) := by decide +kernel
theorem dX4_mixRoom_1 : decode cX4_mixRoom 1 = .ok (.lstore 4, 2) := by decide +kernel
theorem dX4_mixRoom_3 : decode cX4_mixRoom 3 = .ok (.aload_n 0, 1) := by decide +kernel
theorem dX4_mixRoom_4 : decode cX4_mixRoom 4 = .ok (.getfield 10, 3) := by decide +kernel
theorem dX4_mixRoom_7 : decode cX4_mixRoom 7 = .ok (.iload_n 3, 1) := by decide +kernel
theorem dX4_mixRoom_8 : decode cX4_mixRoom 8 = .ok (.invokevirtual 76, 3) := by decide +kernel
theorem dX4_mixRoom_11 : decode cX4_mixRoom 11 = .ok (.astore 6, 2) := by decide +kernel
theorem dX4_mixRoom_13 : decode cX4_mixRoom 13 = .ok (.iconst 0, 1) := by decide +kernel
theorem dX4_mixRoom_14 : decode cX4_mixRoom 14 = .ok (.istore 7, 2) := by decide +kernel
theorem dX4_mixRoom_16 : decode cX4_mixRoom 16 = .ok (.iload 7, 2) := by decide +kernel
theorem dX4_mixRoom_18 : decode cX4_mixRoom 18 = .ok (.bipush 8, 2) := by decide +kernel
theorem dX4_mixRoom_20 : decode cX4_mixRoom 20 = .ok (.if_icmp .ge 24, 3) := by decide +kernel
theorem dX4_mixRoom_23 : decode cX4_mixRoom 23 = .ok (.lload 4, 2) := by decide +kernel
theorem dX4_mixRoom_25 : decode cX4_mixRoom 25 = .ok (.aload 6, 2) := by decide +kernel
theorem dX4_mixRoom_27 : decode cX4_mixRoom 27 = .ok (.iload 7, 2) := by decide +kernel
theorem dX4_mixRoom_29 : decode cX4_mixRoom 29 = .ok (.invokevirtual 166, 3) := by decide +kernel
theorem dX4_mixRoom_32 : decode cX4_mixRoom 32 = .ok (.i2l, 1) := by decide +kernel
theorem dX4_mixRoom_33 : decode cX4_mixRoom 33 = .ok (.invokestatic 196, 3) := by decide +kernel
theorem dX4_mixRoom_36 : decode cX4_mixRoom 36 = .ok (.lstore 4, 2) := by decide +kernel
theorem dX4_mixRoom_38 : decode cX4_mixRoom 38 = .ok (.iinc 7 1, 3) := by decide +kernel
theorem dX4_mixRoom_41 : decode cX4_mixRoom 41 = .ok (.goto (-25), 3) := by decide +kernel
theorem dX4_mixRoom_44 : decode cX4_mixRoom 44 = .ok (.iconst 0, 1) := by decide +kernel
theorem dX4_mixRoom_45 : decode cX4_mixRoom 45 = .ok (.istore 7, 2) := by decide +kernel
theorem dX4_mixRoom_47 : decode cX4_mixRoom 47 = .ok (.iload 7, 2) := by decide +kernel
theorem dX4_mixRoom_49 : decode cX4_mixRoom 49 = .ok (.aload 6, 2) := by decide +kernel
theorem dX4_mixRoom_51 : decode cX4_mixRoom 51 = .ok (.getfield 281, 3) := by decide +kernel
theorem dX4_mixRoom_54 : decode cX4_mixRoom 54 = .ok (.if_icmp .ge 39, 3) := by decide +kernel
theorem dX4_mixRoom_57 : decode cX4_mixRoom 57 = .ok (.lload 4, 2) := by decide +kernel
theorem dX4_mixRoom_59 : decode cX4_mixRoom 59 = .ok (.aload 6, 2) := by decide +kernel
theorem dX4_mixRoom_61 : decode cX4_mixRoom 61 = .ok (.iload 7, 2) := by decide +kernel
theorem dX4_mixRoom_63 : decode cX4_mixRoom 63 = .ok (.invokevirtual 284, 3) := by decide +kernel
theorem dX4_mixRoom_66 : decode cX4_mixRoom 66 = .ok (.i2l, 1) := by decide +kernel
theorem dX4_mixRoom_67 : decode cX4_mixRoom 67 = .ok (.invokestatic 196, 3) := by decide +kernel
theorem dX4_mixRoom_70 : decode cX4_mixRoom 70 = .ok (.lstore 4, 2) := by decide +kernel
theorem dX4_mixRoom_72 : decode cX4_mixRoom 72 = .ok (.lload 4, 2) := by decide +kernel
theorem dX4_mixRoom_74 : decode cX4_mixRoom 74 = .ok (.aload 6, 2) := by decide +kernel
theorem dX4_mixRoom_76 : decode cX4_mixRoom 76 = .ok (.iload 7, 2) := by decide +kernel
theorem dX4_mixRoom_78 : decode cX4_mixRoom 78 = .ok (.invokevirtual 287, 3) := by decide +kernel
theorem dX4_mixRoom_81 : decode cX4_mixRoom 81 = .ok (.i2l, 1) := by decide +kernel
theorem dX4_mixRoom_82 : decode cX4_mixRoom 82 = .ok (.invokestatic 196, 3) := by decide +kernel
theorem dX4_mixRoom_85 : decode cX4_mixRoom 85 = .ok (.lstore 4, 2) := by decide +kernel
theorem dX4_mixRoom_87 : decode cX4_mixRoom 87 = .ok (.iinc 7 1, 3) := by decide +kernel
theorem dX4_mixRoom_90 : decode cX4_mixRoom 90 = .ok (.goto (-43), 3) := by decide +kernel
theorem dX4_mixRoom_93 : decode cX4_mixRoom 93 = .ok (.lload 4, 2) := by decide +kernel
theorem dX4_mixRoom_95 : decode cX4_mixRoom 95 = .ok (.aload_n 0, 1) := by decide +kernel
theorem dX4_mixRoom_96 : decode cX4_mixRoom 96 = .ok (.getfield 10, 3) := by decide +kernel
theorem dX4_mixRoom_99 : decode cX4_mixRoom 99 = .ok (.iload_n 3, 1) := by decide +kernel
theorem dX4_mixRoom_100 : decode cX4_mixRoom 100 = .ok (.invokevirtual 175, 3) := by decide +kernel
theorem dX4_mixRoom_103 : decode cX4_mixRoom 103 = .ok (.i2l, 1) := by decide +kernel
theorem dX4_mixRoom_104 : decode cX4_mixRoom 104 = .ok (.invokestatic 196, 3) := by decide +kernel
theorem dX4_mixRoom_107 : decode cX4_mixRoom 107 = .ok (.lstore 4, 2) := by decide +kernel
theorem dX4_mixRoom_109 : decode cX4_mixRoom 109 = .ok (.lload 4, 2) := by decide +kernel
theorem dX4_mixRoom_111 : decode cX4_mixRoom 111 = .ok (.aload_n 0, 1) := by decide +kernel
theorem dX4_mixRoom_112 : decode cX4_mixRoom 112 = .ok (.getfield 10, 3) := by decide +kernel
theorem dX4_mixRoom_115 : decode cX4_mixRoom 115 = .ok (.iload_n 3, 1) := by decide +kernel
theorem dX4_mixRoom_116 : decode cX4_mixRoom 116 = .ok (.invokevirtual 181, 3) := by decide +kernel
theorem dX4_mixRoom_119 : decode cX4_mixRoom 119 = .ok (.i2l, 1) := by decide +kernel
theorem dX4_mixRoom_120 : decode cX4_mixRoom 120 = .ok (.invokestatic 196, 3) := by decide +kernel
theorem dX4_mixRoom_123 : decode cX4_mixRoom 123 = .ok (.lstore 4, 2) := by decide +kernel
theorem dX4_mixRoom_125 : decode cX4_mixRoom 125 = .ok (.lload 4, 2) := by decide +kernel
theorem dX4_mixRoom_127 : decode cX4_mixRoom 127 = .ok (.aload 6, 2) := by decide +kernel
theorem dX4_mixRoom_129 : decode cX4_mixRoom 129 = .ok (.invokevirtual 187, 3) := by decide +kernel
theorem dX4_mixRoom_132 : decode cX4_mixRoom 132 = .ok (.i2l, 1) := by decide +kernel
theorem dX4_mixRoom_133 : decode cX4_mixRoom 133 = .ok (.invokestatic 196, 3) := by decide +kernel
theorem dX4_mixRoom_136 : decode cX4_mixRoom 136 = .ok (.lreturn, 1) := by decide +kernel
theorem dX4_bitsOf_0 : decode cX4_bitsOf 0 = .ok (.dload_n 0, 1) := by decide +kernel
theorem dX4_bitsOf_1 : decode cX4_bitsOf 1 = .ok (.dconst 0, 1) := by decide +kernel
theorem dX4_bitsOf_2 : decode cX4_bitsOf 2 = .ok (.dcmp .g, 1) := by decide +kernel
theorem dX4_bitsOf_3 : decode cX4_bitsOf 3 = .ok (.ifCond .gt 5, 3) := by decide +kernel
theorem dX4_bitsOf_6 : decode cX4_bitsOf 6 = .ok (.lconst 0, 1) := by decide +kernel
theorem dX4_bitsOf_7 : decode cX4_bitsOf 7 = .ok (.lreturn, 1) := by decide +kernel
theorem dX4_bitsOf_8 : decode cX4_bitsOf 8 = .ok (.dload_n 0, 1) := by decide +kernel
theorem dX4_bitsOf_9 : decode cX4_bitsOf 9 = .ok (.dstore_n 2, 1) := by decide +kernel
theorem dX4_bitsOf_10 : decode cX4_bitsOf 10 = .ok (.ldc2_w 290, 3) := by decide +kernel
theorem dX4_bitsOf_13 : decode cX4_bitsOf 13 = .ok (.lstore 4, 2) := by decide +kernel
theorem dX4_bitsOf_15 : decode cX4_bitsOf 15 = .ok (.iconst 0, 1) := by decide +kernel
theorem dX4_bitsOf_16 : decode cX4_bitsOf 16 = .ok (.istore 6, 2) := by decide +kernel
theorem dX4_bitsOf_18 : decode cX4_bitsOf 18 = .ok (.iload 6, 2) := by decide +kernel
theorem dX4_bitsOf_20 : decode cX4_bitsOf 20 = .ok (.sipush 1022, 3) := by decide +kernel
theorem dX4_bitsOf_23 : decode cX4_bitsOf 23 = .ok (.if_icmp .ge 27, 3) := by decide +kernel
theorem dX4_bitsOf_26 : decode cX4_bitsOf 26 = .ok (.dload_n 2, 1) := by decide +kernel
theorem dX4_bitsOf_27 : decode cX4_bitsOf 27 = .ok (.dconst 1, 1) := by decide +kernel
theorem dX4_bitsOf_28 : decode cX4_bitsOf 28 = .ok (.dcmp .g, 1) := by decide +kernel
theorem dX4_bitsOf_29 : decode cX4_bitsOf 29 = .ok (.ifCond .ge 21, 3) := by decide +kernel
theorem dX4_bitsOf_32 : decode cX4_bitsOf 32 = .ok (.dload_n 2, 1) := by decide +kernel
theorem dX4_bitsOf_33 : decode cX4_bitsOf 33 = .ok (.ldc2_w 292, 3) := by decide +kernel
theorem dX4_bitsOf_36 : decode cX4_bitsOf 36 = .ok (.dmul, 1) := by decide +kernel
theorem dX4_bitsOf_37 : decode cX4_bitsOf 37 = .ok (.dstore_n 2, 1) := by decide +kernel
theorem dX4_bitsOf_38 : decode cX4_bitsOf 38 = .ok (.lload 4, 2) := by decide +kernel
theorem dX4_bitsOf_40 : decode cX4_bitsOf 40 = .ok (.lconst 1, 1) := by decide +kernel
theorem dX4_bitsOf_41 : decode cX4_bitsOf 41 = .ok (.lsub, 1) := by decide +kernel
theorem dX4_bitsOf_42 : decode cX4_bitsOf 42 = .ok (.lstore 4, 2) := by decide +kernel
theorem dX4_bitsOf_44 : decode cX4_bitsOf 44 = .ok (.iinc 6 1, 3) := by decide +kernel
theorem dX4_bitsOf_47 : decode cX4_bitsOf 47 = .ok (.goto (-29), 3) := by decide +kernel
theorem dX4_bitsOf_50 : decode cX4_bitsOf 50 = .ok (.dload_n 2, 1) := by decide +kernel
theorem dX4_bitsOf_51 : decode cX4_bitsOf 51 = .ok (.dconst 1, 1) := by decide +kernel
theorem dX4_bitsOf_52 : decode cX4_bitsOf 52 = .ok (.dsub, 1) := by decide +kernel
theorem dX4_bitsOf_53 : decode cX4_bitsOf 53 = .ok (.ldc2_w 294, 3) := by decide +kernel
theorem dX4_bitsOf_56 : decode cX4_bitsOf 56 = .ok (.dmul, 1) := by decide +kernel
theorem dX4_bitsOf_57 : decode cX4_bitsOf 57 = .ok (.d2l, 1) := by decide +kernel
theorem dX4_bitsOf_58 : decode cX4_bitsOf 58 = .ok (.lstore 6, 2) := by decide +kernel
theorem dX4_bitsOf_60 : decode cX4_bitsOf 60 = .ok (.lload 4, 2) := by decide +kernel
theorem dX4_bitsOf_62 : decode cX4_bitsOf 62 = .ok (.bipush 52, 2) := by decide +kernel
theorem dX4_bitsOf_64 : decode cX4_bitsOf 64 = .ok (.lshl, 1) := by decide +kernel
theorem dX4_bitsOf_65 : decode cX4_bitsOf 65 = .ok (.lload 6, 2) := by decide +kernel
theorem dX4_bitsOf_67 : decode cX4_bitsOf 67 = .ok (.lor, 1) := by decide +kernel
theorem dX4_bitsOf_68 : decode cX4_bitsOf 68 = .ok (.lreturn, 1) := by decide +kernel
theorem dJxe99ae_isNaN_b9ae7_0 : decode cJxe99ae_isNaN_b9ae7 0 = .ok (.dload_n 0, 1) := by decide +kernel
theorem dJxe99ae_isNaN_b9ae7_1 : decode cJxe99ae_isNaN_b9ae7 1 = .ok (.dload_n 0, 1) := by decide +kernel
theorem dJxe99ae_isNaN_b9ae7_2 : decode cJxe99ae_isNaN_b9ae7 2 = .ok (.dcmp .l, 1) := by decide +kernel
theorem dJxe99ae_isNaN_b9ae7_3 : decode cJxe99ae_isNaN_b9ae7 3 = .ok (.ifCond .eq 7, 3) := by decide +kernel
theorem dJxe99ae_isNaN_b9ae7_6 : decode cJxe99ae_isNaN_b9ae7 6 = .ok (.iconst 1, 1) := by decide +kernel
theorem dJxe99ae_isNaN_b9ae7_7 : decode cJxe99ae_isNaN_b9ae7 7 = .ok (.goto 4, 3) := by decide +kernel
theorem dJxe99ae_isNaN_b9ae7_10 : decode cJxe99ae_isNaN_b9ae7 10 = .ok (.iconst 0, 1) := by decide +kernel
theorem dJxe99ae_isNaN_b9ae7_11 : decode cJxe99ae_isNaN_b9ae7 11 = .ok (.ireturn, 1) := by decide +kernel
theorem dJxe99ae_doubleToLongBits_ccdee_0 : decode cJxe99ae_doubleToLongBits_ccdee 0 = .ok (.dload_n 0, 1) := by decide +kernel
theorem dJxe99ae_doubleToLongBits_ccdee_1 : decode cJxe99ae_doubleToLongBits_ccdee 1 = .ok (.invokestatic 122, 3) := by decide +kernel
theorem dJxe99ae_doubleToLongBits_ccdee_4 : decode cJxe99ae_doubleToLongBits_ccdee 4 = .ok (.ifCond .ne 8, 3) := by decide +kernel
theorem dJxe99ae_doubleToLongBits_ccdee_7 : decode cJxe99ae_doubleToLongBits_ccdee 7 = .ok (.dload_n 0, 1) := by decide +kernel
theorem dJxe99ae_doubleToLongBits_ccdee_8 : decode cJxe99ae_doubleToLongBits_ccdee 8 = .ok (.invokestatic 134, 3) := by decide +kernel
theorem dJxe99ae_doubleToLongBits_ccdee_11 : decode cJxe99ae_doubleToLongBits_ccdee 11 = .ok (.lreturn, 1) := by decide +kernel
theorem dJxe99ae_doubleToLongBits_ccdee_12 : decode cJxe99ae_doubleToLongBits_ccdee 12 = .ok (.ldc2_w 137, 3) := by decide +kernel
theorem dJxe99ae_doubleToLongBits_ccdee_15 : decode cJxe99ae_doubleToLongBits_ccdee 15 = .ok (.lreturn, 1) := by decide +kernel
theorem dJ9_floorMod_7cf53_0 : decode cJ9_floorMod_7cf53 0 = .ok (.iload_n 0, 1) := by decide +kernel
theorem dJ9_floorMod_7cf53_1 : decode cJ9_floorMod_7cf53 1 = .ok (.iload_n 1, 1) := by decide +kernel
theorem dJ9_floorMod_7cf53_2 : decode cJ9_floorMod_7cf53 2 = .ok (.irem, 1) := by decide +kernel
theorem dJ9_floorMod_7cf53_3 : decode cJ9_floorMod_7cf53 3 = .ok (.istore_n 2, 1) := by decide +kernel
theorem dJ9_floorMod_7cf53_4 : decode cJ9_floorMod_7cf53 4 = .ok (.iload_n 0, 1) := by decide +kernel
theorem dJ9_floorMod_7cf53_5 : decode cJ9_floorMod_7cf53 5 = .ok (.iload_n 1, 1) := by decide +kernel
theorem dJ9_floorMod_7cf53_6 : decode cJ9_floorMod_7cf53 6 = .ok (.ixor, 1) := by decide +kernel
theorem dJ9_floorMod_7cf53_7 : decode cJ9_floorMod_7cf53 7 = .ok (.ifCond .ge 11, 3) := by decide +kernel
theorem dJ9_floorMod_7cf53_10 : decode cJ9_floorMod_7cf53 10 = .ok (.iload_n 2, 1) := by decide +kernel
theorem dJ9_floorMod_7cf53_11 : decode cJ9_floorMod_7cf53 11 = .ok (.ifCond .eq 7, 3) := by decide +kernel
theorem dJ9_floorMod_7cf53_14 : decode cJ9_floorMod_7cf53 14 = .ok (.iload_n 2, 1) := by decide +kernel
theorem dJ9_floorMod_7cf53_15 : decode cJ9_floorMod_7cf53 15 = .ok (.iload_n 1, 1) := by decide +kernel
theorem dJ9_floorMod_7cf53_16 : decode cJ9_floorMod_7cf53 16 = .ok (.iadd, 1) := by decide +kernel
theorem dJ9_floorMod_7cf53_17 : decode cJ9_floorMod_7cf53 17 = .ok (.ireturn, 1) := by decide +kernel
theorem dJ9_floorMod_7cf53_18 : decode cJ9_floorMod_7cf53 18 = .ok (.iload_n 2, 1) := by decide +kernel
theorem dJ9_floorMod_7cf53_19 : decode cJ9_floorMod_7cf53 19 = .ok (.ireturn, 1) := by decide +kernel
theorem dJ9_max_7cf53_0 : decode cJ9_max_7cf53 0 = .ok (.iload_n 0, 1) := by decide +kernel
theorem dJ9_max_7cf53_1 : decode cJ9_max_7cf53 1 = .ok (.iload_n 1, 1) := by decide +kernel
theorem dJ9_max_7cf53_2 : decode cJ9_max_7cf53 2 = .ok (.if_icmp .lt 7, 3) := by decide +kernel
theorem dJ9_max_7cf53_5 : decode cJ9_max_7cf53 5 = .ok (.iload_n 0, 1) := by decide +kernel
theorem dJ9_max_7cf53_6 : decode cJ9_max_7cf53 6 = .ok (.goto 4, 3) := by decide +kernel
theorem dJ9_max_7cf53_9 : decode cJ9_max_7cf53 9 = .ok (.iload_n 1, 1) := by decide +kernel
theorem dJ9_max_7cf53_10 : decode cJ9_max_7cf53 10 = .ok (.ireturn, 1) := by decide +kernel
theorem dJ9_min_7cf53_0 : decode cJ9_min_7cf53 0 = .ok (.iload_n 0, 1) := by decide +kernel
theorem dJ9_min_7cf53_1 : decode cJ9_min_7cf53 1 = .ok (.iload_n 1, 1) := by decide +kernel
theorem dJ9_min_7cf53_2 : decode cJ9_min_7cf53 2 = .ok (.if_icmp .gt 7, 3) := by decide +kernel
theorem dJ9_min_7cf53_5 : decode cJ9_min_7cf53 5 = .ok (.iload_n 0, 1) := by decide +kernel
theorem dJ9_min_7cf53_6 : decode cJ9_min_7cf53 6 = .ok (.goto 4, 3) := by decide +kernel
theorem dJ9_min_7cf53_9 : decode cJ9_min_7cf53 9 = .ok (.iload_n 1, 1) := by decide +kernel
theorem dJ9_min_7cf53_10 : decode cJ9_min_7cf53 10 = .ok (.ireturn, 1) := by decide +kernel
end
section
/-! decode rows (printed by program) -/
theorem dX5_init_0 : decode cX5_init 0 = .ok (.aload_n 0, 1) := by decide +kernel
theorem dX5_init_1 : decode cX5_init 1 = .ok (.invokespecial 1, 3) := by decide +kernel
theorem dX5_init_4 : decode cX5_init 4 = .ok (.aload_n 0, 1) := by decide +kernel
theorem dX5_init_5 : decode cX5_init 5 = .ok (.bipush 99, 2) := by decide +kernel
theorem dX5_init_7 : decode cX5_init 7 = .ok (.newarray .int, 2) := by decide +kernel
theorem dX5_init_9 : decode cX5_init 9 = .ok (.putfield 7, 3) := by decide +kernel
theorem dX5_init_12 : decode cX5_init 12 = .ok (.aload_n 0, 1) := by decide +kernel
theorem dX5_init_13 : decode cX5_init 13 = .ok (.bipush 99, 2) := by decide +kernel
theorem dX5_init_15 : decode cX5_init 15 = .ok (.newarray .int, 2) := by decide +kernel
theorem dX5_init_17 : decode cX5_init 17 = .ok (.putfield 13, 3) := by decide +kernel
theorem dX5_init_20 : decode cX5_init 20 = .ok (.aload_n 0, 1) := by decide +kernel
theorem dX5_init_21 : decode cX5_init 21 = .ok (.sipush 594, 3) := by decide +kernel
theorem dX5_init_24 : decode cX5_init 24 = .ok (.newarray .int, 2) := by decide +kernel
theorem dX5_init_26 : decode cX5_init 26 = .ok (.putfield 16, 3) := by decide +kernel
theorem dX5_init_29 : decode cX5_init 29 = .ok (.aload_n 0, 1) := by decide +kernel
theorem dX5_init_30 : decode cX5_init 30 = .ok (.bipush 60, 2) := by decide +kernel
theorem dX5_init_32 : decode cX5_init 32 = .ok (.newarray .int, 2) := by decide +kernel
theorem dX5_init_34 : decode cX5_init 34 = .ok (.putfield 19, 3) := by decide +kernel
theorem dX5_init_37 : decode cX5_init 37 = .ok (.aload_n 0, 1) := by decide +kernel
theorem dX5_init_38 : decode cX5_init 38 = .ok (.bipush 63, 2) := by decide +kernel
theorem dX5_init_40 : decode cX5_init 40 = .ok (.newarray .int, 2) := by decide +kernel
theorem dX5_init_42 : decode cX5_init 42 = .ok (.putfield 22, 3) := by decide +kernel
theorem dX5_init_45 : decode cX5_init 45 = .ok (.aload_n 0, 1) := by decide +kernel
theorem dX5_init_46 : decode cX5_init 46 = .ok (.getfield 7, 3) := by decide +kernel
theorem dX5_init_49 : decode cX5_init 49 = .ok (.iconst 0, 1) := by decide +kernel
theorem dX5_init_50 : decode cX5_init 50 = .ok (.bipush 12, 2) := by decide +kernel
theorem dX5_init_52 : decode cX5_init 52 = .ok (.iastore, 1) := by decide +kernel
theorem dX5_init_53 : decode cX5_init 53 = .ok (.aload_n 0, 1) := by decide +kernel
theorem dX5_init_54 : decode cX5_init 54 = .ok (.getfield 7, 3) := by decide +kernel
theorem dX5_init_57 : decode cX5_init 57 = .ok (.iconst 1, 1) := by decide +kernel
theorem dX5_init_58 : decode cX5_init 58 = .ok (.bipush 12, 2) := by decide +kernel
theorem dX5_init_60 : decode cX5_init 60 = .ok (.iastore, 1) := by decide +kernel
theorem dX5_init_61 : decode cX5_init 61 = .ok (.aload_n 0, 1) := by decide +kernel
theorem dX5_init_62 : decode cX5_init 62 = .ok (.getfield 7, 3) := by decide +kernel
theorem dX5_init_65 : decode cX5_init 65 = .ok (.bipush 7, 2) := by decide +kernel
theorem dX5_init_67 : decode cX5_init 67 = .ok (.iconst (-1), 1) := by decide +kernel
theorem dX5_init_68 : decode cX5_init 68 = .ok (.iastore, 1) := by decide +kernel
theorem dX5_init_69 : decode cX5_init 69 = .ok (.iconst 0, 1) := by decide +kernel
theorem dX5_init_70 : decode cX5_init 70 = .ok (.istore_n 1, 1) := by decide +kernel
theorem dX5_init_71 : decode cX5_init 71 = .ok (.iload_n 1, 1) := by decide +kernel
theorem dX5_init_72 : decode cX5_init 72 = .ok (.bipush 6, 2) := by decide +kernel
theorem dX5_init_74 : decode cX5_init 74 = .ok (.if_icmp .ge 38, 3) := by decide +kernel
theorem dX5_init_77 : decode cX5_init 77 = .ok (.aload_n 0, 1) := by decide +kernel
theorem dX5_init_78 : decode cX5_init 78 = .ok (.getfield 7, 3) := by decide +kernel
theorem dX5_init_81 : decode cX5_init 81 = .ok (.bipush 9, 2) := by decide +kernel
theorem dX5_init_83 : decode cX5_init 83 = .ok (.bipush 15, 2) := by decide +kernel
theorem dX5_init_85 : decode cX5_init 85 = .ok (.iload_n 1, 1) := by decide +kernel
theorem dX5_init_86 : decode cX5_init 86 = .ok (.imul, 1) := by decide +kernel
theorem dX5_init_87 : decode cX5_init 87 = .ok (.iadd, 1) := by decide +kernel
theorem dX5_init_88 : decode cX5_init 88 = .ok (.bipush 10, 2) := by decide +kernel
theorem dX5_init_90 : decode cX5_init 90 = .ok (.iastore, 1) := by decide +kernel
theorem dX5_init_91 : decode cX5_init 91 = .ok (.aload_n 0, 1) := by decide +kernel
theorem dX5_init_92 : decode cX5_init 92 = .ok (.getfield 7, 3) := by decide +kernel
theorem dX5_init_95 : decode cX5_init 95 = .ok (.bipush 9, 2) := by decide +kernel
theorem dX5_init_97 : decode cX5_init 97 = .ok (.bipush 15, 2) := by decide +kernel
theorem dX5_init_99 : decode cX5_init 99 = .ok (.iload_n 1, 1) := by decide +kernel
theorem dX5_init_100 : decode cX5_init 100 = .ok (.imul, 1) := by decide +kernel
theorem dX5_init_101 : decode cX5_init 101 = .ok (.iadd, 1) := by decide +kernel
theorem dX5_init_102 : decode cX5_init 102 = .ok (.iconst 5, 1) := by decide +kernel
theorem dX5_init_103 : decode cX5_init 103 = .ok (.iadd, 1) := by decide +kernel
theorem dX5_init_104 : decode cX5_init 104 = .ok (.iconst 1, 1) := by decide +kernel
theorem dX5_init_105 : decode cX5_init 105 = .ok (.iastore, 1) := by decide +kernel
theorem dX5_init_106 : decode cX5_init 106 = .ok (.iinc 1 1, 3) := by decide +kernel
theorem dX5_init_109 : decode cX5_init 109 = .ok (.goto (-38), 3) := by decide +kernel
theorem dX5_init_112 : decode cX5_init 112 = .ok (.return_, 1) := by decide +kernel
theorem dX5_thrown_0 : decode cX5_thrown 0 = .ok (.aload_n 0, 1) := by decide +kernel
theorem dX5_thrown_1 : decode cX5_thrown 1 = .ok (.getfield 25, 3) := by decide +kernel
theorem dX5_thrown_4 : decode cX5_thrown 4 = .ok (.ireturn, 1) := by decide +kernel
theorem dX5_fails_0 : decode cX5_fails 0 = .ok (.aload_n 0, 1) := by decide +kernel
theorem dX5_fails_1 : decode cX5_fails 1 = .ok (.iload_n 1, 1) := by decide +kernel
theorem dX5_fails_2 : decode cX5_fails 2 = .ok (.putfield 25, 3) := by decide +kernel
theorem dX5_fails_5 : decode cX5_fails 5 = .ok (.iconst 0, 1) := by decide +kernel
theorem dX5_fails_6 : decode cX5_fails 6 = .ok (.ireturn, 1) := by decide +kernel
theorem dX5_in_0 : decode cX5_in 0 = .ok (.iload_n 0, 1) := by decide +kernel
theorem dX5_in_1 : decode cX5_in 1 = .ok (.iload_n 1, 1) := by decide +kernel
theorem dX5_in_2 : decode cX5_in 2 = .ok (.if_icmp .lt 12, 3) := by decide +kernel
theorem dX5_in_5 : decode cX5_in 5 = .ok (.iload_n 0, 1) := by decide +kernel
theorem dX5_in_6 : decode cX5_in 6 = .ok (.iload_n 2, 1) := by decide +kernel
theorem dX5_in_7 : decode cX5_in 7 = .ok (.if_icmp .gt 7, 3) := by decide +kernel
theorem dX5_in_10 : decode cX5_in 10 = .ok (.iconst 1, 1) := by decide +kernel
theorem dX5_in_11 : decode cX5_in 11 = .ok (.goto 4, 3) := by decide +kernel
theorem dX5_in_14 : decode cX5_in 14 = .ok (.iconst 0, 1) := by decide +kernel
theorem dX5_in_15 : decode cX5_in 15 = .ok (.ireturn, 1) := by decide +kernel
theorem dX5_isRoom_0 : decode cX5_isRoom 0 = .ok (.iload_n 0, 1) := by decide +kernel
theorem dX5_isRoom_1 : decode cX5_isRoom 1 = .ok (.iconst 0, 1) := by decide +kernel
theorem dX5_isRoom_2 : decode cX5_isRoom 2 = .ok (.iconst 5, 1) := by decide +kernel
theorem dX5_isRoom_3 : decode cX5_isRoom 3 = .ok (.invokestatic 29, 3) := by decide +kernel
theorem dX5_isRoom_6 : decode cX5_isRoom 6 = .ok (.ireturn, 1) := by decide +kernel
theorem dX5_of_0 : decode cX5_of 0 = .ok (.aload_n 0, 1) := by decide +kernel
theorem dX5_of_1 : decode cX5_of 1 = .ok (.bipush 9, 2) := by decide +kernel
theorem dX5_of_3 : decode cX5_of 3 = .ok (.bipush 15, 2) := by decide +kernel
theorem dX5_of_5 : decode cX5_of 5 = .ok (.iload_n 1, 1) := by decide +kernel
theorem dX5_of_6 : decode cX5_of 6 = .ok (.imul, 1) := by decide +kernel
theorem dX5_of_7 : decode cX5_of 7 = .ok (.iadd, 1) := by decide +kernel
theorem dX5_of_8 : decode cX5_of 8 = .ok (.iload_n 2, 1) := by decide +kernel
theorem dX5_of_9 : decode cX5_of 9 = .ok (.iadd, 1) := by decide +kernel
theorem dX5_of_10 : decode cX5_of 10 = .ok (.iaload, 1) := by decide +kernel
theorem dX5_of_11 : decode cX5_of 11 = .ok (.ireturn, 1) := by decide +kernel
theorem dX5_isLit_0 : decode cX5_isLit 0 = .ok (.aload_n 0, 1) := by decide +kernel
theorem dX5_isLit_1 : decode cX5_isLit 1 = .ok (.iload_n 1, 1) := by decide +kernel
theorem dX5_isLit_2 : decode cX5_isLit 2 = .ok (.iconst 1, 1) := by decide +kernel
theorem dX5_isLit_3 : decode cX5_isLit 3 = .ok (.invokestatic 33, 3) := by decide +kernel
theorem dX5_isLit_6 : decode cX5_isLit 6 = .ok (.iconst 1, 1) := by decide +kernel
theorem dX5_isLit_7 : decode cX5_isLit 7 = .ok (.if_icmp .ne 7, 3) := by decide +kernel
theorem dX5_isLit_10 : decode cX5_isLit 10 = .ok (.iconst 1, 1) := by decide +kernel
theorem dX5_isLit_11 : decode cX5_isLit 11 = .ok (.goto 4, 3) := by decide +kernel
theorem dX5_isLit_14 : decode cX5_isLit 14 = .ok (.iconst 0, 1) := by decide +kernel
theorem dX5_isLit_15 : decode cX5_isLit 15 = .ok (.ireturn, 1) := by decide +kernel
theorem dX5_burning_0 : decode cX5_burning 0 = .ok (.iconst 0, 1) := by decide +kernel
theorem dX5_burning_1 : decode cX5_burning 1 = .ok (.istore_n 1, 1) := by decide +kernel
theorem dX5_burning_2 : decode cX5_burning 2 = .ok (.iconst 0, 1) := by decide +kernel
theorem dX5_burning_3 : decode cX5_burning 3 = .ok (.istore_n 2, 1) := by decide +kernel
theorem dX5_burning_4 : decode cX5_burning 4 = .ok (.iload_n 2, 1) := by decide +kernel
theorem dX5_burning_5 : decode cX5_burning 5 = .ok (.bipush 6, 2) := by decide +kernel
theorem dX5_burning_7 : decode cX5_burning 7 = .ok (.if_icmp .ge 18, 3) := by decide +kernel
theorem dX5_burning_10 : decode cX5_burning 10 = .ok (.iload_n 1, 1) := by decide +kernel
theorem dX5_burning_11 : decode cX5_burning 11 = .ok (.aload_n 0, 1) := by decide +kernel
theorem dX5_burning_12 : decode cX5_burning 12 = .ok (.iload_n 2, 1) := by decide +kernel
theorem dX5_burning_13 : decode cX5_burning 13 = .ok (.iconst 1, 1) := by decide +kernel
theorem dX5_burning_14 : decode cX5_burning 14 = .ok (.invokestatic 33, 3) := by decide +kernel
theorem dX5_burning_17 : decode cX5_burning 17 = .ok (.iadd, 1) := by decide +kernel
theorem dX5_burning_18 : decode cX5_burning 18 = .ok (.istore_n 1, 1) := by decide +kernel
theorem dX5_burning_19 : decode cX5_burning 19 = .ok (.iinc 2 1, 3) := by decide +kernel
theorem dX5_burning_22 : decode cX5_burning 22 = .ok (.goto (-18), 3) := by decide +kernel
theorem dX5_burning_25 : decode cX5_burning 25 = .ok (.iload_n 1, 1) := by decide +kernel
theorem dX5_burning_26 : decode cX5_burning 26 = .ok (.ireturn, 1) := by decide +kernel
theorem dX5_copies_0 : decode cX5_copies 0 = .ok (.iconst 0, 1) := by decide +kernel
theorem dX5_copies_1 : decode cX5_copies 1 = .ok (.istore 4, 2) := by decide +kernel
theorem dX5_copies_3 : decode cX5_copies 3 = .ok (.iload 4, 2) := by decide +kernel
theorem dX5_copies_5 : decode cX5_copies 5 = .ok (.bipush 99, 2) := by decide +kernel
theorem dX5_copies_7 : decode cX5_copies 7 = .ok (.if_icmp .ge 21, 3) := by decide +kernel
theorem dX5_copies_10 : decode cX5_copies 10 = .ok (.aload_n 2, 1) := by decide +kernel
theorem dX5_copies_11 : decode cX5_copies 11 = .ok (.iload_n 3, 1) := by decide +kernel
theorem dX5_copies_12 : decode cX5_copies 12 = .ok (.iload 4, 2) := by decide +kernel
theorem dX5_copies_14 : decode cX5_copies 14 = .ok (.iadd, 1) := by decide +kernel
theorem dX5_copies_15 : decode cX5_copies 15 = .ok (.aload_n 0, 1) := by decide +kernel
theorem dX5_copies_16 : decode cX5_copies 16 = .ok (.iload_n 1, 1) := by decide +kernel
theorem dX5_copies_17 : decode cX5_copies 17 = .ok (.iload 4, 2) := by decide +kernel
theorem dX5_copies_19 : decode cX5_copies 19 = .ok (.iadd, 1) := by decide +kernel
theorem dX5_copies_20 : decode cX5_copies 20 = .ok (.iaload, 1) := by decide +kernel
theorem dX5_copies_21 : decode cX5_copies 21 = .ok (.iastore, 1) := by decide +kernel
theorem dX5_copies_22 : decode cX5_copies 22 = .ok (.iinc 4 1, 3) := by decide +kernel
theorem dX5_copies_25 : decode cX5_copies 25 = .ok (.goto (-22), 3) := by decide +kernel
theorem dX5_copies_28 : decode cX5_copies 28 = .ok (.return_, 1) := by decide +kernel
theorem dX5_keepsState_0 : decode cX5_keepsState 0 = .ok (.aload_n 0, 1) := by decide +kernel
theorem dX5_keepsState_1 : decode cX5_keepsState 1 = .ok (.getfield 37, 3) := by decide +kernel
theorem dX5_keepsState_4 : decode cX5_keepsState 4 = .ok (.bipush 6, 2) := by decide +kernel
theorem dX5_keepsState_6 : decode cX5_keepsState 6 = .ok (.if_icmp .ne 43, 3) := by decide +kernel
theorem dX5_keepsState_9 : decode cX5_keepsState 9 = .ok (.iconst 0, 1) := by decide +kernel
theorem dX5_keepsState_10 : decode cX5_keepsState 10 = .ok (.istore_n 1, 1) := by decide +kernel
theorem dX5_keepsState_11 : decode cX5_keepsState 11 = .ok (.iload_n 1, 1) := by decide +kernel
theorem dX5_keepsState_12 : decode cX5_keepsState 12 = .ok (.sipush 495, 3) := by decide +kernel
theorem dX5_keepsState_15 : decode cX5_keepsState 15 = .ok (.if_icmp .ge 24, 3) := by decide +kernel
theorem dX5_keepsState_18 : decode cX5_keepsState 18 = .ok (.aload_n 0, 1) := by decide +kernel
theorem dX5_keepsState_19 : decode cX5_keepsState 19 = .ok (.getfield 16, 3) := by decide +kernel
theorem dX5_keepsState_22 : decode cX5_keepsState 22 = .ok (.iload_n 1, 1) := by decide +kernel
theorem dX5_keepsState_23 : decode cX5_keepsState 23 = .ok (.aload_n 0, 1) := by decide +kernel
theorem dX5_keepsState_24 : decode cX5_keepsState 24 = .ok (.getfield 16, 3) := by decide +kernel
theorem dX5_keepsState_27 : decode cX5_keepsState 27 = .ok (.iload_n 1, 1) := by decide +kernel
theorem dX5_keepsState_28 : decode cX5_keepsState 28 = .ok (.bipush 99, 2) := by decide +kernel
theorem dX5_keepsState_30 : decode cX5_keepsState 30 = .ok (.iadd, 1) := by decide +kernel
theorem dX5_keepsState_31 : decode cX5_keepsState 31 = .ok (.iaload, 1) := by decide +kernel
theorem dX5_keepsState_32 : decode cX5_keepsState 32 = .ok (.iastore, 1) := by decide +kernel
theorem dX5_keepsState_33 : decode cX5_keepsState 33 = .ok (.iinc 1 1, 3) := by decide +kernel
theorem dX5_keepsState_36 : decode cX5_keepsState 36 = .ok (.goto (-25), 3) := by decide +kernel
theorem dX5_keepsState_39 : decode cX5_keepsState 39 = .ok (.aload_n 0, 1) := by decide +kernel
theorem dX5_keepsState_40 : decode cX5_keepsState 40 = .ok (.dup, 1) := by decide +kernel
theorem dX5_keepsState_41 : decode cX5_keepsState 41 = .ok (.getfield 37, 3) := by decide +kernel
theorem dX5_keepsState_44 : decode cX5_keepsState 44 = .ok (.iconst 1, 1) := by decide +kernel
theorem dX5_keepsState_45 : decode cX5_keepsState 45 = .ok (.isub, 1) := by decide +kernel
theorem dX5_keepsState_46 : decode cX5_keepsState 46 = .ok (.putfield 37, 3) := by decide +kernel
theorem dX5_keepsState_49 : decode cX5_keepsState 49 = .ok (.aload_n 0, 1) := by decide +kernel
theorem dX5_keepsState_50 : decode cX5_keepsState 50 = .ok (.getfield 7, 3) := by decide +kernel
theorem dX5_keepsState_53 : decode cX5_keepsState 53 = .ok (.iconst 0, 1) := by decide +kernel
theorem dX5_keepsState_54 : decode cX5_keepsState 54 = .ok (.aload_n 0, 1) := by decide +kernel
theorem dX5_keepsState_55 : decode cX5_keepsState 55 = .ok (.getfield 16, 3) := by decide +kernel
theorem dX5_keepsState_58 : decode cX5_keepsState 58 = .ok (.bipush 99, 2) := by decide +kernel
theorem dX5_keepsState_60 : decode cX5_keepsState 60 = .ok (.aload_n 0, 1) := by decide +kernel
theorem dX5_keepsState_61 : decode cX5_keepsState 61 = .ok (.getfield 37, 3) := by decide +kernel
theorem dX5_keepsState_64 : decode cX5_keepsState 64 = .ok (.imul, 1) := by decide +kernel
theorem dX5_keepsState_65 : decode cX5_keepsState 65 = .ok (.invokestatic 40, 3) := by decide +kernel
theorem dX5_keepsState_68 : decode cX5_keepsState 68 = .ok (.aload_n 0, 1) := by decide +kernel
theorem dX5_keepsState_69 : decode cX5_keepsState 69 = .ok (.dup, 1) := by decide +kernel
theorem dX5_keepsState_70 : decode cX5_keepsState 70 = .ok (.getfield 37, 3) := by decide +kernel
theorem dX5_keepsState_73 : decode cX5_keepsState 73 = .ok (.iconst 1, 1) := by decide +kernel
theorem dX5_keepsState_74 : decode cX5_keepsState 74 = .ok (.iadd, 1) := by decide +kernel
theorem dX5_keepsState_75 : decode cX5_keepsState 75 = .ok (.putfield 37, 3) := by decide +kernel
theorem dX5_keepsState_78 : decode cX5_keepsState 78 = .ok (.return_, 1) := by decide +kernel
theorem dX5_undo_0 : decode cX5_undo 0 = .ok (.aload_n 0, 1) := by decide +kernel
theorem dX5_undo_1 : decode cX5_undo 1 = .ok (.iconst 0, 1) := by decide +kernel
theorem dX5_undo_2 : decode cX5_undo 2 = .ok (.putfield 25, 3) := by decide +kernel
theorem dX5_undo_5 : decode cX5_undo 5 = .ok (.aload_n 0, 1) := by decide +kernel
theorem dX5_undo_6 : decode cX5_undo 6 = .ok (.getfield 37, 3) := by decide +kernel
theorem dX5_undo_9 : decode cX5_undo 9 = .ok (.ifCond .ne 9, 3) := by decide +kernel
theorem dX5_undo_12 : decode cX5_undo 12 = .ok (.aload_n 0, 1) := by decide +kernel
theorem dX5_undo_13 : decode cX5_undo 13 = .ok (.iconst 1, 1) := by decide +kernel
theorem dX5_undo_14 : decode cX5_undo 14 = .ok (.invokevirtual 44, 3) := by decide +kernel
theorem dX5_undo_17 : decode cX5_undo 17 = .ok (.ireturn, 1) := by decide +kernel
theorem dX5_undo_18 : decode cX5_undo 18 = .ok (.aload_n 0, 1) := by decide +kernel
theorem dX5_undo_19 : decode cX5_undo 19 = .ok (.dup, 1) := by decide +kernel
theorem dX5_undo_20 : decode cX5_undo 20 = .ok (.getfield 37, 3) := by decide +kernel
theorem dX5_undo_23 : decode cX5_undo 23 = .ok (.iconst 1, 1) := by decide +kernel
theorem dX5_undo_24 : decode cX5_undo 24 = .ok (.isub, 1) := by decide +kernel
theorem dX5_undo_25 : decode cX5_undo 25 = .ok (.putfield 37, 3) := by decide +kernel
theorem dX5_undo_28 : decode cX5_undo 28 = .ok (.aload_n 0, 1) := by decide +kernel
theorem dX5_undo_29 : decode cX5_undo 29 = .ok (.getfield 16, 3) := by decide +kernel
theorem dX5_undo_32 : decode cX5_undo 32 = .ok (.bipush 99, 2) := by decide +kernel
theorem dX5_undo_34 : decode cX5_undo 34 = .ok (.aload_n 0, 1) := by decide +kernel
theorem dX5_undo_35 : decode cX5_undo 35 = .ok (.getfield 37, 3) := by decide +kernel
theorem dX5_undo_38 : decode cX5_undo 38 = .ok (.imul, 1) := by decide +kernel
theorem dX5_undo_39 : decode cX5_undo 39 = .ok (.aload_n 0, 1) := by decide +kernel
theorem dX5_undo_40 : decode cX5_undo 40 = .ok (.getfield 7, 3) := by decide +kernel
theorem dX5_undo_43 : decode cX5_undo 43 = .ok (.iconst 0, 1) := by decide +kernel
theorem dX5_undo_44 : decode cX5_undo 44 = .ok (.invokestatic 40, 3) := by decide +kernel
theorem dX5_undo_47 : decode cX5_undo 47 = .ok (.aload_n 0, 1) := by decide +kernel
theorem dX5_undo_48 : decode cX5_undo 48 = .ok (.getfield 37, 3) := by decide +kernel
theorem dX5_undo_51 : decode cX5_undo 51 = .ok (.ireturn, 1) := by decide +kernel
theorem dX5_mayStrike_0 : decode cX5_mayStrike 0 = .ok (.aload_n 0, 1) := by decide +kernel
theorem dX5_mayStrike_1 : decode cX5_mayStrike 1 = .ok (.invokestatic 48, 3) := by decide +kernel
theorem dX5_mayStrike_4 : decode cX5_mayStrike 4 = .ok (.ifCond .ne 16, 3) := by decide +kernel
theorem dX5_mayStrike_7 : decode cX5_mayStrike 7 = .ok (.aload_n 0, 1) := by decide +kernel
theorem dX5_mayStrike_8 : decode cX5_mayStrike 8 = .ok (.iload_n 1, 1) := by decide +kernel
theorem dX5_mayStrike_9 : decode cX5_mayStrike 9 = .ok (.iconst 0, 1) := by decide +kernel
theorem dX5_mayStrike_10 : decode cX5_mayStrike 10 = .ok (.invokestatic 33, 3) := by decide +kernel
theorem dX5_mayStrike_13 : decode cX5_mayStrike 13 = .ok (.ifCond .le 7, 3) := by decide +kernel
theorem dX5_mayStrike_16 : decode cX5_mayStrike 16 = .ok (.iconst 1, 1) := by decide +kernel
theorem dX5_mayStrike_17 : decode cX5_mayStrike 17 = .ok (.goto 4, 3) := by decide +kernel
theorem dX5_mayStrike_20 : decode cX5_mayStrike 20 = .ok (.iconst 0, 1) := by decide +kernel
theorem dX5_mayStrike_21 : decode cX5_mayStrike 21 = .ok (.ireturn, 1) := by decide +kernel
theorem dX5_isOpen_0 : decode cX5_isOpen 0 = .ok (.iload_n 2, 1) := by decide +kernel
theorem dX5_isOpen_1 : decode cX5_isOpen 1 = .ok (.iload_n 1, 1) := by decide +kernel
theorem dX5_isOpen_2 : decode cX5_isOpen 2 = .ok (.iconst 1, 1) := by decide +kernel
theorem dX5_isOpen_3 : decode cX5_isOpen 3 = .ok (.iadd, 1) := by decide +kernel
theorem dX5_isOpen_4 : decode cX5_isOpen 4 = .ok (.bipush 6, 2) := by decide +kernel
theorem dX5_isOpen_6 : decode cX5_isOpen 6 = .ok (.irem, 1) := by decide +kernel
theorem dX5_isOpen_7 : decode cX5_isOpen 7 = .ok (.if_icmp .ne 13, 3) := by decide +kernel
theorem dX5_isOpen_10 : decode cX5_isOpen 10 = .ok (.aload_n 0, 1) := by decide +kernel
theorem dX5_isOpen_11 : decode cX5_isOpen 11 = .ok (.iload_n 1, 1) := by decide +kernel
theorem dX5_isOpen_12 : decode cX5_isOpen 12 = .ok (.iconst 5, 1) := by decide +kernel
theorem dX5_isOpen_13 : decode cX5_isOpen 13 = .ok (.invokestatic 33, 3) := by decide +kernel
theorem dX5_isOpen_16 : decode cX5_isOpen 16 = .ok (.iconst 1, 1) := by decide +kernel
theorem dX5_isOpen_17 : decode cX5_isOpen 17 = .ok (.if_icmp .eq 23, 3) := by decide +kernel
theorem dX5_isOpen_20 : decode cX5_isOpen 20 = .ok (.iload_n 1, 1) := by decide +kernel
theorem dX5_isOpen_21 : decode cX5_isOpen 21 = .ok (.iload_n 2, 1) := by decide +kernel
theorem dX5_isOpen_22 : decode cX5_isOpen 22 = .ok (.iconst 1, 1) := by decide +kernel
theorem dX5_isOpen_23 : decode cX5_isOpen 23 = .ok (.iadd, 1) := by decide +kernel
theorem dX5_isOpen_24 : decode cX5_isOpen 24 = .ok (.bipush 6, 2) := by decide +kernel
theorem dX5_isOpen_26 : decode cX5_isOpen 26 = .ok (.irem, 1) := by decide +kernel
theorem dX5_isOpen_27 : decode cX5_isOpen 27 = .ok (.if_icmp .ne 17, 3) := by decide +kernel
theorem dX5_isOpen_30 : decode cX5_isOpen 30 = .ok (.aload_n 0, 1) := by decide +kernel
theorem dX5_isOpen_31 : decode cX5_isOpen 31 = .ok (.iload_n 2, 1) := by decide +kernel
theorem dX5_isOpen_32 : decode cX5_isOpen 32 = .ok (.iconst 5, 1) := by decide +kernel
theorem dX5_isOpen_33 : decode cX5_isOpen 33 = .ok (.invokestatic 33, 3) := by decide +kernel
theorem dX5_isOpen_36 : decode cX5_isOpen 36 = .ok (.iconst 1, 1) := by decide +kernel
theorem dX5_isOpen_37 : decode cX5_isOpen 37 = .ok (.if_icmp .ne 7, 3) := by decide +kernel
theorem dX5_isOpen_40 : decode cX5_isOpen 40 = .ok (.iconst 1, 1) := by decide +kernel
theorem dX5_isOpen_41 : decode cX5_isOpen 41 = .ok (.goto 4, 3) := by decide +kernel
theorem dX5_isOpen_44 : decode cX5_isOpen 44 = .ok (.iconst 0, 1) := by decide +kernel
theorem dX5_isOpen_45 : decode cX5_isOpen 45 = .ok (.ireturn, 1) := by decide +kernel
theorem dX5_mayLight_0 : decode cX5_mayLight 0 = .ok (.aload_n 0, 1) := by decide +kernel
theorem dX5_mayLight_1 : decode cX5_mayLight 1 = .ok (.iload_n 1, 1) := by decide +kernel
theorem dX5_mayLight_2 : decode cX5_mayLight 2 = .ok (.invokestatic 52, 3) := by decide +kernel
theorem dX5_mayLight_5 : decode cX5_mayLight 5 = .ok (.ifCond .ne 33, 3) := by decide +kernel
theorem dX5_mayLight_8 : decode cX5_mayLight 8 = .ok (.aload_n 0, 1) := by decide +kernel
theorem dX5_mayLight_9 : decode cX5_mayLight 9 = .ok (.iload_n 1, 1) := by decide +kernel
theorem dX5_mayLight_10 : decode cX5_mayLight 10 = .ok (.iconst 0, 1) := by decide +kernel
theorem dX5_mayLight_11 : decode cX5_mayLight 11 = .ok (.invokestatic 33, 3) := by decide +kernel
theorem dX5_mayLight_14 : decode cX5_mayLight 14 = .ok (.ifCond .le 24, 3) := by decide +kernel
theorem dX5_mayLight_17 : decode cX5_mayLight 17 = .ok (.aload_n 0, 1) := by decide +kernel
theorem dX5_mayLight_18 : decode cX5_mayLight 18 = .ok (.iload_n 2, 1) := by decide +kernel
theorem dX5_mayLight_19 : decode cX5_mayLight 19 = .ok (.invokestatic 52, 3) := by decide +kernel
theorem dX5_mayLight_22 : decode cX5_mayLight 22 = .ok (.ifCond .eq 16, 3) := by decide +kernel
theorem dX5_mayLight_25 : decode cX5_mayLight 25 = .ok (.aload_n 0, 1) := by decide +kernel
theorem dX5_mayLight_26 : decode cX5_mayLight 26 = .ok (.iload_n 1, 1) := by decide +kernel
theorem dX5_mayLight_27 : decode cX5_mayLight 27 = .ok (.iload_n 2, 1) := by decide +kernel
theorem dX5_mayLight_28 : decode cX5_mayLight 28 = .ok (.invokestatic 56, 3) := by decide +kernel
theorem dX5_mayLight_31 : decode cX5_mayLight 31 = .ok (.ifCond .eq 7, 3) := by decide +kernel
theorem dX5_mayLight_34 : decode cX5_mayLight 34 = .ok (.iconst 1, 1) := by decide +kernel
theorem dX5_mayLight_35 : decode cX5_mayLight 35 = .ok (.goto 4, 3) := by decide +kernel
theorem dX5_mayLight_38 : decode cX5_mayLight 38 = .ok (.iconst 0, 1) := by decide +kernel
theorem dX5_mayLight_39 : decode cX5_mayLight 39 = .ok (.ireturn, 1) := by decide +kernel
theorem dX5_lights_0 : decode cX5_lights 0 = .ok (.aload_n 0, 1) := by decide +kernel
theorem dX5_lights_1 : decode cX5_lights 1 = .ok (.bipush 9, 2) := by decide +kernel
theorem dX5_lights_3 : decode cX5_lights 3 = .ok (.bipush 15, 2) := by decide +kernel
theorem dX5_lights_5 : decode cX5_lights 5 = .ok (.iload_n 1, 1) := by decide +kernel
theorem dX5_lights_6 : decode cX5_lights 6 = .ok (.imul, 1) := by decide +kernel
theorem dX5_lights_7 : decode cX5_lights 7 = .ok (.iadd, 1) := by decide +kernel
theorem dX5_lights_8 : decode cX5_lights 8 = .ok (.iconst 1, 1) := by decide +kernel
theorem dX5_lights_9 : decode cX5_lights 9 = .ok (.iadd, 1) := by decide +kernel
theorem dX5_lights_10 : decode cX5_lights 10 = .ok (.iconst 1, 1) := by decide +kernel
theorem dX5_lights_11 : decode cX5_lights 11 = .ok (.iastore, 1) := by decide +kernel
theorem dX5_lights_12 : decode cX5_lights 12 = .ok (.return_, 1) := by decide +kernel
theorem dX5_renews_0 : decode cX5_renews 0 = .ok (.aload_n 0, 1) := by decide +kernel
theorem dX5_renews_1 : decode cX5_renews 1 = .ok (.iconst 1, 1) := by decide +kernel
theorem dX5_renews_2 : decode cX5_renews 2 = .ok (.dup2, 1) := by decide +kernel
theorem dX5_renews_3 : decode cX5_renews 3 = .ok (.iaload, 1) := by decide +kernel
theorem dX5_renews_4 : decode cX5_renews 4 = .ok (.iconst 1, 1) := by decide +kernel
theorem dX5_renews_5 : decode cX5_renews 5 = .ok (.isub, 1) := by decide +kernel
theorem dX5_renews_6 : decode cX5_renews 6 = .ok (.iastore, 1) := by decide +kernel
theorem dX5_renews_7 : decode cX5_renews 7 = .ok (.aload_n 0, 1) := by decide +kernel
theorem dX5_renews_8 : decode cX5_renews 8 = .ok (.bipush 9, 2) := by decide +kernel
theorem dX5_renews_10 : decode cX5_renews 10 = .ok (.bipush 15, 2) := by decide +kernel
theorem dX5_renews_12 : decode cX5_renews 12 = .ok (.iload_n 1, 1) := by decide +kernel
theorem dX5_renews_13 : decode cX5_renews 13 = .ok (.imul, 1) := by decide +kernel
theorem dX5_renews_14 : decode cX5_renews 14 = .ok (.iadd, 1) := by decide +kernel
theorem dX5_renews_15 : decode cX5_renews 15 = .ok (.bipush 20, 2) := by decide +kernel
theorem dX5_renews_17 : decode cX5_renews 17 = .ok (.iastore, 1) := by decide +kernel
theorem dX5_renews_18 : decode cX5_renews 18 = .ok (.aload_n 0, 1) := by decide +kernel
theorem dX5_renews_19 : decode cX5_renews 19 = .ok (.bipush 9, 2) := by decide +kernel
theorem dX5_renews_21 : decode cX5_renews 21 = .ok (.bipush 15, 2) := by decide +kernel
theorem dX5_renews_23 : decode cX5_renews 23 = .ok (.iload_n 1, 1) := by decide +kernel
theorem dX5_renews_24 : decode cX5_renews 24 = .ok (.imul, 1) := by decide +kernel
theorem dX5_renews_25 : decode cX5_renews 25 = .ok (.iadd, 1) := by decide +kernel
theorem dX5_renews_26 : decode cX5_renews 26 = .ok (.iconst 1, 1) := by decide +kernel
theorem dX5_renews_27 : decode cX5_renews 27 = .ok (.iadd, 1) := by decide +kernel
theorem dX5_renews_28 : decode cX5_renews 28 = .ok (.iconst 0, 1) := by decide +kernel
theorem dX5_renews_29 : decode cX5_renews 29 = .ok (.iastore, 1) := by decide +kernel
theorem dX5_renews_30 : decode cX5_renews 30 = .ok (.aload_n 0, 1) := by decide +kernel
theorem dX5_renews_31 : decode cX5_renews 31 = .ok (.bipush 9, 2) := by decide +kernel
theorem dX5_renews_33 : decode cX5_renews 33 = .ok (.bipush 15, 2) := by decide +kernel
theorem dX5_renews_35 : decode cX5_renews 35 = .ok (.iload_n 1, 1) := by decide +kernel
theorem dX5_renews_36 : decode cX5_renews 36 = .ok (.imul, 1) := by decide +kernel
theorem dX5_renews_37 : decode cX5_renews 37 = .ok (.iadd, 1) := by decide +kernel
theorem dX5_renews_38 : decode cX5_renews 38 = .ok (.iconst 2, 1) := by decide +kernel
theorem dX5_renews_39 : decode cX5_renews 39 = .ok (.iadd, 1) := by decide +kernel
theorem dX5_renews_40 : decode cX5_renews 40 = .ok (.iconst 0, 1) := by decide +kernel
theorem dX5_renews_41 : decode cX5_renews 41 = .ok (.iastore, 1) := by decide +kernel
theorem dX5_renews_42 : decode cX5_renews 42 = .ok (.return_, 1) := by decide +kernel
theorem dX5_reaches_0 : decode cX5_reaches 0 = .ok (.iconst 0, 1) := by decide +kernel
theorem dX5_reaches_1 : decode cX5_reaches 1 = .ok (.istore_n 3, 1) := by decide +kernel
theorem dX5_reaches_2 : decode cX5_reaches 2 = .ok (.iload_n 1, 1) := by decide +kernel
theorem dX5_reaches_3 : decode cX5_reaches 3 = .ok (.istore 4, 2) := by decide +kernel
theorem dX5_reaches_5 : decode cX5_reaches 5 = .ok (.iload_n 3, 1) := by decide +kernel
theorem dX5_reaches_6 : decode cX5_reaches 6 = .ok (.iload_n 2, 1) := by decide +kernel
theorem dX5_reaches_7 : decode cX5_reaches 7 = .ok (.if_icmp .ge 40, 3) := by decide +kernel
theorem dX5_reaches_10 : decode cX5_reaches 10 = .ok (.aload_n 0, 1) := by decide +kernel
theorem dX5_reaches_11 : decode cX5_reaches 11 = .ok (.iload 4, 2) := by decide +kernel
theorem dX5_reaches_13 : decode cX5_reaches 13 = .ok (.iconst 3, 1) := by decide +kernel
theorem dX5_reaches_14 : decode cX5_reaches 14 = .ok (.invokestatic 33, 3) := by decide +kernel
theorem dX5_reaches_17 : decode cX5_reaches 17 = .ok (.ifCond .ne 30, 3) := by decide +kernel
theorem dX5_reaches_20 : decode cX5_reaches 20 = .ok (.iinc 3 1, 3) := by decide +kernel
theorem dX5_reaches_23 : decode cX5_reaches 23 = .ok (.aload_n 0, 1) := by decide +kernel
theorem dX5_reaches_24 : decode cX5_reaches 24 = .ok (.iload 4, 2) := by decide +kernel
theorem dX5_reaches_26 : decode cX5_reaches 26 = .ok (.iconst 5, 1) := by decide +kernel
theorem dX5_reaches_27 : decode cX5_reaches 27 = .ok (.invokestatic 33, 3) := by decide +kernel
theorem dX5_reaches_30 : decode cX5_reaches 30 = .ok (.ifCond .ne 5, 3) := by decide +kernel
theorem dX5_reaches_33 : decode cX5_reaches 33 = .ok (.iload_n 3, 1) := by decide +kernel
theorem dX5_reaches_34 : decode cX5_reaches 34 = .ok (.ireturn, 1) := by decide +kernel
theorem dX5_reaches_35 : decode cX5_reaches 35 = .ok (.iload 4, 2) := by decide +kernel
theorem dX5_reaches_37 : decode cX5_reaches 37 = .ok (.iconst 1, 1) := by decide +kernel
theorem dX5_reaches_38 : decode cX5_reaches 38 = .ok (.iadd, 1) := by decide +kernel
theorem dX5_reaches_39 : decode cX5_reaches 39 = .ok (.bipush 6, 2) := by decide +kernel
theorem dX5_reaches_41 : decode cX5_reaches 41 = .ok (.irem, 1) := by decide +kernel
theorem dX5_reaches_42 : decode cX5_reaches 42 = .ok (.istore 4, 2) := by decide +kernel
theorem dX5_reaches_44 : decode cX5_reaches 44 = .ok (.goto (-39), 3) := by decide +kernel
theorem dX5_reaches_47 : decode cX5_reaches 47 = .ok (.iload_n 3, 1) := by decide +kernel
theorem dX5_reaches_48 : decode cX5_reaches 48 = .ok (.ireturn, 1) := by decide +kernel
theorem dX5_blows_0 : decode cX5_blows 0 = .ok (.iconst 0, 1) := by decide +kernel
theorem dX5_blows_1 : decode cX5_blows 1 = .ok (.istore_n 3, 1) := by decide +kernel
theorem dX5_blows_2 : decode cX5_blows 2 = .ok (.iconst 0, 1) := by decide +kernel
theorem dX5_blows_3 : decode cX5_blows 3 = .ok (.istore 4, 2) := by decide +kernel
theorem dX5_blows_5 : decode cX5_blows 5 = .ok (.iload 4, 2) := by decide +kernel
theorem dX5_blows_7 : decode cX5_blows 7 = .ok (.aload_n 0, 1) := by decide +kernel
theorem dX5_blows_8 : decode cX5_blows 8 = .ok (.iload_n 1, 1) := by decide +kernel
theorem dX5_blows_9 : decode cX5_blows 9 = .ok (.iload_n 2, 1) := by decide +kernel
theorem dX5_blows_10 : decode cX5_blows 10 = .ok (.invokestatic 60, 3) := by decide +kernel
theorem dX5_blows_13 : decode cX5_blows 13 = .ok (.if_icmp .ge 24, 3) := by decide +kernel
theorem dX5_blows_16 : decode cX5_blows 16 = .ok (.iload_n 3, 1) := by decide +kernel
theorem dX5_blows_17 : decode cX5_blows 17 = .ok (.aload_n 0, 1) := by decide +kernel
theorem dX5_blows_18 : decode cX5_blows 18 = .ok (.iload_n 1, 1) := by decide +kernel
theorem dX5_blows_19 : decode cX5_blows 19 = .ok (.iload 4, 2) := by decide +kernel
theorem dX5_blows_21 : decode cX5_blows 21 = .ok (.iadd, 1) := by decide +kernel
theorem dX5_blows_22 : decode cX5_blows 22 = .ok (.bipush 6, 2) := by decide +kernel
theorem dX5_blows_24 : decode cX5_blows 24 = .ok (.irem, 1) := by decide +kernel
theorem dX5_blows_25 : decode cX5_blows 25 = .ok (.iconst 1, 1) := by decide +kernel
theorem dX5_blows_26 : decode cX5_blows 26 = .ok (.invokestatic 33, 3) := by decide +kernel
theorem dX5_blows_29 : decode cX5_blows 29 = .ok (.iadd, 1) := by decide +kernel
theorem dX5_blows_30 : decode cX5_blows 30 = .ok (.istore_n 3, 1) := by decide +kernel
theorem dX5_blows_31 : decode cX5_blows 31 = .ok (.iinc 4 1, 3) := by decide +kernel
theorem dX5_blows_34 : decode cX5_blows 34 = .ok (.goto (-29), 3) := by decide +kernel
theorem dX5_blows_37 : decode cX5_blows 37 = .ok (.iload_n 3, 1) := by decide +kernel
theorem dX5_blows_38 : decode cX5_blows 38 = .ok (.ireturn, 1) := by decide +kernel
theorem dX5_strike_0 : decode cX5_strike 0 = .ok (.aload_n 0, 1) := by decide +kernel
theorem dX5_strike_1 : decode cX5_strike 1 = .ok (.iconst 0, 1) := by decide +kernel
theorem dX5_strike_2 : decode cX5_strike 2 = .ok (.putfield 25, 3) := by decide +kernel
theorem dX5_strike_5 : decode cX5_strike 5 = .ok (.iload_n 1, 1) := by decide +kernel
theorem dX5_strike_6 : decode cX5_strike 6 = .ok (.invokestatic 63, 3) := by decide +kernel
theorem dX5_strike_9 : decode cX5_strike 9 = .ok (.ifCond .ne 9, 3) := by decide +kernel
theorem dX5_strike_12 : decode cX5_strike 12 = .ok (.aload_n 0, 1) := by decide +kernel
theorem dX5_strike_13 : decode cX5_strike 13 = .ok (.iconst 1, 1) := by decide +kernel
theorem dX5_strike_14 : decode cX5_strike 14 = .ok (.invokevirtual 44, 3) := by decide +kernel
theorem dX5_strike_17 : decode cX5_strike 17 = .ok (.ireturn, 1) := by decide +kernel
theorem dX5_strike_18 : decode cX5_strike 18 = .ok (.aload_n 0, 1) := by decide +kernel
theorem dX5_strike_19 : decode cX5_strike 19 = .ok (.getfield 7, 3) := by decide +kernel
theorem dX5_strike_22 : decode cX5_strike 22 = .ok (.iload_n 1, 1) := by decide +kernel
theorem dX5_strike_23 : decode cX5_strike 23 = .ok (.invokestatic 67, 3) := by decide +kernel
theorem dX5_strike_26 : decode cX5_strike 26 = .ok (.ifCond .ne 9, 3) := by decide +kernel
theorem dX5_strike_29 : decode cX5_strike 29 = .ok (.aload_n 0, 1) := by decide +kernel
theorem dX5_strike_30 : decode cX5_strike 30 = .ok (.iconst 2, 1) := by decide +kernel
theorem dX5_strike_31 : decode cX5_strike 31 = .ok (.invokevirtual 44, 3) := by decide +kernel
theorem dX5_strike_34 : decode cX5_strike 34 = .ok (.ireturn, 1) := by decide +kernel
theorem dX5_strike_35 : decode cX5_strike 35 = .ok (.aload_n 0, 1) := by decide +kernel
theorem dX5_strike_36 : decode cX5_strike 36 = .ok (.invokevirtual 70, 3) := by decide +kernel
theorem dX5_strike_39 : decode cX5_strike 39 = .ok (.aload_n 0, 1) := by decide +kernel
theorem dX5_strike_40 : decode cX5_strike 40 = .ok (.getfield 7, 3) := by decide +kernel
theorem dX5_strike_43 : decode cX5_strike 43 = .ok (.iload_n 1, 1) := by decide +kernel
theorem dX5_strike_44 : decode cX5_strike 44 = .ok (.invokestatic 73, 3) := by decide +kernel
theorem dX5_strike_47 : decode cX5_strike 47 = .ok (.aload_n 0, 1) := by decide +kernel
theorem dX5_strike_48 : decode cX5_strike 48 = .ok (.getfield 7, 3) := by decide +kernel
theorem dX5_strike_51 : decode cX5_strike 51 = .ok (.iload_n 1, 1) := by decide +kernel
theorem dX5_strike_52 : decode cX5_strike 52 = .ok (.iconst 0, 1) := by decide +kernel
theorem dX5_strike_53 : decode cX5_strike 53 = .ok (.invokestatic 33, 3) := by decide +kernel
theorem dX5_strike_56 : decode cX5_strike 56 = .ok (.ireturn, 1) := by decide +kernel
theorem dX5_light_0 : decode cX5_light 0 = .ok (.aload_n 0, 1) := by decide +kernel
theorem dX5_light_1 : decode cX5_light 1 = .ok (.iconst 0, 1) := by decide +kernel
theorem dX5_light_2 : decode cX5_light 2 = .ok (.putfield 25, 3) := by decide +kernel
theorem dX5_light_5 : decode cX5_light 5 = .ok (.iload_n 1, 1) := by decide +kernel
theorem dX5_light_6 : decode cX5_light 6 = .ok (.invokestatic 63, 3) := by decide +kernel
theorem dX5_light_9 : decode cX5_light 9 = .ok (.ifCond .eq 10, 3) := by decide +kernel
theorem dX5_light_12 : decode cX5_light 12 = .ok (.iload_n 2, 1) := by decide +kernel
theorem dX5_light_13 : decode cX5_light 13 = .ok (.invokestatic 63, 3) := by decide +kernel
theorem dX5_light_16 : decode cX5_light 16 = .ok (.ifCond .ne 9, 3) := by decide +kernel
theorem dX5_light_19 : decode cX5_light 19 = .ok (.aload_n 0, 1) := by decide +kernel
theorem dX5_light_20 : decode cX5_light 20 = .ok (.iconst 1, 1) := by decide +kernel
theorem dX5_light_21 : decode cX5_light 21 = .ok (.invokevirtual 44, 3) := by decide +kernel
theorem dX5_light_24 : decode cX5_light 24 = .ok (.ireturn, 1) := by decide +kernel
theorem dX5_light_25 : decode cX5_light 25 = .ok (.aload_n 0, 1) := by decide +kernel
theorem dX5_light_26 : decode cX5_light 26 = .ok (.getfield 7, 3) := by decide +kernel
theorem dX5_light_29 : decode cX5_light 29 = .ok (.iload_n 1, 1) := by decide +kernel
theorem dX5_light_30 : decode cX5_light 30 = .ok (.iload_n 2, 1) := by decide +kernel
theorem dX5_light_31 : decode cX5_light 31 = .ok (.invokestatic 77, 3) := by decide +kernel
theorem dX5_light_34 : decode cX5_light 34 = .ok (.ifCond .ne 9, 3) := by decide +kernel
theorem dX5_light_37 : decode cX5_light 37 = .ok (.aload_n 0, 1) := by decide +kernel
theorem dX5_light_38 : decode cX5_light 38 = .ok (.iconst 2, 1) := by decide +kernel
theorem dX5_light_39 : decode cX5_light 39 = .ok (.invokevirtual 44, 3) := by decide +kernel
theorem dX5_light_42 : decode cX5_light 42 = .ok (.ireturn, 1) := by decide +kernel
theorem dX5_light_43 : decode cX5_light 43 = .ok (.aload_n 0, 1) := by decide +kernel
theorem dX5_light_44 : decode cX5_light 44 = .ok (.invokevirtual 70, 3) := by decide +kernel
theorem dX5_light_47 : decode cX5_light 47 = .ok (.aload_n 0, 1) := by decide +kernel
theorem dX5_light_48 : decode cX5_light 48 = .ok (.getfield 7, 3) := by decide +kernel
theorem dX5_light_51 : decode cX5_light 51 = .ok (.iload_n 1, 1) := by decide +kernel
theorem dX5_light_52 : decode cX5_light 52 = .ok (.invokestatic 73, 3) := by decide +kernel
theorem dX5_light_55 : decode cX5_light 55 = .ok (.aload_n 0, 1) := by decide +kernel
theorem dX5_light_56 : decode cX5_light 56 = .ok (.getfield 7, 3) := by decide +kernel
theorem dX5_light_59 : decode cX5_light 59 = .ok (.iload_n 1, 1) := by decide +kernel
theorem dX5_light_60 : decode cX5_light 60 = .ok (.iconst 0, 1) := by decide +kernel
theorem dX5_light_61 : decode cX5_light 61 = .ok (.invokestatic 33, 3) := by decide +kernel
theorem dX5_light_64 : decode cX5_light 64 = .ok (.ireturn, 1) := by decide +kernel
theorem dX5_fresh_0 : decode cX5_fresh 0 = .ok (.aload_n 0, 1) := by decide +kernel
theorem dX5_fresh_1 : decode cX5_fresh 1 = .ok (.iconst 0, 1) := by decide +kernel
theorem dX5_fresh_2 : decode cX5_fresh 2 = .ok (.putfield 25, 3) := by decide +kernel
theorem dX5_fresh_5 : decode cX5_fresh 5 = .ok (.iload_n 1, 1) := by decide +kernel
theorem dX5_fresh_6 : decode cX5_fresh 6 = .ok (.invokestatic 63, 3) := by decide +kernel
theorem dX5_fresh_9 : decode cX5_fresh 9 = .ok (.ifCond .ne 9, 3) := by decide +kernel
theorem dX5_fresh_12 : decode cX5_fresh 12 = .ok (.aload_n 0, 1) := by decide +kernel
theorem dX5_fresh_13 : decode cX5_fresh 13 = .ok (.iconst 1, 1) := by decide +kernel
theorem dX5_fresh_14 : decode cX5_fresh 14 = .ok (.invokevirtual 44, 3) := by decide +kernel
theorem dX5_fresh_17 : decode cX5_fresh 17 = .ok (.ireturn, 1) := by decide +kernel
theorem dX5_fresh_18 : decode cX5_fresh 18 = .ok (.aload_n 0, 1) := by decide +kernel
theorem dX5_fresh_19 : decode cX5_fresh 19 = .ok (.getfield 7, 3) := by decide +kernel
theorem dX5_fresh_22 : decode cX5_fresh 22 = .ok (.iconst 1, 1) := by decide +kernel
theorem dX5_fresh_23 : decode cX5_fresh 23 = .ok (.iaload, 1) := by decide +kernel
theorem dX5_fresh_24 : decode cX5_fresh 24 = .ok (.ifCond .ne 9, 3) := by decide +kernel
theorem dX5_fresh_27 : decode cX5_fresh 27 = .ok (.aload_n 0, 1) := by decide +kernel
theorem dX5_fresh_28 : decode cX5_fresh 28 = .ok (.iconst 2, 1) := by decide +kernel
theorem dX5_fresh_29 : decode cX5_fresh 29 = .ok (.invokevirtual 44, 3) := by decide +kernel
theorem dX5_fresh_32 : decode cX5_fresh 32 = .ok (.ireturn, 1) := by decide +kernel
theorem dX5_fresh_33 : decode cX5_fresh 33 = .ok (.aload_n 0, 1) := by decide +kernel
theorem dX5_fresh_34 : decode cX5_fresh 34 = .ok (.invokevirtual 70, 3) := by decide +kernel
theorem dX5_fresh_37 : decode cX5_fresh 37 = .ok (.aload_n 0, 1) := by decide +kernel
theorem dX5_fresh_38 : decode cX5_fresh 38 = .ok (.getfield 7, 3) := by decide +kernel
theorem dX5_fresh_41 : decode cX5_fresh 41 = .ok (.iload_n 1, 1) := by decide +kernel
theorem dX5_fresh_42 : decode cX5_fresh 42 = .ok (.invokestatic 80, 3) := by decide +kernel
theorem dX5_fresh_45 : decode cX5_fresh 45 = .ok (.aload_n 0, 1) := by decide +kernel
theorem dX5_fresh_46 : decode cX5_fresh 46 = .ok (.getfield 7, 3) := by decide +kernel
theorem dX5_fresh_49 : decode cX5_fresh 49 = .ok (.iconst 1, 1) := by decide +kernel
theorem dX5_fresh_50 : decode cX5_fresh 50 = .ok (.iaload, 1) := by decide +kernel
theorem dX5_fresh_51 : decode cX5_fresh 51 = .ok (.ireturn, 1) := by decide +kernel
theorem dX5_switches_0 : decode cX5_switches 0 = .ok (.aload_n 0, 1) := by decide +kernel
theorem dX5_switches_1 : decode cX5_switches 1 = .ok (.invokevirtual 70, 3) := by decide +kernel
theorem dX5_switches_4 : decode cX5_switches 4 = .ok (.aload_n 0, 1) := by decide +kernel
theorem dX5_switches_5 : decode cX5_switches 5 = .ok (.getfield 7, 3) := by decide +kernel
theorem dX5_switches_8 : decode cX5_switches 8 = .ok (.iload_n 1, 1) := by decide +kernel
theorem dX5_switches_9 : decode cX5_switches 9 = .ok (.iload_n 2, 1) := by decide +kernel
theorem dX5_switches_10 : decode cX5_switches 10 = .ok (.invokestatic 33, 3) := by decide +kernel
theorem dX5_switches_13 : decode cX5_switches 13 = .ok (.istore 4, 2) := by decide +kernel
theorem dX5_switches_15 : decode cX5_switches 15 = .ok (.aload_n 0, 1) := by decide +kernel
theorem dX5_switches_16 : decode cX5_switches 16 = .ok (.getfield 7, 3) := by decide +kernel
theorem dX5_switches_19 : decode cX5_switches 19 = .ok (.bipush 9, 2) := by decide +kernel
theorem dX5_switches_21 : decode cX5_switches 21 = .ok (.bipush 15, 2) := by decide +kernel
theorem dX5_switches_23 : decode cX5_switches 23 = .ok (.iload_n 1, 1) := by decide +kernel
theorem dX5_switches_24 : decode cX5_switches 24 = .ok (.imul, 1) := by decide +kernel
theorem dX5_switches_25 : decode cX5_switches 25 = .ok (.iadd, 1) := by decide +kernel
theorem dX5_switches_26 : decode cX5_switches 26 = .ok (.iload_n 2, 1) := by decide +kernel
theorem dX5_switches_27 : decode cX5_switches 27 = .ok (.iadd, 1) := by decide +kernel
theorem dX5_switches_28 : decode cX5_switches 28 = .ok (.iload_n 3, 1) := by decide +kernel
theorem dX5_switches_29 : decode cX5_switches 29 = .ok (.ifCond .eq 7, 3) := by decide +kernel
theorem dX5_switches_32 : decode cX5_switches 32 = .ok (.iconst 1, 1) := by decide +kernel
theorem dX5_switches_33 : decode cX5_switches 33 = .ok (.goto 4, 3) := by decide +kernel
theorem dX5_switches_36 : decode cX5_switches 36 = .ok (.iconst 0, 1) := by decide +kernel
theorem dX5_switches_37 : decode cX5_switches 37 = .ok (.iastore, 1) := by decide +kernel
theorem dX5_switches_38 : decode cX5_switches 38 = .ok (.iload 4, 2) := by decide +kernel
theorem dX5_switches_40 : decode cX5_switches 40 = .ok (.ireturn, 1) := by decide +kernel
theorem dX5_door_0 : decode cX5_door 0 = .ok (.aload_n 0, 1) := by decide +kernel
theorem dX5_door_1 : decode cX5_door 1 = .ok (.iconst 0, 1) := by decide +kernel
theorem dX5_door_2 : decode cX5_door 2 = .ok (.putfield 25, 3) := by decide +kernel
theorem dX5_door_5 : decode cX5_door 5 = .ok (.iload_n 1, 1) := by decide +kernel
theorem dX5_door_6 : decode cX5_door 6 = .ok (.invokestatic 63, 3) := by decide +kernel
theorem dX5_door_9 : decode cX5_door 9 = .ok (.ifCond .eq 13, 3) := by decide +kernel
theorem dX5_door_12 : decode cX5_door 12 = .ok (.aload_n 0, 1) := by decide +kernel
theorem dX5_door_13 : decode cX5_door 13 = .ok (.iload_n 1, 1) := by decide +kernel
theorem dX5_door_14 : decode cX5_door 14 = .ok (.iconst 5, 1) := by decide +kernel
theorem dX5_door_15 : decode cX5_door 15 = .ok (.iload_n 2, 1) := by decide +kernel
theorem dX5_door_16 : decode cX5_door 16 = .ok (.invokevirtual 83, 3) := by decide +kernel
theorem dX5_door_19 : decode cX5_door 19 = .ok (.goto 8, 3) := by decide +kernel
theorem dX5_door_22 : decode cX5_door 22 = .ok (.aload_n 0, 1) := by decide +kernel
theorem dX5_door_23 : decode cX5_door 23 = .ok (.iconst 1, 1) := by decide +kernel
theorem dX5_door_24 : decode cX5_door 24 = .ok (.invokevirtual 44, 3) := by decide +kernel
theorem dX5_door_27 : decode cX5_door 27 = .ok (.ireturn, 1) := by decide +kernel
theorem dX5_shield_0 : decode cX5_shield 0 = .ok (.aload_n 0, 1) := by decide +kernel
theorem dX5_shield_1 : decode cX5_shield 1 = .ok (.iconst 0, 1) := by decide +kernel
theorem dX5_shield_2 : decode cX5_shield 2 = .ok (.putfield 25, 3) := by decide +kernel
theorem dX5_shield_5 : decode cX5_shield 5 = .ok (.iload_n 1, 1) := by decide +kernel
theorem dX5_shield_6 : decode cX5_shield 6 = .ok (.invokestatic 63, 3) := by decide +kernel
theorem dX5_shield_9 : decode cX5_shield 9 = .ok (.ifCond .eq 13, 3) := by decide +kernel
theorem dX5_shield_12 : decode cX5_shield 12 = .ok (.aload_n 0, 1) := by decide +kernel
theorem dX5_shield_13 : decode cX5_shield 13 = .ok (.iload_n 1, 1) := by decide +kernel
theorem dX5_shield_14 : decode cX5_shield 14 = .ok (.iconst 3, 1) := by decide +kernel
theorem dX5_shield_15 : decode cX5_shield 15 = .ok (.iload_n 2, 1) := by decide +kernel
theorem dX5_shield_16 : decode cX5_shield 16 = .ok (.invokevirtual 83, 3) := by decide +kernel
theorem dX5_shield_19 : decode cX5_shield 19 = .ok (.goto 8, 3) := by decide +kernel
theorem dX5_shield_22 : decode cX5_shield 22 = .ok (.aload_n 0, 1) := by decide +kernel
theorem dX5_shield_23 : decode cX5_shield 23 = .ok (.iconst 1, 1) := by decide +kernel
theorem dX5_shield_24 : decode cX5_shield 24 = .ok (.invokevirtual 44, 3) := by decide +kernel
theorem dX5_shield_27 : decode cX5_shield 27 = .ok (.ireturn, 1) := by decide +kernel
theorem dX5_draught_0 : decode cX5_draught 0 = .ok (.aload_n 0, 1) := by decide +kernel
theorem dX5_draught_1 : decode cX5_draught 1 = .ok (.iconst 0, 1) := by decide +kernel
theorem dX5_draught_2 : decode cX5_draught 2 = .ok (.putfield 25, 3) := by decide +kernel
theorem dX5_draught_5 : decode cX5_draught 5 = .ok (.iload_n 1, 1) := by decide +kernel
theorem dX5_draught_6 : decode cX5_draught 6 = .ok (.invokestatic 63, 3) := by decide +kernel
theorem dX5_draught_9 : decode cX5_draught 9 = .ok (.ifCond .ne 9, 3) := by decide +kernel
theorem dX5_draught_12 : decode cX5_draught 12 = .ok (.aload_n 0, 1) := by decide +kernel
theorem dX5_draught_13 : decode cX5_draught 13 = .ok (.iconst 1, 1) := by decide +kernel
theorem dX5_draught_14 : decode cX5_draught 14 = .ok (.invokevirtual 44, 3) := by decide +kernel
theorem dX5_draught_17 : decode cX5_draught 17 = .ok (.ireturn, 1) := by decide +kernel
theorem dX5_draught_18 : decode cX5_draught 18 = .ok (.iload_n 2, 1) := by decide +kernel
theorem dX5_draught_19 : decode cX5_draught 19 = .ok (.iconst 1, 1) := by decide +kernel
theorem dX5_draught_20 : decode cX5_draught 20 = .ok (.bipush 6, 2) := by decide +kernel
theorem dX5_draught_22 : decode cX5_draught 22 = .ok (.invokestatic 29, 3) := by decide +kernel
theorem dX5_draught_25 : decode cX5_draught 25 = .ok (.ifCond .ne 9, 3) := by decide +kernel
theorem dX5_draught_28 : decode cX5_draught 28 = .ok (.aload_n 0, 1) := by decide +kernel
theorem dX5_draught_29 : decode cX5_draught 29 = .ok (.iconst 2, 1) := by decide +kernel
theorem dX5_draught_30 : decode cX5_draught 30 = .ok (.invokevirtual 44, 3) := by decide +kernel
theorem dX5_draught_33 : decode cX5_draught 33 = .ok (.ireturn, 1) := by decide +kernel
theorem dX5_draught_34 : decode cX5_draught 34 = .ok (.aload_n 0, 1) := by decide +kernel
theorem dX5_draught_35 : decode cX5_draught 35 = .ok (.invokevirtual 70, 3) := by decide +kernel
theorem dX5_draught_38 : decode cX5_draught 38 = .ok (.aload_n 0, 1) := by decide +kernel
theorem dX5_draught_39 : decode cX5_draught 39 = .ok (.getfield 7, 3) := by decide +kernel
theorem dX5_draught_42 : decode cX5_draught 42 = .ok (.bipush 7, 2) := by decide +kernel
theorem dX5_draught_44 : decode cX5_draught 44 = .ok (.iload_n 1, 1) := by decide +kernel
theorem dX5_draught_45 : decode cX5_draught 45 = .ok (.iastore, 1) := by decide +kernel
theorem dX5_draught_46 : decode cX5_draught 46 = .ok (.aload_n 0, 1) := by decide +kernel
theorem dX5_draught_47 : decode cX5_draught 47 = .ok (.getfield 7, 3) := by decide +kernel
theorem dX5_draught_50 : decode cX5_draught 50 = .ok (.bipush 8, 2) := by decide +kernel
theorem dX5_draught_52 : decode cX5_draught 52 = .ok (.iload_n 2, 1) := by decide +kernel
theorem dX5_draught_53 : decode cX5_draught 53 = .ok (.iastore, 1) := by decide +kernel
theorem dX5_draught_54 : decode cX5_draught 54 = .ok (.aload_n 0, 1) := by decide +kernel
theorem dX5_draught_55 : decode cX5_draught 55 = .ok (.getfield 7, 3) := by decide +kernel
theorem dX5_draught_58 : decode cX5_draught 58 = .ok (.iload_n 1, 1) := by decide +kernel
theorem dX5_draught_59 : decode cX5_draught 59 = .ok (.iload_n 2, 1) := by decide +kernel
theorem dX5_draught_60 : decode cX5_draught 60 = .ok (.invokestatic 87, 3) := by decide +kernel
theorem dX5_draught_63 : decode cX5_draught 63 = .ok (.ireturn, 1) := by decide +kernel
theorem dX5_set_0 : decode cX5_set 0 = .ok (.aload_n 0, 1) := by decide +kernel
theorem dX5_set_1 : decode cX5_set 1 = .ok (.iconst 0, 1) := by decide +kernel
theorem dX5_set_2 : decode cX5_set 2 = .ok (.putfield 25, 3) := by decide +kernel
theorem dX5_set_5 : decode cX5_set 5 = .ok (.iload_n 1, 1) := by decide +kernel
theorem dX5_set_6 : decode cX5_set 6 = .ok (.iconst 1, 1) := by decide +kernel
theorem dX5_set_7 : decode cX5_set 7 = .ok (.bipush 50, 2) := by decide +kernel
theorem dX5_set_9 : decode cX5_set 9 = .ok (.invokestatic 29, 3) := by decide +kernel
theorem dX5_set_12 : decode cX5_set 12 = .ok (.ifCond .ne 9, 3) := by decide +kernel
theorem dX5_set_15 : decode cX5_set 15 = .ok (.aload_n 0, 1) := by decide +kernel
theorem dX5_set_16 : decode cX5_set 16 = .ok (.iconst 1, 1) := by decide +kernel
theorem dX5_set_17 : decode cX5_set 17 = .ok (.invokevirtual 44, 3) := by decide +kernel
theorem dX5_set_20 : decode cX5_set 20 = .ok (.ireturn, 1) := by decide +kernel
theorem dX5_set_21 : decode cX5_set 21 = .ok (.aload_n 0, 1) := by decide +kernel
theorem dX5_set_22 : decode cX5_set 22 = .ok (.invokevirtual 70, 3) := by decide +kernel
theorem dX5_set_25 : decode cX5_set 25 = .ok (.aload_n 0, 1) := by decide +kernel
theorem dX5_set_26 : decode cX5_set 26 = .ok (.getfield 7, 3) := by decide +kernel
theorem dX5_set_29 : decode cX5_set 29 = .ok (.iconst 0, 1) := by decide +kernel
theorem dX5_set_30 : decode cX5_set 30 = .ok (.iaload, 1) := by decide +kernel
theorem dX5_set_31 : decode cX5_set 31 = .ok (.istore_n 2, 1) := by decide +kernel
theorem dX5_set_32 : decode cX5_set 32 = .ok (.aload_n 0, 1) := by decide +kernel
theorem dX5_set_33 : decode cX5_set 33 = .ok (.getfield 7, 3) := by decide +kernel
theorem dX5_set_36 : decode cX5_set 36 = .ok (.iconst 0, 1) := by decide +kernel
theorem dX5_set_37 : decode cX5_set 37 = .ok (.iload_n 1, 1) := by decide +kernel
theorem dX5_set_38 : decode cX5_set 38 = .ok (.iastore, 1) := by decide +kernel
theorem dX5_set_39 : decode cX5_set 39 = .ok (.iload_n 2, 1) := by decide +kernel
theorem dX5_set_40 : decode cX5_set 40 = .ok (.ireturn, 1) := by decide +kernel
theorem dX5_burns_0 : decode cX5_burns 0 = .ok (.bipush 9, 2) := by decide +kernel
theorem dX5_burns_2 : decode cX5_burns 2 = .ok (.bipush 15, 2) := by decide +kernel
theorem dX5_burns_4 : decode cX5_burns 4 = .ok (.iload_n 1, 1) := by decide +kernel
theorem dX5_burns_5 : decode cX5_burns 5 = .ok (.imul, 1) := by decide +kernel
theorem dX5_burns_6 : decode cX5_burns 6 = .ok (.iadd, 1) := by decide +kernel
theorem dX5_burns_7 : decode cX5_burns 7 = .ok (.istore_n 2, 1) := by decide +kernel
theorem dX5_burns_8 : decode cX5_burns 8 = .ok (.aload_n 0, 1) := by decide +kernel
theorem dX5_burns_9 : decode cX5_burns 9 = .ok (.iload_n 2, 1) := by decide +kernel
theorem dX5_burns_10 : decode cX5_burns 10 = .ok (.iconst 1, 1) := by decide +kernel
theorem dX5_burns_11 : decode cX5_burns 11 = .ok (.iadd, 1) := by decide +kernel
theorem dX5_burns_12 : decode cX5_burns 12 = .ok (.iaload, 1) := by decide +kernel
theorem dX5_burns_13 : decode cX5_burns 13 = .ok (.ifCond .ne 4, 3) := by decide +kernel
theorem dX5_burns_16 : decode cX5_burns 16 = .ok (.return_, 1) := by decide +kernel
theorem dX5_burns_17 : decode cX5_burns 17 = .ok (.iconst 1, 1) := by decide +kernel
theorem dX5_burns_18 : decode cX5_burns 18 = .ok (.aload_n 0, 1) := by decide +kernel
theorem dX5_burns_19 : decode cX5_burns 19 = .ok (.iload_n 2, 1) := by decide +kernel
theorem dX5_burns_20 : decode cX5_burns 20 = .ok (.iconst 2, 1) := by decide +kernel
theorem dX5_burns_21 : decode cX5_burns 21 = .ok (.iadd, 1) := by decide +kernel
theorem dX5_burns_22 : decode cX5_burns 22 = .ok (.iaload, 1) := by decide +kernel
theorem dX5_burns_23 : decode cX5_burns 23 = .ok (.iconst 2, 1) := by decide +kernel
theorem dX5_burns_24 : decode cX5_burns 24 = .ok (.if_icmp .le 7, 3) := by decide +kernel
theorem dX5_burns_27 : decode cX5_burns 27 = .ok (.iconst 1, 1) := by decide +kernel
theorem dX5_burns_28 : decode cX5_burns 28 = .ok (.goto 4, 3) := by decide +kernel
theorem dX5_burns_31 : decode cX5_burns 31 = .ok (.iconst 0, 1) := by decide +kernel
theorem dX5_burns_32 : decode cX5_burns 32 = .ok (.iadd, 1) := by decide +kernel
theorem dX5_burns_33 : decode cX5_burns 33 = .ok (.aload_n 0, 1) := by decide +kernel
theorem dX5_burns_34 : decode cX5_burns 34 = .ok (.iload_n 2, 1) := by decide +kernel
theorem dX5_burns_35 : decode cX5_burns 35 = .ok (.iconst 2, 1) := by decide +kernel
theorem dX5_burns_36 : decode cX5_burns 36 = .ok (.iadd, 1) := by decide +kernel
theorem dX5_burns_37 : decode cX5_burns 37 = .ok (.iaload, 1) := by decide +kernel
theorem dX5_burns_38 : decode cX5_burns 38 = .ok (.iconst 5, 1) := by decide +kernel
theorem dX5_burns_39 : decode cX5_burns 39 = .ok (.if_icmp .le 7, 3) := by decide +kernel
theorem dX5_burns_42 : decode cX5_burns 42 = .ok (.iconst 1, 1) := by decide +kernel
theorem dX5_burns_43 : decode cX5_burns 43 = .ok (.goto 4, 3) := by decide +kernel
theorem dX5_burns_46 : decode cX5_burns 46 = .ok (.iconst 0, 1) := by decide +kernel
theorem dX5_burns_47 : decode cX5_burns 47 = .ok (.iadd, 1) := by decide +kernel
theorem dX5_burns_48 : decode cX5_burns 48 = .ok (.istore_n 3, 1) := by decide +kernel
theorem dX5_burns_49 : decode cX5_burns 49 = .ok (.aload_n 0, 1) := by decide +kernel
theorem dX5_burns_50 : decode cX5_burns 50 = .ok (.iload_n 2, 1) := by decide +kernel
theorem dX5_burns_51 : decode cX5_burns 51 = .ok (.iconst 4, 1) := by decide +kernel
theorem dX5_burns_52 : decode cX5_burns 52 = .ok (.iadd, 1) := by decide +kernel
theorem dX5_burns_53 : decode cX5_burns 53 = .ok (.dup2, 1) := by decide +kernel
theorem dX5_burns_54 : decode cX5_burns 54 = .ok (.iaload, 1) := by decide +kernel
theorem dX5_burns_55 : decode cX5_burns 55 = .ok (.iconst 1, 1) := by decide +kernel
theorem dX5_burns_56 : decode cX5_burns 56 = .ok (.iadd, 1) := by decide +kernel
theorem dX5_burns_57 : decode cX5_burns 57 = .ok (.iastore, 1) := by decide +kernel
theorem dX5_burns_58 : decode cX5_burns 58 = .ok (.aload_n 0, 1) := by decide +kernel
theorem dX5_burns_59 : decode cX5_burns 59 = .ok (.iload_n 2, 1) := by decide +kernel
theorem dX5_burns_60 : decode cX5_burns 60 = .ok (.aload_n 0, 1) := by decide +kernel
theorem dX5_burns_61 : decode cX5_burns 61 = .ok (.iload_n 2, 1) := by decide +kernel
theorem dX5_burns_62 : decode cX5_burns 62 = .ok (.iaload, 1) := by decide +kernel
theorem dX5_burns_63 : decode cX5_burns 63 = .ok (.iload_n 3, 1) := by decide +kernel
theorem dX5_burns_64 : decode cX5_burns 64 = .ok (.if_icmp .le 11, 3) := by decide +kernel
theorem dX5_burns_67 : decode cX5_burns 67 = .ok (.aload_n 0, 1) := by decide +kernel
theorem dX5_burns_68 : decode cX5_burns 68 = .ok (.iload_n 2, 1) := by decide +kernel
theorem dX5_burns_69 : decode cX5_burns 69 = .ok (.iaload, 1) := by decide +kernel
theorem dX5_burns_70 : decode cX5_burns 70 = .ok (.iload_n 3, 1) := by decide +kernel
theorem dX5_burns_71 : decode cX5_burns 71 = .ok (.isub, 1) := by decide +kernel
theorem dX5_burns_72 : decode cX5_burns 72 = .ok (.goto 4, 3) := by decide +kernel
theorem dX5_burns_75 : decode cX5_burns 75 = .ok (.iconst 0, 1) := by decide +kernel
theorem dX5_burns_76 : decode cX5_burns 76 = .ok (.iastore, 1) := by decide +kernel
theorem dX5_burns_77 : decode cX5_burns 77 = .ok (.aload_n 0, 1) := by decide +kernel
theorem dX5_burns_78 : decode cX5_burns 78 = .ok (.iload_n 2, 1) := by decide +kernel
theorem dX5_burns_79 : decode cX5_burns 79 = .ok (.iconst 1, 1) := by decide +kernel
theorem dX5_burns_80 : decode cX5_burns 80 = .ok (.iadd, 1) := by decide +kernel
theorem dX5_burns_81 : decode cX5_burns 81 = .ok (.aload_n 0, 1) := by decide +kernel
theorem dX5_burns_82 : decode cX5_burns 82 = .ok (.iload_n 2, 1) := by decide +kernel
theorem dX5_burns_83 : decode cX5_burns 83 = .ok (.iaload, 1) := by decide +kernel
theorem dX5_burns_84 : decode cX5_burns 84 = .ok (.ifCond .le 7, 3) := by decide +kernel
theorem dX5_burns_87 : decode cX5_burns 87 = .ok (.iconst 1, 1) := by decide +kernel
theorem dX5_burns_88 : decode cX5_burns 88 = .ok (.goto 4, 3) := by decide +kernel
theorem dX5_burns_91 : decode cX5_burns 91 = .ok (.iconst 0, 1) := by decide +kernel
theorem dX5_burns_92 : decode cX5_burns 92 = .ok (.iastore, 1) := by decide +kernel
theorem dX5_burns_93 : decode cX5_burns 93 = .ok (.aload_n 0, 1) := by decide +kernel
theorem dX5_burns_94 : decode cX5_burns 94 = .ok (.iload_n 2, 1) := by decide +kernel
theorem dX5_burns_95 : decode cX5_burns 95 = .ok (.iconst 2, 1) := by decide +kernel
theorem dX5_burns_96 : decode cX5_burns 96 = .ok (.iadd, 1) := by decide +kernel
theorem dX5_burns_97 : decode cX5_burns 97 = .ok (.dup2, 1) := by decide +kernel
theorem dX5_burns_98 : decode cX5_burns 98 = .ok (.iaload, 1) := by decide +kernel
theorem dX5_burns_99 : decode cX5_burns 99 = .ok (.aload_n 0, 1) := by decide +kernel
theorem dX5_burns_100 : decode cX5_burns 100 = .ok (.iload_n 2, 1) := by decide +kernel
theorem dX5_burns_101 : decode cX5_burns 101 = .ok (.iaload, 1) := by decide +kernel
theorem dX5_burns_102 : decode cX5_burns 102 = .ok (.ifCond .le 17, 3) := by decide +kernel
theorem dX5_burns_105 : decode cX5_burns 105 = .ok (.aload_n 0, 1) := by decide +kernel
theorem dX5_burns_106 : decode cX5_burns 106 = .ok (.iload_n 2, 1) := by decide +kernel
theorem dX5_burns_107 : decode cX5_burns 107 = .ok (.iconst 2, 1) := by decide +kernel
theorem dX5_burns_108 : decode cX5_burns 108 = .ok (.iadd, 1) := by decide +kernel
theorem dX5_burns_109 : decode cX5_burns 109 = .ok (.iaload, 1) := by decide +kernel
theorem dX5_burns_110 : decode cX5_burns 110 = .ok (.bipush 9, 2) := by decide +kernel
theorem dX5_burns_112 : decode cX5_burns 112 = .ok (.if_icmp .ge 7, 3) := by decide +kernel
theorem dX5_burns_115 : decode cX5_burns 115 = .ok (.iconst 1, 1) := by decide +kernel
theorem dX5_burns_116 : decode cX5_burns 116 = .ok (.goto 4, 3) := by decide +kernel
theorem dX5_burns_119 : decode cX5_burns 119 = .ok (.iconst 0, 1) := by decide +kernel
theorem dX5_burns_120 : decode cX5_burns 120 = .ok (.iadd, 1) := by decide +kernel
theorem dX5_burns_121 : decode cX5_burns 121 = .ok (.iastore, 1) := by decide +kernel
theorem dX5_burns_122 : decode cX5_burns 122 = .ok (.return_, 1) := by decide +kernel
theorem dX5_draws_0 : decode cX5_draws 0 = .ok (.aload_n 0, 1) := by decide +kernel
theorem dX5_draws_1 : decode cX5_draws 1 = .ok (.aload_n 0, 1) := by decide +kernel
theorem dX5_draws_2 : decode cX5_draws 2 = .ok (.bipush 7, 2) := by decide +kernel
theorem dX5_draws_4 : decode cX5_draws 4 = .ok (.iaload, 1) := by decide +kernel
theorem dX5_draws_5 : decode cX5_draws 5 = .ok (.aload_n 0, 1) := by decide +kernel
theorem dX5_draws_6 : decode cX5_draws 6 = .ok (.bipush 8, 2) := by decide +kernel
theorem dX5_draws_8 : decode cX5_draws 8 = .ok (.iaload, 1) := by decide +kernel
theorem dX5_draws_9 : decode cX5_draws 9 = .ok (.invokestatic 60, 3) := by decide +kernel
theorem dX5_draws_12 : decode cX5_draws 12 = .ok (.istore_n 1, 1) := by decide +kernel
theorem dX5_draws_13 : decode cX5_draws 13 = .ok (.aload_n 0, 1) := by decide +kernel
theorem dX5_draws_14 : decode cX5_draws 14 = .ok (.bipush 6, 2) := by decide +kernel
theorem dX5_draws_16 : decode cX5_draws 16 = .ok (.dup2, 1) := by decide +kernel
theorem dX5_draws_17 : decode cX5_draws 17 = .ok (.iaload, 1) := by decide +kernel
theorem dX5_draws_18 : decode cX5_draws 18 = .ok (.aload_n 0, 1) := by decide +kernel
theorem dX5_draws_19 : decode cX5_draws 19 = .ok (.aload_n 0, 1) := by decide +kernel
theorem dX5_draws_20 : decode cX5_draws 20 = .ok (.bipush 7, 2) := by decide +kernel
theorem dX5_draws_22 : decode cX5_draws 22 = .ok (.iaload, 1) := by decide +kernel
theorem dX5_draws_23 : decode cX5_draws 23 = .ok (.aload_n 0, 1) := by decide +kernel
theorem dX5_draws_24 : decode cX5_draws 24 = .ok (.bipush 8, 2) := by decide +kernel
theorem dX5_draws_26 : decode cX5_draws 26 = .ok (.iaload, 1) := by decide +kernel
theorem dX5_draws_27 : decode cX5_draws 27 = .ok (.invokestatic 87, 3) := by decide +kernel
theorem dX5_draws_30 : decode cX5_draws 30 = .ok (.iadd, 1) := by decide +kernel
theorem dX5_draws_31 : decode cX5_draws 31 = .ok (.iastore, 1) := by decide +kernel
theorem dX5_draws_32 : decode cX5_draws 32 = .ok (.iconst 0, 1) := by decide +kernel
theorem dX5_draws_33 : decode cX5_draws 33 = .ok (.istore_n 2, 1) := by decide +kernel
theorem dX5_draws_34 : decode cX5_draws 34 = .ok (.iload_n 2, 1) := by decide +kernel
theorem dX5_draws_35 : decode cX5_draws 35 = .ok (.iload_n 1, 1) := by decide +kernel
theorem dX5_draws_36 : decode cX5_draws 36 = .ok (.if_icmp .ge 29, 3) := by decide +kernel
theorem dX5_draws_39 : decode cX5_draws 39 = .ok (.aload_n 0, 1) := by decide +kernel
theorem dX5_draws_40 : decode cX5_draws 40 = .ok (.bipush 9, 2) := by decide +kernel
theorem dX5_draws_42 : decode cX5_draws 42 = .ok (.bipush 15, 2) := by decide +kernel
theorem dX5_draws_44 : decode cX5_draws 44 = .ok (.aload_n 0, 1) := by decide +kernel
theorem dX5_draws_45 : decode cX5_draws 45 = .ok (.bipush 7, 2) := by decide +kernel
theorem dX5_draws_47 : decode cX5_draws 47 = .ok (.iaload, 1) := by decide +kernel
theorem dX5_draws_48 : decode cX5_draws 48 = .ok (.iload_n 2, 1) := by decide +kernel
theorem dX5_draws_49 : decode cX5_draws 49 = .ok (.iadd, 1) := by decide +kernel
theorem dX5_draws_50 : decode cX5_draws 50 = .ok (.bipush 6, 2) := by decide +kernel
theorem dX5_draws_52 : decode cX5_draws 52 = .ok (.irem, 1) := by decide +kernel
theorem dX5_draws_53 : decode cX5_draws 53 = .ok (.imul, 1) := by decide +kernel
theorem dX5_draws_54 : decode cX5_draws 54 = .ok (.iadd, 1) := by decide +kernel
theorem dX5_draws_55 : decode cX5_draws 55 = .ok (.iconst 1, 1) := by decide +kernel
theorem dX5_draws_56 : decode cX5_draws 56 = .ok (.iadd, 1) := by decide +kernel
theorem dX5_draws_57 : decode cX5_draws 57 = .ok (.iconst 0, 1) := by decide +kernel
theorem dX5_draws_58 : decode cX5_draws 58 = .ok (.iastore, 1) := by decide +kernel
theorem dX5_draws_59 : decode cX5_draws 59 = .ok (.iinc 2 1, 3) := by decide +kernel
theorem dX5_draws_62 : decode cX5_draws 62 = .ok (.goto (-28), 3) := by decide +kernel
theorem dX5_draws_65 : decode cX5_draws 65 = .ok (.aload_n 0, 1) := by decide +kernel
theorem dX5_draws_66 : decode cX5_draws 66 = .ok (.bipush 7, 2) := by decide +kernel
theorem dX5_draws_68 : decode cX5_draws 68 = .ok (.iconst (-1), 1) := by decide +kernel
theorem dX5_draws_69 : decode cX5_draws 69 = .ok (.iastore, 1) := by decide +kernel
theorem dX5_draws_70 : decode cX5_draws 70 = .ok (.aload_n 0, 1) := by decide +kernel
theorem dX5_draws_71 : decode cX5_draws 71 = .ok (.bipush 8, 2) := by decide +kernel
theorem dX5_draws_73 : decode cX5_draws 73 = .ok (.iconst 0, 1) := by decide +kernel
theorem dX5_draws_74 : decode cX5_draws 74 = .ok (.iastore, 1) := by decide +kernel
theorem dX5_draws_75 : decode cX5_draws 75 = .ok (.return_, 1) := by decide +kernel
theorem dX5_ages_0 : decode cX5_ages 0 = .ok (.bipush 9, 2) := by decide +kernel
theorem dX5_ages_2 : decode cX5_ages 2 = .ok (.bipush 15, 2) := by decide +kernel
theorem dX5_ages_4 : decode cX5_ages 4 = .ok (.iload_n 1, 1) := by decide +kernel
theorem dX5_ages_5 : decode cX5_ages 5 = .ok (.imul, 1) := by decide +kernel
theorem dX5_ages_6 : decode cX5_ages 6 = .ok (.iadd, 1) := by decide +kernel
theorem dX5_ages_7 : decode cX5_ages 7 = .ok (.istore_n 2, 1) := by decide +kernel
theorem dX5_ages_8 : decode cX5_ages 8 = .ok (.iconst 0, 1) := by decide +kernel
theorem dX5_ages_9 : decode cX5_ages 9 = .ok (.istore_n 3, 1) := by decide +kernel
theorem dX5_ages_10 : decode cX5_ages 10 = .ok (.iconst 0, 1) := by decide +kernel
theorem dX5_ages_11 : decode cX5_ages 11 = .ok (.istore 4, 2) := by decide +kernel
theorem dX5_ages_13 : decode cX5_ages 13 = .ok (.iload 4, 2) := by decide +kernel
theorem dX5_ages_15 : decode cX5_ages 15 = .ok (.aload_n 0, 1) := by decide +kernel
theorem dX5_ages_16 : decode cX5_ages 16 = .ok (.iload_n 2, 1) := by decide +kernel
theorem dX5_ages_17 : decode cX5_ages 17 = .ok (.bipush 6, 2) := by decide +kernel
theorem dX5_ages_19 : decode cX5_ages 19 = .ok (.iadd, 1) := by decide +kernel
theorem dX5_ages_20 : decode cX5_ages 20 = .ok (.iaload, 1) := by decide +kernel
theorem dX5_ages_21 : decode cX5_ages 21 = .ok (.if_icmp .ge 92, 3) := by decide +kernel
theorem dX5_ages_24 : decode cX5_ages 24 = .ok (.aload_n 0, 1) := by decide +kernel
theorem dX5_ages_25 : decode cX5_ages 25 = .ok (.iload_n 2, 1) := by decide +kernel
theorem dX5_ages_26 : decode cX5_ages 26 = .ok (.iconst 1, 1) := by decide +kernel
theorem dX5_ages_27 : decode cX5_ages 27 = .ok (.iadd, 1) := by decide +kernel
theorem dX5_ages_28 : decode cX5_ages 28 = .ok (.iaload, 1) := by decide +kernel
theorem dX5_ages_29 : decode cX5_ages 29 = .ok (.iconst 1, 1) := by decide +kernel
theorem dX5_ages_30 : decode cX5_ages 30 = .ok (.if_icmp .ne 7, 3) := by decide +kernel
theorem dX5_ages_33 : decode cX5_ages 33 = .ok (.iconst 0, 1) := by decide +kernel
theorem dX5_ages_34 : decode cX5_ages 34 = .ok (.goto 14, 3) := by decide +kernel
theorem dX5_ages_37 : decode cX5_ages 37 = .ok (.aload_n 0, 1) := by decide +kernel
theorem dX5_ages_38 : decode cX5_ages 38 = .ok (.iload_n 2, 1) := by decide +kernel
theorem dX5_ages_39 : decode cX5_ages 39 = .ok (.bipush 11, 2) := by decide +kernel
theorem dX5_ages_41 : decode cX5_ages 41 = .ok (.iadd, 1) := by decide +kernel
theorem dX5_ages_42 : decode cX5_ages 42 = .ok (.iload 4, 2) := by decide +kernel
theorem dX5_ages_44 : decode cX5_ages 44 = .ok (.iadd, 1) := by decide +kernel
theorem dX5_ages_45 : decode cX5_ages 45 = .ok (.iaload, 1) := by decide +kernel
theorem dX5_ages_46 : decode cX5_ages 46 = .ok (.iconst 1, 1) := by decide +kernel
theorem dX5_ages_47 : decode cX5_ages 47 = .ok (.iadd, 1) := by decide +kernel
theorem dX5_ages_48 : decode cX5_ages 48 = .ok (.istore 5, 2) := by decide +kernel
theorem dX5_ages_50 : decode cX5_ages 50 = .ok (.aload_n 0, 1) := by decide +kernel
theorem dX5_ages_51 : decode cX5_ages 51 = .ok (.iload_n 2, 1) := by decide +kernel
theorem dX5_ages_52 : decode cX5_ages 52 = .ok (.iconst 1, 1) := by decide +kernel
theorem dX5_ages_53 : decode cX5_ages 53 = .ok (.iadd, 1) := by decide +kernel
theorem dX5_ages_54 : decode cX5_ages 54 = .ok (.iaload, 1) := by decide +kernel
theorem dX5_ages_55 : decode cX5_ages 55 = .ok (.iconst 1, 1) := by decide +kernel
theorem dX5_ages_56 : decode cX5_ages 56 = .ok (.if_icmp .eq 11, 3) := by decide +kernel
theorem dX5_ages_59 : decode cX5_ages 59 = .ok (.iload 5, 2) := by decide +kernel
theorem dX5_ages_61 : decode cX5_ages 61 = .ok (.aload_n 0, 1) := by decide +kernel
theorem dX5_ages_62 : decode cX5_ages 62 = .ok (.iconst 0, 1) := by decide +kernel
theorem dX5_ages_63 : decode cX5_ages 63 = .ok (.iaload, 1) := by decide +kernel
theorem dX5_ages_64 : decode cX5_ages 64 = .ok (.if_icmp .ge 36, 3) := by decide +kernel
theorem dX5_ages_67 : decode cX5_ages 67 = .ok (.aload_n 0, 1) := by decide +kernel
theorem dX5_ages_68 : decode cX5_ages 68 = .ok (.iload_n 2, 1) := by decide +kernel
theorem dX5_ages_69 : decode cX5_ages 69 = .ok (.bipush 7, 2) := by decide +kernel
theorem dX5_ages_71 : decode cX5_ages 71 = .ok (.iadd, 1) := by decide +kernel
theorem dX5_ages_72 : decode cX5_ages 72 = .ok (.iload_n 3, 1) := by decide +kernel
theorem dX5_ages_73 : decode cX5_ages 73 = .ok (.iadd, 1) := by decide +kernel
theorem dX5_ages_74 : decode cX5_ages 74 = .ok (.aload_n 0, 1) := by decide +kernel
theorem dX5_ages_75 : decode cX5_ages 75 = .ok (.iload_n 2, 1) := by decide +kernel
theorem dX5_ages_76 : decode cX5_ages 76 = .ok (.bipush 7, 2) := by decide +kernel
theorem dX5_ages_78 : decode cX5_ages 78 = .ok (.iadd, 1) := by decide +kernel
theorem dX5_ages_79 : decode cX5_ages 79 = .ok (.iload 4, 2) := by decide +kernel
theorem dX5_ages_81 : decode cX5_ages 81 = .ok (.iadd, 1) := by decide +kernel
theorem dX5_ages_82 : decode cX5_ages 82 = .ok (.iaload, 1) := by decide +kernel
theorem dX5_ages_83 : decode cX5_ages 83 = .ok (.iastore, 1) := by decide +kernel
theorem dX5_ages_84 : decode cX5_ages 84 = .ok (.aload_n 0, 1) := by decide +kernel
theorem dX5_ages_85 : decode cX5_ages 85 = .ok (.iload_n 2, 1) := by decide +kernel
theorem dX5_ages_86 : decode cX5_ages 86 = .ok (.bipush 11, 2) := by decide +kernel
theorem dX5_ages_88 : decode cX5_ages 88 = .ok (.iadd, 1) := by decide +kernel
theorem dX5_ages_89 : decode cX5_ages 89 = .ok (.iload_n 3, 1) := by decide +kernel
theorem dX5_ages_90 : decode cX5_ages 90 = .ok (.iadd, 1) := by decide +kernel
theorem dX5_ages_91 : decode cX5_ages 91 = .ok (.iload 5, 2) := by decide +kernel
theorem dX5_ages_93 : decode cX5_ages 93 = .ok (.iastore, 1) := by decide +kernel
theorem dX5_ages_94 : decode cX5_ages 94 = .ok (.iinc 3 1, 3) := by decide +kernel
theorem dX5_ages_97 : decode cX5_ages 97 = .ok (.goto 10, 3) := by decide +kernel
theorem dX5_ages_100 : decode cX5_ages 100 = .ok (.aload_n 0, 1) := by decide +kernel
theorem dX5_ages_101 : decode cX5_ages 101 = .ok (.iconst 3, 1) := by decide +kernel
theorem dX5_ages_102 : decode cX5_ages 102 = .ok (.dup2, 1) := by decide +kernel
theorem dX5_ages_103 : decode cX5_ages 103 = .ok (.iaload, 1) := by decide +kernel
theorem dX5_ages_104 : decode cX5_ages 104 = .ok (.iconst 1, 1) := by decide +kernel
theorem dX5_ages_105 : decode cX5_ages 105 = .ok (.iadd, 1) := by decide +kernel
theorem dX5_ages_106 : decode cX5_ages 106 = .ok (.iastore, 1) := by decide +kernel
theorem dX5_ages_107 : decode cX5_ages 107 = .ok (.iinc 4 1, 3) := by decide +kernel
theorem dX5_ages_110 : decode cX5_ages 110 = .ok (.goto (-97), 3) := by decide +kernel
theorem dX5_ages_113 : decode cX5_ages 113 = .ok (.aload_n 0, 1) := by decide +kernel
theorem dX5_ages_114 : decode cX5_ages 114 = .ok (.iload_n 2, 1) := by decide +kernel
theorem dX5_ages_115 : decode cX5_ages 115 = .ok (.bipush 6, 2) := by decide +kernel
theorem dX5_ages_117 : decode cX5_ages 117 = .ok (.iadd, 1) := by decide +kernel
theorem dX5_ages_118 : decode cX5_ages 118 = .ok (.iload_n 3, 1) := by decide +kernel
theorem dX5_ages_119 : decode cX5_ages 119 = .ok (.iastore, 1) := by decide +kernel
theorem dX5_ages_120 : decode cX5_ages 120 = .ok (.return_, 1) := by decide +kernel
theorem dX5_beats_0 : decode cX5_beats 0 = .ok (.iconst 0, 1) := by decide +kernel
theorem dX5_beats_1 : decode cX5_beats 1 = .ok (.istore_n 2, 1) := by decide +kernel
theorem dX5_beats_2 : decode cX5_beats 2 = .ok (.iload_n 2, 1) := by decide +kernel
theorem dX5_beats_3 : decode cX5_beats 3 = .ok (.iload_n 1, 1) := by decide +kernel
theorem dX5_beats_4 : decode cX5_beats 4 = .ok (.if_icmp .ge 66, 3) := by decide +kernel
theorem dX5_beats_7 : decode cX5_beats 7 = .ok (.aload_n 0, 1) := by decide +kernel
theorem dX5_beats_8 : decode cX5_beats 8 = .ok (.iconst 2, 1) := by decide +kernel
theorem dX5_beats_9 : decode cX5_beats 9 = .ok (.dup2, 1) := by decide +kernel
theorem dX5_beats_10 : decode cX5_beats 10 = .ok (.iaload, 1) := by decide +kernel
theorem dX5_beats_11 : decode cX5_beats 11 = .ok (.iconst 1, 1) := by decide +kernel
theorem dX5_beats_12 : decode cX5_beats 12 = .ok (.iadd, 1) := by decide +kernel
theorem dX5_beats_13 : decode cX5_beats 13 = .ok (.iastore, 1) := by decide +kernel
theorem dX5_beats_14 : decode cX5_beats 14 = .ok (.iconst 0, 1) := by decide +kernel
theorem dX5_beats_15 : decode cX5_beats 15 = .ok (.istore_n 3, 1) := by decide +kernel
theorem dX5_beats_16 : decode cX5_beats 16 = .ok (.iload_n 3, 1) := by decide +kernel
theorem dX5_beats_17 : decode cX5_beats 17 = .ok (.bipush 6, 2) := by decide +kernel
theorem dX5_beats_19 : decode cX5_beats 19 = .ok (.if_icmp .ge 14, 3) := by decide +kernel
theorem dX5_beats_22 : decode cX5_beats 22 = .ok (.aload_n 0, 1) := by decide +kernel
theorem dX5_beats_23 : decode cX5_beats 23 = .ok (.iload_n 3, 1) := by decide +kernel
theorem dX5_beats_24 : decode cX5_beats 24 = .ok (.invokestatic 90, 3) := by decide +kernel
theorem dX5_beats_27 : decode cX5_beats 27 = .ok (.iinc 3 1, 3) := by decide +kernel
theorem dX5_beats_30 : decode cX5_beats 30 = .ok (.goto (-14), 3) := by decide +kernel
theorem dX5_beats_33 : decode cX5_beats 33 = .ok (.aload_n 0, 1) := by decide +kernel
theorem dX5_beats_34 : decode cX5_beats 34 = .ok (.bipush 7, 2) := by decide +kernel
theorem dX5_beats_36 : decode cX5_beats 36 = .ok (.iaload, 1) := by decide +kernel
theorem dX5_beats_37 : decode cX5_beats 37 = .ok (.iconst (-1), 1) := by decide +kernel
theorem dX5_beats_38 : decode cX5_beats 38 = .ok (.if_icmp .eq 7, 3) := by decide +kernel
theorem dX5_beats_41 : decode cX5_beats 41 = .ok (.aload_n 0, 1) := by decide +kernel
theorem dX5_beats_42 : decode cX5_beats 42 = .ok (.invokestatic 93, 3) := by decide +kernel
theorem dX5_beats_45 : decode cX5_beats 45 = .ok (.iconst 0, 1) := by decide +kernel
theorem dX5_beats_46 : decode cX5_beats 46 = .ok (.istore_n 3, 1) := by decide +kernel
theorem dX5_beats_47 : decode cX5_beats 47 = .ok (.iload_n 3, 1) := by decide +kernel
theorem dX5_beats_48 : decode cX5_beats 48 = .ok (.bipush 6, 2) := by decide +kernel
theorem dX5_beats_50 : decode cX5_beats 50 = .ok (.if_icmp .ge 14, 3) := by decide +kernel
theorem dX5_beats_53 : decode cX5_beats 53 = .ok (.aload_n 0, 1) := by decide +kernel
theorem dX5_beats_54 : decode cX5_beats 54 = .ok (.iload_n 3, 1) := by decide +kernel
theorem dX5_beats_55 : decode cX5_beats 55 = .ok (.invokestatic 97, 3) := by decide +kernel
theorem dX5_beats_58 : decode cX5_beats 58 = .ok (.iinc 3 1, 3) := by decide +kernel
theorem dX5_beats_61 : decode cX5_beats 61 = .ok (.goto (-14), 3) := by decide +kernel
theorem dX5_beats_64 : decode cX5_beats 64 = .ok (.iinc 2 1, 3) := by decide +kernel
theorem dX5_beats_67 : decode cX5_beats 67 = .ok (.goto (-65), 3) := by decide +kernel
theorem dX5_beats_70 : decode cX5_beats 70 = .ok (.return_, 1) := by decide +kernel
theorem dX5_find_0 : decode cX5_find 0 = .ok (.iconst 0, 1) := by decide +kernel
theorem dX5_find_1 : decode cX5_find 1 = .ok (.istore_n 2, 1) := by decide +kernel
theorem dX5_find_2 : decode cX5_find 2 = .ok (.iload_n 2, 1) := by decide +kernel
theorem dX5_find_3 : decode cX5_find 3 = .ok (.bipush 24, 2) := by decide +kernel
theorem dX5_find_5 : decode cX5_find 5 = .ok (.if_icmp .ge 43, 3) := by decide +kernel
theorem dX5_find_8 : decode cX5_find 8 = .ok (.iload_n 2, 1) := by decide +kernel
theorem dX5_find_9 : decode cX5_find 9 = .ok (.iconst 4, 1) := by decide +kernel
theorem dX5_find_10 : decode cX5_find 10 = .ok (.irem, 1) := by decide +kernel
theorem dX5_find_11 : decode cX5_find 11 = .ok (.aload_n 0, 1) := by decide +kernel
theorem dX5_find_12 : decode cX5_find 12 = .ok (.iload_n 2, 1) := by decide +kernel
theorem dX5_find_13 : decode cX5_find 13 = .ok (.iconst 4, 1) := by decide +kernel
theorem dX5_find_14 : decode cX5_find 14 = .ok (.idiv, 1) := by decide +kernel
theorem dX5_find_15 : decode cX5_find 15 = .ok (.bipush 6, 2) := by decide +kernel
theorem dX5_find_17 : decode cX5_find 17 = .ok (.invokestatic 33, 3) := by decide +kernel
theorem dX5_find_20 : decode cX5_find 20 = .ok (.if_icmp .ge 22, 3) := by decide +kernel
theorem dX5_find_23 : decode cX5_find 23 = .ok (.aload_n 0, 1) := by decide +kernel
theorem dX5_find_24 : decode cX5_find 24 = .ok (.iload_n 2, 1) := by decide +kernel
theorem dX5_find_25 : decode cX5_find 25 = .ok (.iconst 4, 1) := by decide +kernel
theorem dX5_find_26 : decode cX5_find 26 = .ok (.idiv, 1) := by decide +kernel
theorem dX5_find_27 : decode cX5_find 27 = .ok (.bipush 7, 2) := by decide +kernel
theorem dX5_find_29 : decode cX5_find 29 = .ok (.iload_n 2, 1) := by decide +kernel
theorem dX5_find_30 : decode cX5_find 30 = .ok (.iconst 4, 1) := by decide +kernel
theorem dX5_find_31 : decode cX5_find 31 = .ok (.irem, 1) := by decide +kernel
theorem dX5_find_32 : decode cX5_find 32 = .ok (.iadd, 1) := by decide +kernel
theorem dX5_find_33 : decode cX5_find 33 = .ok (.invokestatic 33, 3) := by decide +kernel
theorem dX5_find_36 : decode cX5_find 36 = .ok (.iload_n 1, 1) := by decide +kernel
theorem dX5_find_37 : decode cX5_find 37 = .ok (.if_icmp .ne 5, 3) := by decide +kernel
theorem dX5_find_40 : decode cX5_find 40 = .ok (.iload_n 2, 1) := by decide +kernel
theorem dX5_find_41 : decode cX5_find 41 = .ok (.ireturn, 1) := by decide +kernel
theorem dX5_find_42 : decode cX5_find 42 = .ok (.iinc 2 1, 3) := by decide +kernel
theorem dX5_find_45 : decode cX5_find 45 = .ok (.goto (-43), 3) := by decide +kernel
theorem dX5_find_48 : decode cX5_find 48 = .ok (.iconst (-1), 1) := by decide +kernel
theorem dX5_find_49 : decode cX5_find 49 = .ok (.ireturn, 1) := by decide +kernel
theorem dX5_mayKeep_0 : decode cX5_mayKeep 0 = .ok (.aload_n 0, 1) := by decide +kernel
theorem dX5_mayKeep_1 : decode cX5_mayKeep 1 = .ok (.iload_n 2, 1) := by decide +kernel
theorem dX5_mayKeep_2 : decode cX5_mayKeep 2 = .ok (.invokestatic 100, 3) := by decide +kernel
theorem dX5_mayKeep_5 : decode cX5_mayKeep 5 = .ok (.iconst (-1), 1) := by decide +kernel
theorem dX5_mayKeep_6 : decode cX5_mayKeep 6 = .ok (.if_icmp .ne 18, 3) := by decide +kernel
theorem dX5_mayKeep_9 : decode cX5_mayKeep 9 = .ok (.aload_n 0, 1) := by decide +kernel
theorem dX5_mayKeep_10 : decode cX5_mayKeep 10 = .ok (.iload_n 1, 1) := by decide +kernel
theorem dX5_mayKeep_11 : decode cX5_mayKeep 11 = .ok (.bipush 6, 2) := by decide +kernel
theorem dX5_mayKeep_13 : decode cX5_mayKeep 13 = .ok (.invokestatic 33, 3) := by decide +kernel
theorem dX5_mayKeep_16 : decode cX5_mayKeep 16 = .ok (.iconst 4, 1) := by decide +kernel
theorem dX5_mayKeep_17 : decode cX5_mayKeep 17 = .ok (.if_icmp .ge 7, 3) := by decide +kernel
theorem dX5_mayKeep_20 : decode cX5_mayKeep 20 = .ok (.iconst 1, 1) := by decide +kernel
theorem dX5_mayKeep_21 : decode cX5_mayKeep 21 = .ok (.goto 4, 3) := by decide +kernel
theorem dX5_mayKeep_24 : decode cX5_mayKeep 24 = .ok (.iconst 0, 1) := by decide +kernel
theorem dX5_mayKeep_25 : decode cX5_mayKeep 25 = .ok (.ireturn, 1) := by decide +kernel
theorem dX5_keeps_0 : decode cX5_keeps 0 = .ok (.bipush 9, 2) := by decide +kernel
theorem dX5_keeps_2 : decode cX5_keeps 2 = .ok (.bipush 15, 2) := by decide +kernel
theorem dX5_keeps_4 : decode cX5_keeps 4 = .ok (.iload_n 1, 1) := by decide +kernel
theorem dX5_keeps_5 : decode cX5_keeps 5 = .ok (.imul, 1) := by decide +kernel
theorem dX5_keeps_6 : decode cX5_keeps 6 = .ok (.iadd, 1) := by decide +kernel
theorem dX5_keeps_7 : decode cX5_keeps 7 = .ok (.istore_n 3, 1) := by decide +kernel
theorem dX5_keeps_8 : decode cX5_keeps 8 = .ok (.aload_n 0, 1) := by decide +kernel
theorem dX5_keeps_9 : decode cX5_keeps 9 = .ok (.iload_n 3, 1) := by decide +kernel
theorem dX5_keeps_10 : decode cX5_keeps 10 = .ok (.bipush 7, 2) := by decide +kernel
theorem dX5_keeps_12 : decode cX5_keeps 12 = .ok (.iadd, 1) := by decide +kernel
theorem dX5_keeps_13 : decode cX5_keeps 13 = .ok (.aload_n 0, 1) := by decide +kernel
theorem dX5_keeps_14 : decode cX5_keeps 14 = .ok (.iload_n 3, 1) := by decide +kernel
theorem dX5_keeps_15 : decode cX5_keeps 15 = .ok (.bipush 6, 2) := by decide +kernel
theorem dX5_keeps_17 : decode cX5_keeps 17 = .ok (.iadd, 1) := by decide +kernel
theorem dX5_keeps_18 : decode cX5_keeps 18 = .ok (.iaload, 1) := by decide +kernel
theorem dX5_keeps_19 : decode cX5_keeps 19 = .ok (.iadd, 1) := by decide +kernel
theorem dX5_keeps_20 : decode cX5_keeps 20 = .ok (.iload_n 2, 1) := by decide +kernel
theorem dX5_keeps_21 : decode cX5_keeps 21 = .ok (.iastore, 1) := by decide +kernel
theorem dX5_keeps_22 : decode cX5_keeps 22 = .ok (.aload_n 0, 1) := by decide +kernel
theorem dX5_keeps_23 : decode cX5_keeps 23 = .ok (.iload_n 3, 1) := by decide +kernel
theorem dX5_keeps_24 : decode cX5_keeps 24 = .ok (.bipush 11, 2) := by decide +kernel
theorem dX5_keeps_26 : decode cX5_keeps 26 = .ok (.iadd, 1) := by decide +kernel
theorem dX5_keeps_27 : decode cX5_keeps 27 = .ok (.aload_n 0, 1) := by decide +kernel
theorem dX5_keeps_28 : decode cX5_keeps 28 = .ok (.iload_n 3, 1) := by decide +kernel
theorem dX5_keeps_29 : decode cX5_keeps 29 = .ok (.bipush 6, 2) := by decide +kernel
theorem dX5_keeps_31 : decode cX5_keeps 31 = .ok (.iadd, 1) := by decide +kernel
theorem dX5_keeps_32 : decode cX5_keeps 32 = .ok (.iaload, 1) := by decide +kernel
theorem dX5_keeps_33 : decode cX5_keeps 33 = .ok (.iadd, 1) := by decide +kernel
theorem dX5_keeps_34 : decode cX5_keeps 34 = .ok (.iconst 0, 1) := by decide +kernel
theorem dX5_keeps_35 : decode cX5_keeps 35 = .ok (.iastore, 1) := by decide +kernel
theorem dX5_keeps_36 : decode cX5_keeps 36 = .ok (.aload_n 0, 1) := by decide +kernel
theorem dX5_keeps_37 : decode cX5_keeps 37 = .ok (.iload_n 3, 1) := by decide +kernel
theorem dX5_keeps_38 : decode cX5_keeps 38 = .ok (.bipush 6, 2) := by decide +kernel
theorem dX5_keeps_40 : decode cX5_keeps 40 = .ok (.iadd, 1) := by decide +kernel
theorem dX5_keeps_41 : decode cX5_keeps 41 = .ok (.dup2, 1) := by decide +kernel
theorem dX5_keeps_42 : decode cX5_keeps 42 = .ok (.iaload, 1) := by decide +kernel
theorem dX5_keeps_43 : decode cX5_keeps 43 = .ok (.iconst 1, 1) := by decide +kernel
theorem dX5_keeps_44 : decode cX5_keeps 44 = .ok (.iadd, 1) := by decide +kernel
theorem dX5_keeps_45 : decode cX5_keeps 45 = .ok (.iastore, 1) := by decide +kernel
theorem dX5_keeps_46 : decode cX5_keeps 46 = .ok (.aload_n 0, 1) := by decide +kernel
theorem dX5_keeps_47 : decode cX5_keeps 47 = .ok (.iload_n 3, 1) := by decide +kernel
theorem dX5_keeps_48 : decode cX5_keeps 48 = .ok (.bipush 6, 2) := by decide +kernel
theorem dX5_keeps_50 : decode cX5_keeps 50 = .ok (.iadd, 1) := by decide +kernel
theorem dX5_keeps_51 : decode cX5_keeps 51 = .ok (.iaload, 1) := by decide +kernel
theorem dX5_keeps_52 : decode cX5_keeps 52 = .ok (.ireturn, 1) := by decide +kernel
theorem dX5_keep_0 : decode cX5_keep 0 = .ok (.aload_n 0, 1) := by decide +kernel
theorem dX5_keep_1 : decode cX5_keep 1 = .ok (.iconst 0, 1) := by decide +kernel
theorem dX5_keep_2 : decode cX5_keep 2 = .ok (.putfield 25, 3) := by decide +kernel
theorem dX5_keep_5 : decode cX5_keep 5 = .ok (.iload_n 1, 1) := by decide +kernel
theorem dX5_keep_6 : decode cX5_keep 6 = .ok (.invokestatic 63, 3) := by decide +kernel
theorem dX5_keep_9 : decode cX5_keep 9 = .ok (.ifCond .ne 9, 3) := by decide +kernel
theorem dX5_keep_12 : decode cX5_keep 12 = .ok (.aload_n 0, 1) := by decide +kernel
theorem dX5_keep_13 : decode cX5_keep 13 = .ok (.iconst 1, 1) := by decide +kernel
theorem dX5_keep_14 : decode cX5_keep 14 = .ok (.invokevirtual 44, 3) := by decide +kernel
theorem dX5_keep_17 : decode cX5_keep 17 = .ok (.ireturn, 1) := by decide +kernel
theorem dX5_keep_18 : decode cX5_keep 18 = .ok (.iload_n 2, 1) := by decide +kernel
theorem dX5_keep_19 : decode cX5_keep 19 = .ok (.iconst 0, 1) := by decide +kernel
theorem dX5_keep_20 : decode cX5_keep 20 = .ok (.bipush 99, 2) := by decide +kernel
theorem dX5_keep_22 : decode cX5_keep 22 = .ok (.invokestatic 29, 3) := by decide +kernel
theorem dX5_keep_25 : decode cX5_keep 25 = .ok (.ifCond .ne 9, 3) := by decide +kernel
theorem dX5_keep_28 : decode cX5_keep 28 = .ok (.aload_n 0, 1) := by decide +kernel
theorem dX5_keep_29 : decode cX5_keep 29 = .ok (.iconst 2, 1) := by decide +kernel
theorem dX5_keep_30 : decode cX5_keep 30 = .ok (.invokevirtual 44, 3) := by decide +kernel
theorem dX5_keep_33 : decode cX5_keep 33 = .ok (.ireturn, 1) := by decide +kernel
theorem dX5_keep_34 : decode cX5_keep 34 = .ok (.aload_n 0, 1) := by decide +kernel
theorem dX5_keep_35 : decode cX5_keep 35 = .ok (.getfield 7, 3) := by decide +kernel
theorem dX5_keep_38 : decode cX5_keep 38 = .ok (.iload_n 1, 1) := by decide +kernel
theorem dX5_keep_39 : decode cX5_keep 39 = .ok (.iload_n 2, 1) := by decide +kernel
theorem dX5_keep_40 : decode cX5_keep 40 = .ok (.invokestatic 104, 3) := by decide +kernel
theorem dX5_keep_43 : decode cX5_keep 43 = .ok (.ifCond .ne 9, 3) := by decide +kernel
theorem dX5_keep_46 : decode cX5_keep 46 = .ok (.aload_n 0, 1) := by decide +kernel
theorem dX5_keep_47 : decode cX5_keep 47 = .ok (.iconst 3, 1) := by decide +kernel
theorem dX5_keep_48 : decode cX5_keep 48 = .ok (.invokevirtual 44, 3) := by decide +kernel
theorem dX5_keep_51 : decode cX5_keep 51 = .ok (.ireturn, 1) := by decide +kernel
theorem dX5_keep_52 : decode cX5_keep 52 = .ok (.aload_n 0, 1) := by decide +kernel
theorem dX5_keep_53 : decode cX5_keep 53 = .ok (.invokevirtual 70, 3) := by decide +kernel
theorem dX5_keep_56 : decode cX5_keep 56 = .ok (.aload_n 0, 1) := by decide +kernel
theorem dX5_keep_57 : decode cX5_keep 57 = .ok (.getfield 7, 3) := by decide +kernel
theorem dX5_keep_60 : decode cX5_keep 60 = .ok (.iload_n 1, 1) := by decide +kernel
theorem dX5_keep_61 : decode cX5_keep 61 = .ok (.iload_n 2, 1) := by decide +kernel
theorem dX5_keep_62 : decode cX5_keep 62 = .ok (.invokestatic 107, 3) := by decide +kernel
theorem dX5_keep_65 : decode cX5_keep 65 = .ok (.ireturn, 1) := by decide +kernel
theorem dX5_read_0 : decode cX5_read 0 = .ok (.aload_n 0, 1) := by decide +kernel
theorem dX5_read_1 : decode cX5_read 1 = .ok (.iconst 0, 1) := by decide +kernel
theorem dX5_read_2 : decode cX5_read 2 = .ok (.putfield 25, 3) := by decide +kernel
theorem dX5_read_5 : decode cX5_read 5 = .ok (.iload_n 1, 1) := by decide +kernel
theorem dX5_read_6 : decode cX5_read 6 = .ok (.iconst 0, 1) := by decide +kernel
theorem dX5_read_7 : decode cX5_read 7 = .ok (.bipush 99, 2) := by decide +kernel
theorem dX5_read_9 : decode cX5_read 9 = .ok (.invokestatic 29, 3) := by decide +kernel
theorem dX5_read_12 : decode cX5_read 12 = .ok (.ifCond .ne 9, 3) := by decide +kernel
theorem dX5_read_15 : decode cX5_read 15 = .ok (.aload_n 0, 1) := by decide +kernel
theorem dX5_read_16 : decode cX5_read 16 = .ok (.iconst 1, 1) := by decide +kernel
theorem dX5_read_17 : decode cX5_read 17 = .ok (.invokevirtual 44, 3) := by decide +kernel
theorem dX5_read_20 : decode cX5_read 20 = .ok (.ireturn, 1) := by decide +kernel
theorem dX5_read_21 : decode cX5_read 21 = .ok (.aload_n 0, 1) := by decide +kernel
theorem dX5_read_22 : decode cX5_read 22 = .ok (.invokevirtual 70, 3) := by decide +kernel
theorem dX5_read_25 : decode cX5_read 25 = .ok (.aload_n 0, 1) := by decide +kernel
theorem dX5_read_26 : decode cX5_read 26 = .ok (.getfield 7, 3) := by decide +kernel
theorem dX5_read_29 : decode cX5_read 29 = .ok (.iload_n 1, 1) := by decide +kernel
theorem dX5_read_30 : decode cX5_read 30 = .ok (.invokestatic 100, 3) := by decide +kernel
theorem dX5_read_33 : decode cX5_read 33 = .ok (.istore_n 2, 1) := by decide +kernel
theorem dX5_read_34 : decode cX5_read 34 = .ok (.iload_n 2, 1) := by decide +kernel
theorem dX5_read_35 : decode cX5_read 35 = .ok (.iconst (-1), 1) := by decide +kernel
theorem dX5_read_36 : decode cX5_read 36 = .ok (.if_icmp .ne 5, 3) := by decide +kernel
theorem dX5_read_39 : decode cX5_read 39 = .ok (.iconst (-1), 1) := by decide +kernel
theorem dX5_read_40 : decode cX5_read 40 = .ok (.ireturn, 1) := by decide +kernel
theorem dX5_read_41 : decode cX5_read 41 = .ok (.iload_n 2, 1) := by decide +kernel
theorem dX5_read_42 : decode cX5_read 42 = .ok (.iconst 4, 1) := by decide +kernel
theorem dX5_read_43 : decode cX5_read 43 = .ok (.idiv, 1) := by decide +kernel
theorem dX5_read_44 : decode cX5_read 44 = .ok (.istore_n 3, 1) := by decide +kernel
theorem dX5_read_45 : decode cX5_read 45 = .ok (.aload_n 0, 1) := by decide +kernel
theorem dX5_read_46 : decode cX5_read 46 = .ok (.getfield 7, 3) := by decide +kernel
theorem dX5_read_49 : decode cX5_read 49 = .ok (.iload_n 3, 1) := by decide +kernel
theorem dX5_read_50 : decode cX5_read 50 = .ok (.invokestatic 52, 3) := by decide +kernel
theorem dX5_read_53 : decode cX5_read 53 = .ok (.istore 4, 2) := by decide +kernel
theorem dX5_read_55 : decode cX5_read 55 = .ok (.aload_n 0, 1) := by decide +kernel
theorem dX5_read_56 : decode cX5_read 56 = .ok (.getfield 7, 3) := by decide +kernel
theorem dX5_read_59 : decode cX5_read 59 = .ok (.iconst 4, 1) := by decide +kernel
theorem dX5_read_60 : decode cX5_read 60 = .ok (.dup2, 1) := by decide +kernel
theorem dX5_read_61 : decode cX5_read 61 = .ok (.iaload, 1) := by decide +kernel
theorem dX5_read_62 : decode cX5_read 62 = .ok (.iconst 1, 1) := by decide +kernel
theorem dX5_read_63 : decode cX5_read 63 = .ok (.iadd, 1) := by decide +kernel
theorem dX5_read_64 : decode cX5_read 64 = .ok (.iastore, 1) := by decide +kernel
theorem dX5_read_65 : decode cX5_read 65 = .ok (.aload_n 0, 1) := by decide +kernel
theorem dX5_read_66 : decode cX5_read 66 = .ok (.getfield 7, 3) := by decide +kernel
theorem dX5_read_69 : decode cX5_read 69 = .ok (.iconst 5, 1) := by decide +kernel
theorem dX5_read_70 : decode cX5_read 70 = .ok (.dup2, 1) := by decide +kernel
theorem dX5_read_71 : decode cX5_read 71 = .ok (.iaload, 1) := by decide +kernel
theorem dX5_read_72 : decode cX5_read 72 = .ok (.iload 4, 2) := by decide +kernel
theorem dX5_read_74 : decode cX5_read 74 = .ok (.ifCond .eq 7, 3) := by decide +kernel
theorem dX5_read_77 : decode cX5_read 77 = .ok (.iconst 0, 1) := by decide +kernel
theorem dX5_read_78 : decode cX5_read 78 = .ok (.goto 4, 3) := by decide +kernel
theorem dX5_read_81 : decode cX5_read 81 = .ok (.iconst 1, 1) := by decide +kernel
theorem dX5_read_82 : decode cX5_read 82 = .ok (.iadd, 1) := by decide +kernel
theorem dX5_read_83 : decode cX5_read 83 = .ok (.iastore, 1) := by decide +kernel
theorem dX5_read_84 : decode cX5_read 84 = .ok (.aload_n 0, 1) := by decide +kernel
theorem dX5_read_85 : decode cX5_read 85 = .ok (.getfield 7, 3) := by decide +kernel
theorem dX5_read_88 : decode cX5_read 88 = .ok (.bipush 9, 2) := by decide +kernel
theorem dX5_read_90 : decode cX5_read 90 = .ok (.bipush 15, 2) := by decide +kernel
theorem dX5_read_92 : decode cX5_read 92 = .ok (.iload_n 3, 1) := by decide +kernel
theorem dX5_read_93 : decode cX5_read 93 = .ok (.imul, 1) := by decide +kernel
theorem dX5_read_94 : decode cX5_read 94 = .ok (.iadd, 1) := by decide +kernel
theorem dX5_read_95 : decode cX5_read 95 = .ok (.iconst 2, 1) := by decide +kernel
theorem dX5_read_96 : decode cX5_read 96 = .ok (.iadd, 1) := by decide +kernel
theorem dX5_read_97 : decode cX5_read 97 = .ok (.iload 4, 2) := by decide +kernel
theorem dX5_read_99 : decode cX5_read 99 = .ok (.ifCond .eq 7, 3) := by decide +kernel
theorem dX5_read_102 : decode cX5_read 102 = .ok (.iconst 0, 1) := by decide +kernel
theorem dX5_read_103 : decode cX5_read 103 = .ok (.goto 12, 3) := by decide +kernel
theorem dX5_read_106 : decode cX5_read 106 = .ok (.aload_n 0, 1) := by decide +kernel
theorem dX5_read_107 : decode cX5_read 107 = .ok (.getfield 7, 3) := by decide +kernel
theorem dX5_read_110 : decode cX5_read 110 = .ok (.iload_n 3, 1) := by decide +kernel
theorem dX5_read_111 : decode cX5_read 111 = .ok (.iconst 2, 1) := by decide +kernel
theorem dX5_read_112 : decode cX5_read 112 = .ok (.invokestatic 33, 3) := by decide +kernel
theorem dX5_read_115 : decode cX5_read 115 = .ok (.iastore, 1) := by decide +kernel
theorem dX5_read_116 : decode cX5_read 116 = .ok (.aload_n 0, 1) := by decide +kernel
theorem dX5_read_117 : decode cX5_read 117 = .ok (.getfield 7, 3) := by decide +kernel
theorem dX5_read_120 : decode cX5_read 120 = .ok (.iload 4, 2) := by decide +kernel
theorem dX5_read_122 : decode cX5_read 122 = .ok (.ifCond .eq 7, 3) := by decide +kernel
theorem dX5_read_125 : decode cX5_read 125 = .ok (.iconst 1, 1) := by decide +kernel
theorem dX5_read_126 : decode cX5_read 126 = .ok (.goto 4, 3) := by decide +kernel
theorem dX5_read_129 : decode cX5_read 129 = .ok (.iconst 3, 1) := by decide +kernel
theorem dX5_read_130 : decode cX5_read 130 = .ok (.invokestatic 110, 3) := by decide +kernel
theorem dX5_read_133 : decode cX5_read 133 = .ok (.iload_n 3, 1) := by decide +kernel
theorem dX5_read_134 : decode cX5_read 134 = .ok (.ireturn, 1) := by decide +kernel
theorem dX5_pass_0 : decode cX5_pass 0 = .ok (.aload_n 0, 1) := by decide +kernel
theorem dX5_pass_1 : decode cX5_pass 1 = .ok (.iconst 0, 1) := by decide +kernel
theorem dX5_pass_2 : decode cX5_pass 2 = .ok (.putfield 25, 3) := by decide +kernel
theorem dX5_pass_5 : decode cX5_pass 5 = .ok (.iload_n 1, 1) := by decide +kernel
theorem dX5_pass_6 : decode cX5_pass 6 = .ok (.iconst 1, 1) := by decide +kernel
theorem dX5_pass_7 : decode cX5_pass 7 = .ok (.bipush 60, 2) := by decide +kernel
theorem dX5_pass_9 : decode cX5_pass 9 = .ok (.invokestatic 29, 3) := by decide +kernel
theorem dX5_pass_12 : decode cX5_pass 12 = .ok (.ifCond .ne 9, 3) := by decide +kernel
theorem dX5_pass_15 : decode cX5_pass 15 = .ok (.aload_n 0, 1) := by decide +kernel
theorem dX5_pass_16 : decode cX5_pass 16 = .ok (.iconst 1, 1) := by decide +kernel
theorem dX5_pass_17 : decode cX5_pass 17 = .ok (.invokevirtual 44, 3) := by decide +kernel
theorem dX5_pass_20 : decode cX5_pass 20 = .ok (.ireturn, 1) := by decide +kernel
theorem dX5_pass_21 : decode cX5_pass 21 = .ok (.aload_n 0, 1) := by decide +kernel
theorem dX5_pass_22 : decode cX5_pass 22 = .ok (.invokevirtual 70, 3) := by decide +kernel
theorem dX5_pass_25 : decode cX5_pass 25 = .ok (.aload_n 0, 1) := by decide +kernel
theorem dX5_pass_26 : decode cX5_pass 26 = .ok (.getfield 7, 3) := by decide +kernel
theorem dX5_pass_29 : decode cX5_pass 29 = .ok (.iconst 3, 1) := by decide +kernel
theorem dX5_pass_30 : decode cX5_pass 30 = .ok (.iaload, 1) := by decide +kernel
theorem dX5_pass_31 : decode cX5_pass 31 = .ok (.istore_n 2, 1) := by decide +kernel
theorem dX5_pass_32 : decode cX5_pass 32 = .ok (.aload_n 0, 1) := by decide +kernel
theorem dX5_pass_33 : decode cX5_pass 33 = .ok (.getfield 7, 3) := by decide +kernel
theorem dX5_pass_36 : decode cX5_pass 36 = .ok (.iload_n 1, 1) := by decide +kernel
theorem dX5_pass_37 : decode cX5_pass 37 = .ok (.invokestatic 110, 3) := by decide +kernel
theorem dX5_pass_40 : decode cX5_pass 40 = .ok (.aload_n 0, 1) := by decide +kernel
theorem dX5_pass_41 : decode cX5_pass 41 = .ok (.getfield 7, 3) := by decide +kernel
theorem dX5_pass_44 : decode cX5_pass 44 = .ok (.iconst 3, 1) := by decide +kernel
theorem dX5_pass_45 : decode cX5_pass 45 = .ok (.iaload, 1) := by decide +kernel
theorem dX5_pass_46 : decode cX5_pass 46 = .ok (.iload_n 2, 1) := by decide +kernel
theorem dX5_pass_47 : decode cX5_pass 47 = .ok (.isub, 1) := by decide +kernel
theorem dX5_pass_48 : decode cX5_pass 48 = .ok (.ireturn, 1) := by decide +kernel
theorem dX5_append_0 : decode cX5_append 0 = .ok (.aload_n 0, 1) := by decide +kernel
theorem dX5_append_1 : decode cX5_append 1 = .ok (.iconst 0, 1) := by decide +kernel
theorem dX5_append_2 : decode cX5_append 2 = .ok (.putfield 25, 3) := by decide +kernel
theorem dX5_append_5 : decode cX5_append 5 = .ok (.iload_n 1, 1) := by decide +kernel
theorem dX5_append_6 : decode cX5_append 6 = .ok (.bipush 33, 2) := by decide +kernel
theorem dX5_append_8 : decode cX5_append 8 = .ok (.bipush 126, 2) := by decide +kernel
theorem dX5_append_10 : decode cX5_append 10 = .ok (.invokestatic 29, 3) := by decide +kernel
theorem dX5_append_13 : decode cX5_append 13 = .ok (.ifCond .ne 9, 3) := by decide +kernel
theorem dX5_append_16 : decode cX5_append 16 = .ok (.aload_n 0, 1) := by decide +kernel
theorem dX5_append_17 : decode cX5_append 17 = .ok (.iconst 1, 1) := by decide +kernel
theorem dX5_append_18 : decode cX5_append 18 = .ok (.invokevirtual 44, 3) := by decide +kernel
theorem dX5_append_21 : decode cX5_append 21 = .ok (.ireturn, 1) := by decide +kernel
theorem dX5_append_22 : decode cX5_append 22 = .ok (.aload_n 0, 1) := by decide +kernel
theorem dX5_append_23 : decode cX5_append 23 = .ok (.getfield 113, 3) := by decide +kernel
theorem dX5_append_26 : decode cX5_append 26 = .ok (.bipush 60, 2) := by decide +kernel
theorem dX5_append_28 : decode cX5_append 28 = .ok (.if_icmp .ne 9, 3) := by decide +kernel
theorem dX5_append_31 : decode cX5_append 31 = .ok (.aload_n 0, 1) := by decide +kernel
theorem dX5_append_32 : decode cX5_append 32 = .ok (.iconst 2, 1) := by decide +kernel
theorem dX5_append_33 : decode cX5_append 33 = .ok (.invokevirtual 44, 3) := by decide +kernel
theorem dX5_append_36 : decode cX5_append 36 = .ok (.ireturn, 1) := by decide +kernel
theorem dX5_append_37 : decode cX5_append 37 = .ok (.aload_n 0, 1) := by decide +kernel
theorem dX5_append_38 : decode cX5_append 38 = .ok (.getfield 19, 3) := by decide +kernel
theorem dX5_append_41 : decode cX5_append 41 = .ok (.aload_n 0, 1) := by decide +kernel
theorem dX5_append_42 : decode cX5_append 42 = .ok (.getfield 113, 3) := by decide +kernel
theorem dX5_append_45 : decode cX5_append 45 = .ok (.iload_n 1, 1) := by decide +kernel
theorem dX5_append_46 : decode cX5_append 46 = .ok (.iastore, 1) := by decide +kernel
theorem dX5_append_47 : decode cX5_append 47 = .ok (.aload_n 0, 1) := by decide +kernel
theorem dX5_append_48 : decode cX5_append 48 = .ok (.dup, 1) := by decide +kernel
theorem dX5_append_49 : decode cX5_append 49 = .ok (.getfield 113, 3) := by decide +kernel
theorem dX5_append_52 : decode cX5_append 52 = .ok (.iconst 1, 1) := by decide +kernel
theorem dX5_append_53 : decode cX5_append 53 = .ok (.iadd, 1) := by decide +kernel
theorem dX5_append_54 : decode cX5_append 54 = .ok (.putfield 113, 3) := by decide +kernel
theorem dX5_append_57 : decode cX5_append 57 = .ok (.aload_n 0, 1) := by decide +kernel
theorem dX5_append_58 : decode cX5_append 58 = .ok (.getfield 113, 3) := by decide +kernel
theorem dX5_append_61 : decode cX5_append 61 = .ok (.ireturn, 1) := by decide +kernel
theorem dX5_clearBuffer_0 : decode cX5_clearBuffer 0 = .ok (.aload_n 0, 1) := by decide +kernel
theorem dX5_clearBuffer_1 : decode cX5_clearBuffer 1 = .ok (.iconst 0, 1) := by decide +kernel
theorem dX5_clearBuffer_2 : decode cX5_clearBuffer 2 = .ok (.putfield 25, 3) := by decide +kernel
theorem dX5_clearBuffer_5 : decode cX5_clearBuffer 5 = .ok (.aload_n 0, 1) := by decide +kernel
theorem dX5_clearBuffer_6 : decode cX5_clearBuffer 6 = .ok (.getfield 113, 3) := by decide +kernel
theorem dX5_clearBuffer_9 : decode cX5_clearBuffer 9 = .ok (.istore_n 1, 1) := by decide +kernel
theorem dX5_clearBuffer_10 : decode cX5_clearBuffer 10 = .ok (.aload_n 0, 1) := by decide +kernel
theorem dX5_clearBuffer_11 : decode cX5_clearBuffer 11 = .ok (.iconst 0, 1) := by decide +kernel
theorem dX5_clearBuffer_12 : decode cX5_clearBuffer 12 = .ok (.putfield 113, 3) := by decide +kernel
theorem dX5_clearBuffer_15 : decode cX5_clearBuffer 15 = .ok (.iload_n 1, 1) := by decide +kernel
theorem dX5_clearBuffer_16 : decode cX5_clearBuffer 16 = .ok (.ireturn, 1) := by decide +kernel
theorem dX5_isAt_0 : decode cX5_isAt 0 = .ok (.aload_n 0, 1) := by decide +kernel
theorem dX5_isAt_1 : decode cX5_isAt 1 = .ok (.getfield 116, 3) := by decide +kernel
theorem dX5_isAt_4 : decode cX5_isAt 4 = .ok (.aload_n 0, 1) := by decide +kernel
theorem dX5_isAt_5 : decode cX5_isAt 5 = .ok (.getfield 113, 3) := by decide +kernel
theorem dX5_isAt_8 : decode cX5_isAt 8 = .ok (.if_icmp .ge 24, 3) := by decide +kernel
theorem dX5_isAt_11 : decode cX5_isAt 11 = .ok (.aload_n 0, 1) := by decide +kernel
theorem dX5_isAt_12 : decode cX5_isAt 12 = .ok (.getfield 19, 3) := by decide +kernel
theorem dX5_isAt_15 : decode cX5_isAt 15 = .ok (.aload_n 0, 1) := by decide +kernel
theorem dX5_isAt_16 : decode cX5_isAt 16 = .ok (.getfield 116, 3) := by decide +kernel
theorem dX5_isAt_19 : decode cX5_isAt 19 = .ok (.iaload, 1) := by decide +kernel
theorem dX5_isAt_20 : decode cX5_isAt 20 = .ok (.iload_n 1, 1) := by decide +kernel
theorem dX5_isAt_21 : decode cX5_isAt 21 = .ok (.iload_n 2, 1) := by decide +kernel
theorem dX5_isAt_22 : decode cX5_isAt 22 = .ok (.invokestatic 29, 3) := by decide +kernel
theorem dX5_isAt_25 : decode cX5_isAt 25 = .ok (.ifCond .eq 7, 3) := by decide +kernel
theorem dX5_isAt_28 : decode cX5_isAt 28 = .ok (.iconst 1, 1) := by decide +kernel
theorem dX5_isAt_29 : decode cX5_isAt 29 = .ok (.goto 4, 3) := by decide +kernel
theorem dX5_isAt_32 : decode cX5_isAt 32 = .ok (.iconst 0, 1) := by decide +kernel
theorem dX5_isAt_33 : decode cX5_isAt 33 = .ok (.ireturn, 1) := by decide +kernel
theorem dX5_stops_0 : decode cX5_stops 0 = .ok (.aload_n 0, 1) := by decide +kernel
theorem dX5_stops_1 : decode cX5_stops 1 = .ok (.aload_n 0, 1) := by decide +kernel
theorem dX5_stops_2 : decode cX5_stops 2 = .ok (.getfield 116, 3) := by decide +kernel
theorem dX5_stops_5 : decode cX5_stops 5 = .ok (.aload_n 0, 1) := by decide +kernel
theorem dX5_stops_6 : decode cX5_stops 6 = .ok (.getfield 113, 3) := by decide +kernel
theorem dX5_stops_9 : decode cX5_stops 9 = .ok (.if_icmp .ge 7, 3) := by decide +kernel
theorem dX5_stops_12 : decode cX5_stops 12 = .ok (.iconst 1, 1) := by decide +kernel
theorem dX5_stops_13 : decode cX5_stops 13 = .ok (.goto 4, 3) := by decide +kernel
theorem dX5_stops_16 : decode cX5_stops 16 = .ok (.iconst 0, 1) := by decide +kernel
theorem dX5_stops_17 : decode cX5_stops 17 = .ok (.putfield 119, 3) := by decide +kernel
theorem dX5_stops_20 : decode cX5_stops 20 = .ok (.iconst 0, 1) := by decide +kernel
theorem dX5_stops_21 : decode cX5_stops 21 = .ok (.ireturn, 1) := by decide +kernel
theorem dX5_isPart_0 : decode cX5_isPart 0 = .ok (.aload_n 0, 1) := by decide +kernel
theorem dX5_isPart_1 : decode cX5_isPart 1 = .ok (.bipush 48, 2) := by decide +kernel
theorem dX5_isPart_3 : decode cX5_isPart 3 = .ok (.bipush 53, 2) := by decide +kernel
theorem dX5_isPart_5 : decode cX5_isPart 5 = .ok (.invokevirtual 123, 3) := by decide +kernel
theorem dX5_isPart_8 : decode cX5_isPart 8 = .ok (.ifCond .ne 8, 3) := by decide +kernel
theorem dX5_isPart_11 : decode cX5_isPart 11 = .ok (.aload_n 0, 1) := by decide +kernel
theorem dX5_isPart_12 : decode cX5_isPart 12 = .ok (.invokevirtual 127, 3) := by decide +kernel
theorem dX5_isPart_15 : decode cX5_isPart 15 = .ok (.ireturn, 1) := by decide +kernel
theorem dX5_isPart_16 : decode cX5_isPart 16 = .ok (.aload_n 0, 1) := by decide +kernel
theorem dX5_isPart_17 : decode cX5_isPart 17 = .ok (.getfield 22, 3) := by decide +kernel
theorem dX5_isPart_20 : decode cX5_isPart 20 = .ok (.iconst 3, 1) := by decide +kernel
theorem dX5_isPart_21 : decode cX5_isPart 21 = .ok (.aload_n 0, 1) := by decide +kernel
theorem dX5_isPart_22 : decode cX5_isPart 22 = .ok (.getfield 131, 3) := by decide +kernel
theorem dX5_isPart_25 : decode cX5_isPart 25 = .ok (.imul, 1) := by decide +kernel
theorem dX5_isPart_26 : decode cX5_isPart 26 = .ok (.aload_n 0, 1) := by decide +kernel
theorem dX5_isPart_27 : decode cX5_isPart 27 = .ok (.getfield 19, 3) := by decide +kernel
theorem dX5_isPart_30 : decode cX5_isPart 30 = .ok (.aload_n 0, 1) := by decide +kernel
theorem dX5_isPart_31 : decode cX5_isPart 31 = .ok (.getfield 116, 3) := by decide +kernel
theorem dX5_isPart_34 : decode cX5_isPart 34 = .ok (.iaload, 1) := by decide +kernel
theorem dX5_isPart_35 : decode cX5_isPart 35 = .ok (.bipush 48, 2) := by decide +kernel
theorem dX5_isPart_37 : decode cX5_isPart 37 = .ok (.isub, 1) := by decide +kernel
theorem dX5_isPart_38 : decode cX5_isPart 38 = .ok (.iastore, 1) := by decide +kernel
theorem dX5_isPart_39 : decode cX5_isPart 39 = .ok (.aload_n 0, 1) := by decide +kernel
theorem dX5_isPart_40 : decode cX5_isPart 40 = .ok (.dup, 1) := by decide +kernel
theorem dX5_isPart_41 : decode cX5_isPart 41 = .ok (.getfield 116, 3) := by decide +kernel
theorem dX5_isPart_44 : decode cX5_isPart 44 = .ok (.iconst 1, 1) := by decide +kernel
theorem dX5_isPart_45 : decode cX5_isPart 45 = .ok (.iadd, 1) := by decide +kernel
theorem dX5_isPart_46 : decode cX5_isPart 46 = .ok (.putfield 116, 3) := by decide +kernel
theorem dX5_isPart_49 : decode cX5_isPart 49 = .ok (.aload_n 0, 1) := by decide +kernel
theorem dX5_isPart_50 : decode cX5_isPart 50 = .ok (.getfield 116, 3) := by decide +kernel
theorem dX5_isPart_53 : decode cX5_isPart 53 = .ok (.aload_n 0, 1) := by decide +kernel
theorem dX5_isPart_54 : decode cX5_isPart 54 = .ok (.getfield 113, 3) := by decide +kernel
theorem dX5_isPart_57 : decode cX5_isPart 57 = .ok (.if_icmp .ge 15, 3) := by decide +kernel
theorem dX5_isPart_60 : decode cX5_isPart 60 = .ok (.aload_n 0, 1) := by decide +kernel
theorem dX5_isPart_61 : decode cX5_isPart 61 = .ok (.getfield 19, 3) := by decide +kernel
theorem dX5_isPart_64 : decode cX5_isPart 64 = .ok (.aload_n 0, 1) := by decide +kernel
theorem dX5_isPart_65 : decode cX5_isPart 65 = .ok (.getfield 116, 3) := by decide +kernel
theorem dX5_isPart_68 : decode cX5_isPart 68 = .ok (.iaload, 1) := by decide +kernel
theorem dX5_isPart_69 : decode cX5_isPart 69 = .ok (.goto 4, 3) := by decide +kernel
theorem dX5_isPart_72 : decode cX5_isPart 72 = .ok (.iconst 0, 1) := by decide +kernel
theorem dX5_isPart_73 : decode cX5_isPart 73 = .ok (.istore_n 1, 1) := by decide +kernel
theorem dX5_isPart_74 : decode cX5_isPart 74 = .ok (.aload_n 0, 1) := by decide +kernel
theorem dX5_isPart_75 : decode cX5_isPart 75 = .ok (.getfield 22, 3) := by decide +kernel
theorem dX5_isPart_78 : decode cX5_isPart 78 = .ok (.iconst 3, 1) := by decide +kernel
theorem dX5_isPart_79 : decode cX5_isPart 79 = .ok (.aload_n 0, 1) := by decide +kernel
theorem dX5_isPart_80 : decode cX5_isPart 80 = .ok (.getfield 131, 3) := by decide +kernel
theorem dX5_isPart_83 : decode cX5_isPart 83 = .ok (.imul, 1) := by decide +kernel
theorem dX5_isPart_84 : decode cX5_isPart 84 = .ok (.iconst 1, 1) := by decide +kernel
theorem dX5_isPart_85 : decode cX5_isPart 85 = .ok (.iadd, 1) := by decide +kernel
theorem dX5_isPart_86 : decode cX5_isPart 86 = .ok (.iload_n 1, 1) := by decide +kernel
theorem dX5_isPart_87 : decode cX5_isPart 87 = .ok (.iastore, 1) := by decide +kernel
theorem dX5_isPart_88 : decode cX5_isPart 88 = .ok (.iload_n 1, 1) := by decide +kernel
theorem dX5_isPart_89 : decode cX5_isPart 89 = .ok (.bipush 42, 2) := by decide +kernel
theorem dX5_isPart_91 : decode cX5_isPart 91 = .ok (.if_icmp .eq 38, 3) := by decide +kernel
theorem dX5_isPart_94 : decode cX5_isPart 94 = .ok (.iload_n 1, 1) := by decide +kernel
theorem dX5_isPart_95 : decode cX5_isPart 95 = .ok (.bipush 60, 2) := by decide +kernel
theorem dX5_isPart_97 : decode cX5_isPart 97 = .ok (.if_icmp .eq 32, 3) := by decide +kernel
theorem dX5_isPart_100 : decode cX5_isPart 100 = .ok (.iload_n 1, 1) := by decide +kernel
theorem dX5_isPart_101 : decode cX5_isPart 101 = .ok (.bipush 62, 2) := by decide +kernel
theorem dX5_isPart_103 : decode cX5_isPart 103 = .ok (.if_icmp .eq 26, 3) := by decide +kernel
theorem dX5_isPart_106 : decode cX5_isPart 106 = .ok (.iload_n 1, 1) := by decide +kernel
theorem dX5_isPart_107 : decode cX5_isPart 107 = .ok (.bipush 110, 2) := by decide +kernel
theorem dX5_isPart_109 : decode cX5_isPart 109 = .ok (.if_icmp .eq 20, 3) := by decide +kernel
theorem dX5_isPart_112 : decode cX5_isPart 112 = .ok (.iload_n 1, 1) := by decide +kernel
theorem dX5_isPart_113 : decode cX5_isPart 113 = .ok (.bipush 98, 2) := by decide +kernel
theorem dX5_isPart_115 : decode cX5_isPart 115 = .ok (.if_icmp .eq 14, 3) := by decide +kernel
theorem dX5_isPart_118 : decode cX5_isPart 118 = .ok (.iload_n 1, 1) := by decide +kernel
theorem dX5_isPart_119 : decode cX5_isPart 119 = .ok (.bipush 43, 2) := by decide +kernel
theorem dX5_isPart_121 : decode cX5_isPart 121 = .ok (.if_icmp .eq 8, 3) := by decide +kernel
theorem dX5_isPart_124 : decode cX5_isPart 124 = .ok (.aload_n 0, 1) := by decide +kernel
theorem dX5_isPart_125 : decode cX5_isPart 125 = .ok (.invokevirtual 127, 3) := by decide +kernel
theorem dX5_isPart_128 : decode cX5_isPart 128 = .ok (.ireturn, 1) := by decide +kernel
theorem dX5_isPart_129 : decode cX5_isPart 129 = .ok (.aload_n 0, 1) := by decide +kernel
theorem dX5_isPart_130 : decode cX5_isPart 130 = .ok (.dup, 1) := by decide +kernel
theorem dX5_isPart_131 : decode cX5_isPart 131 = .ok (.getfield 116, 3) := by decide +kernel
theorem dX5_isPart_134 : decode cX5_isPart 134 = .ok (.iconst 1, 1) := by decide +kernel
theorem dX5_isPart_135 : decode cX5_isPart 135 = .ok (.iadd, 1) := by decide +kernel
theorem dX5_isPart_136 : decode cX5_isPart 136 = .ok (.putfield 116, 3) := by decide +kernel
theorem dX5_isPart_139 : decode cX5_isPart 139 = .ok (.iload_n 1, 1) := by decide +kernel
theorem dX5_isPart_140 : decode cX5_isPart 140 = .ok (.bipush 98, 2) := by decide +kernel
theorem dX5_isPart_142 : decode cX5_isPart 142 = .ok (.if_icmp .eq 9, 3) := by decide +kernel
theorem dX5_isPart_145 : decode cX5_isPart 145 = .ok (.iload_n 1, 1) := by decide +kernel
theorem dX5_isPart_146 : decode cX5_isPart 146 = .ok (.bipush 43, 2) := by decide +kernel
theorem dX5_isPart_148 : decode cX5_isPart 148 = .ok (.if_icmp .ne 43, 3) := by decide +kernel
theorem dX5_isPart_151 : decode cX5_isPart 151 = .ok (.aload_n 0, 1) := by decide +kernel
theorem dX5_isPart_152 : decode cX5_isPart 152 = .ok (.iload_n 1, 1) := by decide +kernel
theorem dX5_isPart_153 : decode cX5_isPart 153 = .ok (.bipush 98, 2) := by decide +kernel
theorem dX5_isPart_155 : decode cX5_isPart 155 = .ok (.if_icmp .ne 7, 3) := by decide +kernel
theorem dX5_isPart_158 : decode cX5_isPart 158 = .ok (.iconst 1, 1) := by decide +kernel
theorem dX5_isPart_159 : decode cX5_isPart 159 = .ok (.goto 4, 3) := by decide +kernel
theorem dX5_isPart_162 : decode cX5_isPart 162 = .ok (.iconst 0, 1) := by decide +kernel
theorem dX5_isPart_163 : decode cX5_isPart 163 = .ok (.iload_n 1, 1) := by decide +kernel
theorem dX5_isPart_164 : decode cX5_isPart 164 = .ok (.bipush 98, 2) := by decide +kernel
theorem dX5_isPart_166 : decode cX5_isPart 166 = .ok (.if_icmp .ne 8, 3) := by decide +kernel
theorem dX5_isPart_169 : decode cX5_isPart 169 = .ok (.bipush 6, 2) := by decide +kernel
theorem dX5_isPart_171 : decode cX5_isPart 171 = .ok (.goto 5, 3) := by decide +kernel
theorem dX5_isPart_174 : decode cX5_isPart 174 = .ok (.bipush 9, 2) := by decide +kernel
theorem dX5_isPart_176 : decode cX5_isPart 176 = .ok (.iload_n 1, 1) := by decide +kernel
theorem dX5_isPart_177 : decode cX5_isPart 177 = .ok (.bipush 43, 2) := by decide +kernel
theorem dX5_isPart_179 : decode cX5_isPart 179 = .ok (.if_icmp .ne 7, 3) := by decide +kernel
theorem dX5_isPart_182 : decode cX5_isPart 182 = .ok (.iconst 1, 1) := by decide +kernel
theorem dX5_isPart_183 : decode cX5_isPart 183 = .ok (.goto 4, 3) := by decide +kernel
theorem dX5_isPart_186 : decode cX5_isPart 186 = .ok (.iconst 0, 1) := by decide +kernel
theorem dX5_isPart_187 : decode cX5_isPart 187 = .ok (.invokevirtual 134, 3) := by decide +kernel
theorem dX5_isPart_190 : decode cX5_isPart 190 = .ok (.ireturn, 1) := by decide +kernel
theorem dX5_isPart_191 : decode cX5_isPart 191 = .ok (.iconst 1, 1) := by decide +kernel
theorem dX5_isPart_192 : decode cX5_isPart 192 = .ok (.ireturn, 1) := by decide +kernel
theorem dX5_isNumber_0 : decode cX5_isNumber 0 = .ok (.aload_n 0, 1) := by decide +kernel
theorem dX5_isNumber_1 : decode cX5_isNumber 1 = .ok (.bipush 48, 2) := by decide +kernel
theorem dX5_isNumber_3 : decode cX5_isNumber 3 = .ok (.iload_n 1, 1) := by decide +kernel
theorem dX5_isNumber_4 : decode cX5_isNumber 4 = .ok (.iadd, 1) := by decide +kernel
theorem dX5_isNumber_5 : decode cX5_isNumber 5 = .ok (.bipush 48, 2) := by decide +kernel
theorem dX5_isNumber_7 : decode cX5_isNumber 7 = .ok (.iload_n 2, 1) := by decide +kernel
theorem dX5_isNumber_8 : decode cX5_isNumber 8 = .ok (.iadd, 1) := by decide +kernel
theorem dX5_isNumber_9 : decode cX5_isNumber 9 = .ok (.invokevirtual 123, 3) := by decide +kernel
theorem dX5_isNumber_12 : decode cX5_isNumber 12 = .ok (.ifCond .ne 8, 3) := by decide +kernel
theorem dX5_isNumber_15 : decode cX5_isNumber 15 = .ok (.aload_n 0, 1) := by decide +kernel
theorem dX5_isNumber_16 : decode cX5_isNumber 16 = .ok (.invokevirtual 127, 3) := by decide +kernel
theorem dX5_isNumber_19 : decode cX5_isNumber 19 = .ok (.ireturn, 1) := by decide +kernel
theorem dX5_isNumber_20 : decode cX5_isNumber 20 = .ok (.aload_n 0, 1) := by decide +kernel
theorem dX5_isNumber_21 : decode cX5_isNumber 21 = .ok (.getfield 19, 3) := by decide +kernel
theorem dX5_isNumber_24 : decode cX5_isNumber 24 = .ok (.aload_n 0, 1) := by decide +kernel
theorem dX5_isNumber_25 : decode cX5_isNumber 25 = .ok (.getfield 116, 3) := by decide +kernel
theorem dX5_isNumber_28 : decode cX5_isNumber 28 = .ok (.iaload, 1) := by decide +kernel
theorem dX5_isNumber_29 : decode cX5_isNumber 29 = .ok (.bipush 48, 2) := by decide +kernel
theorem dX5_isNumber_31 : decode cX5_isNumber 31 = .ok (.isub, 1) := by decide +kernel
theorem dX5_isNumber_32 : decode cX5_isNumber 32 = .ok (.istore 4, 2) := by decide +kernel
theorem dX5_isNumber_34 : decode cX5_isNumber 34 = .ok (.aload_n 0, 1) := by decide +kernel
theorem dX5_isNumber_35 : decode cX5_isNumber 35 = .ok (.dup, 1) := by decide +kernel
theorem dX5_isNumber_36 : decode cX5_isNumber 36 = .ok (.getfield 116, 3) := by decide +kernel
theorem dX5_isNumber_39 : decode cX5_isNumber 39 = .ok (.iconst 1, 1) := by decide +kernel
theorem dX5_isNumber_40 : decode cX5_isNumber 40 = .ok (.iadd, 1) := by decide +kernel
theorem dX5_isNumber_41 : decode cX5_isNumber 41 = .ok (.putfield 116, 3) := by decide +kernel
theorem dX5_isNumber_44 : decode cX5_isNumber 44 = .ok (.iload_n 3, 1) := by decide +kernel
theorem dX5_isNumber_45 : decode cX5_isNumber 45 = .ok (.ifCond .eq 49, 3) := by decide +kernel
theorem dX5_isNumber_48 : decode cX5_isNumber 48 = .ok (.iload 4, 2) := by decide +kernel
theorem dX5_isNumber_50 : decode cX5_isNumber 50 = .ok (.ifCond .le 44, 3) := by decide +kernel
theorem dX5_isNumber_53 : decode cX5_isNumber 53 = .ok (.aload_n 0, 1) := by decide +kernel
theorem dX5_isNumber_54 : decode cX5_isNumber 54 = .ok (.bipush 48, 2) := by decide +kernel
theorem dX5_isNumber_56 : decode cX5_isNumber 56 = .ok (.bipush 57, 2) := by decide +kernel
theorem dX5_isNumber_58 : decode cX5_isNumber 58 = .ok (.invokevirtual 123, 3) := by decide +kernel
theorem dX5_isNumber_61 : decode cX5_isNumber 61 = .ok (.ifCond .eq 33, 3) := by decide +kernel
theorem dX5_isNumber_64 : decode cX5_isNumber 64 = .ok (.bipush 10, 2) := by decide +kernel
theorem dX5_isNumber_66 : decode cX5_isNumber 66 = .ok (.iload 4, 2) := by decide +kernel
theorem dX5_isNumber_68 : decode cX5_isNumber 68 = .ok (.imul, 1) := by decide +kernel
theorem dX5_isNumber_69 : decode cX5_isNumber 69 = .ok (.aload_n 0, 1) := by decide +kernel
theorem dX5_isNumber_70 : decode cX5_isNumber 70 = .ok (.getfield 19, 3) := by decide +kernel
theorem dX5_isNumber_73 : decode cX5_isNumber 73 = .ok (.aload_n 0, 1) := by decide +kernel
theorem dX5_isNumber_74 : decode cX5_isNumber 74 = .ok (.getfield 116, 3) := by decide +kernel
theorem dX5_isNumber_77 : decode cX5_isNumber 77 = .ok (.iaload, 1) := by decide +kernel
theorem dX5_isNumber_78 : decode cX5_isNumber 78 = .ok (.iadd, 1) := by decide +kernel
theorem dX5_isNumber_79 : decode cX5_isNumber 79 = .ok (.bipush 48, 2) := by decide +kernel
theorem dX5_isNumber_81 : decode cX5_isNumber 81 = .ok (.isub, 1) := by decide +kernel
theorem dX5_isNumber_82 : decode cX5_isNumber 82 = .ok (.istore 4, 2) := by decide +kernel
theorem dX5_isNumber_84 : decode cX5_isNumber 84 = .ok (.aload_n 0, 1) := by decide +kernel
theorem dX5_isNumber_85 : decode cX5_isNumber 85 = .ok (.dup, 1) := by decide +kernel
theorem dX5_isNumber_86 : decode cX5_isNumber 86 = .ok (.getfield 116, 3) := by decide +kernel
theorem dX5_isNumber_89 : decode cX5_isNumber 89 = .ok (.iconst 1, 1) := by decide +kernel
theorem dX5_isNumber_90 : decode cX5_isNumber 90 = .ok (.iadd, 1) := by decide +kernel
theorem dX5_isNumber_91 : decode cX5_isNumber 91 = .ok (.putfield 116, 3) := by decide +kernel
theorem dX5_isNumber_94 : decode cX5_isNumber 94 = .ok (.aload_n 0, 1) := by decide +kernel
theorem dX5_isNumber_95 : decode cX5_isNumber 95 = .ok (.getfield 22, 3) := by decide +kernel
theorem dX5_isNumber_98 : decode cX5_isNumber 98 = .ok (.iconst 3, 1) := by decide +kernel
theorem dX5_isNumber_99 : decode cX5_isNumber 99 = .ok (.aload_n 0, 1) := by decide +kernel
theorem dX5_isNumber_100 : decode cX5_isNumber 100 = .ok (.getfield 131, 3) := by decide +kernel
theorem dX5_isNumber_103 : decode cX5_isNumber 103 = .ok (.imul, 1) := by decide +kernel
theorem dX5_isNumber_104 : decode cX5_isNumber 104 = .ok (.iconst 2, 1) := by decide +kernel
theorem dX5_isNumber_105 : decode cX5_isNumber 105 = .ok (.iadd, 1) := by decide +kernel
theorem dX5_isNumber_106 : decode cX5_isNumber 106 = .ok (.iload 4, 2) := by decide +kernel
theorem dX5_isNumber_108 : decode cX5_isNumber 108 = .ok (.iastore, 1) := by decide +kernel
theorem dX5_isNumber_109 : decode cX5_isNumber 109 = .ok (.iconst 1, 1) := by decide +kernel
theorem dX5_isNumber_110 : decode cX5_isNumber 110 = .ok (.ireturn, 1) := by decide +kernel
theorem dX5_isText_0 : decode cX5_isText 0 = .ok (.aload_n 0, 1) := by decide +kernel
theorem dX5_isText_1 : decode cX5_isText 1 = .ok (.iconst 0, 1) := by decide +kernel
theorem dX5_isText_2 : decode cX5_isText 2 = .ok (.putfield 116, 3) := by decide +kernel
theorem dX5_isText_5 : decode cX5_isText 5 = .ok (.aload_n 0, 1) := by decide +kernel
theorem dX5_isText_6 : decode cX5_isText 6 = .ok (.iconst 0, 1) := by decide +kernel
theorem dX5_isText_7 : decode cX5_isText 7 = .ok (.putfield 131, 3) := by decide +kernel
theorem dX5_isText_10 : decode cX5_isText 10 = .ok (.aload_n 0, 1) := by decide +kernel
theorem dX5_isText_11 : decode cX5_isText 11 = .ok (.iconst 0, 1) := by decide +kernel
theorem dX5_isText_12 : decode cX5_isText 12 = .ok (.putfield 119, 3) := by decide +kernel
theorem dX5_isText_15 : decode cX5_isText 15 = .ok (.iconst 1, 1) := by decide +kernel
theorem dX5_isText_16 : decode cX5_isText 16 = .ok (.istore_n 1, 1) := by decide +kernel
theorem dX5_isText_17 : decode cX5_isText 17 = .ok (.iload_n 1, 1) := by decide +kernel
theorem dX5_isText_18 : decode cX5_isText 18 = .ok (.ifCond .eq 52, 3) := by decide +kernel
theorem dX5_isText_21 : decode cX5_isText 21 = .ok (.aload_n 0, 1) := by decide +kernel
theorem dX5_isText_22 : decode cX5_isText 22 = .ok (.invokevirtual 138, 3) := by decide +kernel
theorem dX5_isText_25 : decode cX5_isText 25 = .ok (.ifCond .ne 5, 3) := by decide +kernel
theorem dX5_isText_28 : decode cX5_isText 28 = .ok (.iconst 0, 1) := by decide +kernel
theorem dX5_isText_29 : decode cX5_isText 29 = .ok (.ireturn, 1) := by decide +kernel
theorem dX5_isText_30 : decode cX5_isText 30 = .ok (.aload_n 0, 1) := by decide +kernel
theorem dX5_isText_31 : decode cX5_isText 31 = .ok (.dup, 1) := by decide +kernel
theorem dX5_isText_32 : decode cX5_isText 32 = .ok (.getfield 131, 3) := by decide +kernel
theorem dX5_isText_35 : decode cX5_isText 35 = .ok (.iconst 1, 1) := by decide +kernel
theorem dX5_isText_36 : decode cX5_isText 36 = .ok (.iadd, 1) := by decide +kernel
theorem dX5_isText_37 : decode cX5_isText 37 = .ok (.putfield 131, 3) := by decide +kernel
theorem dX5_isText_40 : decode cX5_isText 40 = .ok (.aload_n 0, 1) := by decide +kernel
theorem dX5_isText_41 : decode cX5_isText 41 = .ok (.bipush 44, 2) := by decide +kernel
theorem dX5_isText_43 : decode cX5_isText 43 = .ok (.bipush 44, 2) := by decide +kernel
theorem dX5_isText_45 : decode cX5_isText 45 = .ok (.invokevirtual 123, 3) := by decide +kernel
theorem dX5_isText_48 : decode cX5_isText 48 = .ok (.istore_n 1, 1) := by decide +kernel
theorem dX5_isText_49 : decode cX5_isText 49 = .ok (.aload_n 0, 1) := by decide +kernel
theorem dX5_isText_50 : decode cX5_isText 50 = .ok (.dup, 1) := by decide +kernel
theorem dX5_isText_51 : decode cX5_isText 51 = .ok (.getfield 116, 3) := by decide +kernel
theorem dX5_isText_54 : decode cX5_isText 54 = .ok (.iload_n 1, 1) := by decide +kernel
theorem dX5_isText_55 : decode cX5_isText 55 = .ok (.ifCond .eq 7, 3) := by decide +kernel
theorem dX5_isText_58 : decode cX5_isText 58 = .ok (.iconst 1, 1) := by decide +kernel
theorem dX5_isText_59 : decode cX5_isText 59 = .ok (.goto 4, 3) := by decide +kernel
theorem dX5_isText_62 : decode cX5_isText 62 = .ok (.iconst 0, 1) := by decide +kernel
theorem dX5_isText_63 : decode cX5_isText 63 = .ok (.iadd, 1) := by decide +kernel
theorem dX5_isText_64 : decode cX5_isText 64 = .ok (.putfield 116, 3) := by decide +kernel
theorem dX5_isText_67 : decode cX5_isText 67 = .ok (.goto (-50), 3) := by decide +kernel
theorem dX5_isText_70 : decode cX5_isText 70 = .ok (.aload_n 0, 1) := by decide +kernel
theorem dX5_isText_71 : decode cX5_isText 71 = .ok (.aload_n 0, 1) := by decide +kernel
theorem dX5_isText_72 : decode cX5_isText 72 = .ok (.getfield 116, 3) := by decide +kernel
theorem dX5_isText_75 : decode cX5_isText 75 = .ok (.aload_n 0, 1) := by decide +kernel
theorem dX5_isText_76 : decode cX5_isText 76 = .ok (.getfield 113, 3) := by decide +kernel
theorem dX5_isText_79 : decode cX5_isText 79 = .ok (.if_icmp .ge 7, 3) := by decide +kernel
theorem dX5_isText_82 : decode cX5_isText 82 = .ok (.iconst 1, 1) := by decide +kernel
theorem dX5_isText_83 : decode cX5_isText 83 = .ok (.goto 4, 3) := by decide +kernel
theorem dX5_isText_86 : decode cX5_isText 86 = .ok (.iconst 0, 1) := by decide +kernel
theorem dX5_isText_87 : decode cX5_isText 87 = .ok (.putfield 119, 3) := by decide +kernel
theorem dX5_isText_90 : decode cX5_isText 90 = .ok (.aload_n 0, 1) := by decide +kernel
theorem dX5_isText_91 : decode cX5_isText 91 = .ok (.getfield 116, 3) := by decide +kernel
theorem dX5_isText_94 : decode cX5_isText 94 = .ok (.aload_n 0, 1) := by decide +kernel
theorem dX5_isText_95 : decode cX5_isText 95 = .ok (.getfield 113, 3) := by decide +kernel
theorem dX5_isText_98 : decode cX5_isText 98 = .ok (.if_icmp .ne 7, 3) := by decide +kernel
theorem dX5_isText_101 : decode cX5_isText 101 = .ok (.iconst 1, 1) := by decide +kernel
theorem dX5_isText_102 : decode cX5_isText 102 = .ok (.goto 4, 3) := by decide +kernel
theorem dX5_isText_105 : decode cX5_isText 105 = .ok (.iconst 0, 1) := by decide +kernel
theorem dX5_isText_106 : decode cX5_isText 106 = .ok (.ireturn, 1) := by decide +kernel
theorem dX5_firstError_0 : decode cX5_firstError 0 = .ok (.aload_n 0, 1) := by decide +kernel
theorem dX5_firstError_1 : decode cX5_firstError 1 = .ok (.iconst 0, 1) := by decide +kernel
theorem dX5_firstError_2 : decode cX5_firstError 2 = .ok (.putfield 25, 3) := by decide +kernel
theorem dX5_firstError_5 : decode cX5_firstError 5 = .ok (.aload_n 0, 1) := by decide +kernel
theorem dX5_firstError_6 : decode cX5_firstError 6 = .ok (.invokevirtual 141, 3) := by decide +kernel
theorem dX5_firstError_9 : decode cX5_firstError 9 = .ok (.istore_n 1, 1) := by decide +kernel
theorem dX5_firstError_10 : decode cX5_firstError 10 = .ok (.iload_n 1, 1) := by decide +kernel
theorem dX5_firstError_11 : decode cX5_firstError 11 = .ok (.ifCond .ne 17, 3) := by decide +kernel
theorem dX5_firstError_14 : decode cX5_firstError 14 = .ok (.aload_n 0, 1) := by decide +kernel
theorem dX5_firstError_15 : decode cX5_firstError 15 = .ok (.getfield 119, 3) := by decide +kernel
theorem dX5_firstError_18 : decode cX5_firstError 18 = .ok (.ifCond .eq 10, 3) := by decide +kernel
theorem dX5_firstError_21 : decode cX5_firstError 21 = .ok (.aload_n 0, 1) := by decide +kernel
theorem dX5_firstError_22 : decode cX5_firstError 22 = .ok (.getfield 116, 3) := by decide +kernel
theorem dX5_firstError_25 : decode cX5_firstError 25 = .ok (.goto 7, 3) := by decide +kernel
theorem dX5_firstError_28 : decode cX5_firstError 28 = .ok (.aload_n 0, 1) := by decide +kernel
theorem dX5_firstError_29 : decode cX5_firstError 29 = .ok (.getfield 113, 3) := by decide +kernel
theorem dX5_firstError_32 : decode cX5_firstError 32 = .ok (.ireturn, 1) := by decide +kernel
theorem dX5_does_0 : decode cX5_does 0 = .ok (.aload_n 0, 1) := by decide +kernel
theorem dX5_does_1 : decode cX5_does 1 = .ok (.getfield 22, 3) := by decide +kernel
theorem dX5_does_4 : decode cX5_does 4 = .ok (.iconst 3, 1) := by decide +kernel
theorem dX5_does_5 : decode cX5_does 5 = .ok (.iload_n 1, 1) := by decide +kernel
theorem dX5_does_6 : decode cX5_does 6 = .ok (.imul, 1) := by decide +kernel
theorem dX5_does_7 : decode cX5_does 7 = .ok (.iaload, 1) := by decide +kernel
theorem dX5_does_8 : decode cX5_does 8 = .ok (.istore_n 2, 1) := by decide +kernel
theorem dX5_does_9 : decode cX5_does 9 = .ok (.aload_n 0, 1) := by decide +kernel
theorem dX5_does_10 : decode cX5_does 10 = .ok (.getfield 22, 3) := by decide +kernel
theorem dX5_does_13 : decode cX5_does 13 = .ok (.iconst 3, 1) := by decide +kernel
theorem dX5_does_14 : decode cX5_does 14 = .ok (.iload_n 1, 1) := by decide +kernel
theorem dX5_does_15 : decode cX5_does 15 = .ok (.imul, 1) := by decide +kernel
theorem dX5_does_16 : decode cX5_does 16 = .ok (.iconst 1, 1) := by decide +kernel
theorem dX5_does_17 : decode cX5_does 17 = .ok (.iadd, 1) := by decide +kernel
theorem dX5_does_18 : decode cX5_does 18 = .ok (.iaload, 1) := by decide +kernel
theorem dX5_does_19 : decode cX5_does 19 = .ok (.istore_n 3, 1) := by decide +kernel
theorem dX5_does_20 : decode cX5_does 20 = .ok (.aload_n 0, 1) := by decide +kernel
theorem dX5_does_21 : decode cX5_does 21 = .ok (.getfield 22, 3) := by decide +kernel
theorem dX5_does_24 : decode cX5_does 24 = .ok (.iconst 3, 1) := by decide +kernel
theorem dX5_does_25 : decode cX5_does 25 = .ok (.iload_n 1, 1) := by decide +kernel
theorem dX5_does_26 : decode cX5_does 26 = .ok (.imul, 1) := by decide +kernel
theorem dX5_does_27 : decode cX5_does 27 = .ok (.iconst 2, 1) := by decide +kernel
theorem dX5_does_28 : decode cX5_does 28 = .ok (.iadd, 1) := by decide +kernel
theorem dX5_does_29 : decode cX5_does 29 = .ok (.iaload, 1) := by decide +kernel
theorem dX5_does_30 : decode cX5_does 30 = .ok (.istore 4, 2) := by decide +kernel
theorem dX5_does_32 : decode cX5_does 32 = .ok (.iload_n 2, 1) := by decide +kernel
theorem dX5_does_33 : decode cX5_does 33 = .ok (.iload_n 3, 1) := by decide +kernel
theorem dX5_does_34 : decode cX5_does 34 = .ok (.bipush 60, 2) := by decide +kernel
theorem dX5_does_36 : decode cX5_does 36 = .ok (.if_icmp .ne 7, 3) := by decide +kernel
theorem dX5_does_39 : decode cX5_does 39 = .ok (.iconst 5, 1) := by decide +kernel
theorem dX5_does_40 : decode cX5_does 40 = .ok (.goto 4, 3) := by decide +kernel
theorem dX5_does_43 : decode cX5_does 43 = .ok (.iconst 1, 1) := by decide +kernel
theorem dX5_does_44 : decode cX5_does 44 = .ok (.iadd, 1) := by decide +kernel
theorem dX5_does_45 : decode cX5_does 45 = .ok (.bipush 6, 2) := by decide +kernel
theorem dX5_does_47 : decode cX5_does 47 = .ok (.irem, 1) := by decide +kernel
theorem dX5_does_48 : decode cX5_does 48 = .ok (.istore 5, 2) := by decide +kernel
theorem dX5_does_50 : decode cX5_does 50 = .ok (.iload_n 3, 1) := by decide +kernel
theorem dX5_does_51 : decode cX5_does 51 = .ok (.bipush 42, 2) := by decide +kernel
theorem dX5_does_53 : decode cX5_does 53 = .ok (.if_icmp .ne 14, 3) := by decide +kernel
theorem dX5_does_56 : decode cX5_does 56 = .ok (.aload_n 0, 1) := by decide +kernel
theorem dX5_does_57 : decode cX5_does 57 = .ok (.getfield 7, 3) := by decide +kernel
theorem dX5_does_60 : decode cX5_does 60 = .ok (.iload_n 2, 1) := by decide +kernel
theorem dX5_does_61 : decode cX5_does 61 = .ok (.invokestatic 67, 3) := by decide +kernel
theorem dX5_does_64 : decode cX5_does 64 = .ok (.goto 33, 3) := by decide +kernel
theorem dX5_does_67 : decode cX5_does 67 = .ok (.iload_n 3, 1) := by decide +kernel
theorem dX5_does_68 : decode cX5_does 68 = .ok (.bipush 60, 2) := by decide +kernel
theorem dX5_does_70 : decode cX5_does 70 = .ok (.if_icmp .eq 9, 3) := by decide +kernel
theorem dX5_does_73 : decode cX5_does 73 = .ok (.iload_n 3, 1) := by decide +kernel
theorem dX5_does_74 : decode cX5_does 74 = .ok (.bipush 62, 2) := by decide +kernel
theorem dX5_does_76 : decode cX5_does 76 = .ok (.if_icmp .ne 20, 3) := by decide +kernel
theorem dX5_does_79 : decode cX5_does 79 = .ok (.aload_n 0, 1) := by decide +kernel
theorem dX5_does_80 : decode cX5_does 80 = .ok (.getfield 7, 3) := by decide +kernel
theorem dX5_does_83 : decode cX5_does 83 = .ok (.iload_n 2, 1) := by decide +kernel
theorem dX5_does_84 : decode cX5_does 84 = .ok (.iload 5, 2) := by decide +kernel
theorem dX5_does_86 : decode cX5_does 86 = .ok (.invokestatic 77, 3) := by decide +kernel
theorem dX5_does_89 : decode cX5_does 89 = .ok (.ifCond .eq 7, 3) := by decide +kernel
theorem dX5_does_92 : decode cX5_does 92 = .ok (.iconst 1, 1) := by decide +kernel
theorem dX5_does_93 : decode cX5_does 93 = .ok (.goto 4, 3) := by decide +kernel
theorem dX5_does_96 : decode cX5_does 96 = .ok (.iconst 0, 1) := by decide +kernel
theorem dX5_does_97 : decode cX5_does 97 = .ok (.istore 6, 2) := by decide +kernel
theorem dX5_does_99 : decode cX5_does 99 = .ok (.iload 6, 2) := by decide +kernel
theorem dX5_does_101 : decode cX5_does 101 = .ok (.ifCond .ne 43, 3) := by decide +kernel
theorem dX5_does_104 : decode cX5_does 104 = .ok (.iload_n 3, 1) := by decide +kernel
theorem dX5_does_105 : decode cX5_does 105 = .ok (.bipush 110, 2) := by decide +kernel
theorem dX5_does_107 : decode cX5_does 107 = .ok (.if_icmp .ne 12, 3) := by decide +kernel
theorem dX5_does_110 : decode cX5_does 110 = .ok (.aload_n 0, 1) := by decide +kernel
theorem dX5_does_111 : decode cX5_does 111 = .ok (.getfield 7, 3) := by decide +kernel
theorem dX5_does_114 : decode cX5_does 114 = .ok (.iconst 1, 1) := by decide +kernel
theorem dX5_does_115 : decode cX5_does 115 = .ok (.iaload, 1) := by decide +kernel
theorem dX5_does_116 : decode cX5_does 116 = .ok (.ifCond .gt 28, 3) := by decide +kernel
theorem dX5_does_119 : decode cX5_does 119 = .ok (.iload_n 3, 1) := by decide +kernel
theorem dX5_does_120 : decode cX5_does 120 = .ok (.bipush 98, 2) := by decide +kernel
theorem dX5_does_122 : decode cX5_does 122 = .ok (.if_icmp .eq 22, 3) := by decide +kernel
theorem dX5_does_125 : decode cX5_does 125 = .ok (.iload_n 3, 1) := by decide +kernel
theorem dX5_does_126 : decode cX5_does 126 = .ok (.bipush 43, 2) := by decide +kernel
theorem dX5_does_128 : decode cX5_does 128 = .ok (.if_icmp .ne 20, 3) := by decide +kernel
theorem dX5_does_131 : decode cX5_does 131 = .ok (.aload_n 0, 1) := by decide +kernel
theorem dX5_does_132 : decode cX5_does 132 = .ok (.getfield 7, 3) := by decide +kernel
theorem dX5_does_135 : decode cX5_does 135 = .ok (.iload_n 2, 1) := by decide +kernel
theorem dX5_does_136 : decode cX5_does 136 = .ok (.iload 4, 2) := by decide +kernel
theorem dX5_does_138 : decode cX5_does 138 = .ok (.invokestatic 104, 3) := by decide +kernel
theorem dX5_does_141 : decode cX5_does 141 = .ok (.ifCond .eq 7, 3) := by decide +kernel
theorem dX5_does_144 : decode cX5_does 144 = .ok (.iconst 1, 1) := by decide +kernel
theorem dX5_does_145 : decode cX5_does 145 = .ok (.goto 4, 3) := by decide +kernel
theorem dX5_does_148 : decode cX5_does 148 = .ok (.iconst 0, 1) := by decide +kernel
theorem dX5_does_149 : decode cX5_does 149 = .ok (.istore 7, 2) := by decide +kernel
theorem dX5_does_151 : decode cX5_does 151 = .ok (.iload 6, 2) := by decide +kernel
theorem dX5_does_153 : decode cX5_does 153 = .ok (.ifCond .eq 14, 3) := by decide +kernel
theorem dX5_does_156 : decode cX5_does 156 = .ok (.aload_n 0, 1) := by decide +kernel
theorem dX5_does_157 : decode cX5_does 157 = .ok (.getfield 7, 3) := by decide +kernel
theorem dX5_does_160 : decode cX5_does 160 = .ok (.iload_n 2, 1) := by decide +kernel
theorem dX5_does_161 : decode cX5_does 161 = .ok (.invokestatic 73, 3) := by decide +kernel
theorem dX5_does_164 : decode cX5_does 164 = .ok (.goto 72, 3) := by decide +kernel
theorem dX5_does_167 : decode cX5_does 167 = .ok (.iload 7, 2) := by decide +kernel
theorem dX5_does_169 : decode cX5_does 169 = .ok (.ifCond .eq 20, 3) := by decide +kernel
theorem dX5_does_172 : decode cX5_does 172 = .ok (.iload_n 3, 1) := by decide +kernel
theorem dX5_does_173 : decode cX5_does 173 = .ok (.bipush 110, 2) := by decide +kernel
theorem dX5_does_175 : decode cX5_does 175 = .ok (.if_icmp .ne 14, 3) := by decide +kernel
theorem dX5_does_178 : decode cX5_does 178 = .ok (.aload_n 0, 1) := by decide +kernel
theorem dX5_does_179 : decode cX5_does 179 = .ok (.getfield 7, 3) := by decide +kernel
theorem dX5_does_182 : decode cX5_does 182 = .ok (.iload_n 2, 1) := by decide +kernel
theorem dX5_does_183 : decode cX5_does 183 = .ok (.invokestatic 80, 3) := by decide +kernel
theorem dX5_does_186 : decode cX5_does 186 = .ok (.goto 50, 3) := by decide +kernel
theorem dX5_does_189 : decode cX5_does 189 = .ok (.iload 7, 2) := by decide +kernel
theorem dX5_does_191 : decode cX5_does 191 = .ok (.ifCond .eq 29, 3) := by decide +kernel
theorem dX5_does_194 : decode cX5_does 194 = .ok (.iload_n 3, 1) := by decide +kernel
theorem dX5_does_195 : decode cX5_does 195 = .ok (.bipush 98, 2) := by decide +kernel
theorem dX5_does_197 : decode cX5_does 197 = .ok (.if_icmp .ne 23, 3) := by decide +kernel
theorem dX5_does_200 : decode cX5_does 200 = .ok (.aload_n 0, 1) := by decide +kernel
theorem dX5_does_201 : decode cX5_does 201 = .ok (.getfield 7, 3) := by decide +kernel
theorem dX5_does_204 : decode cX5_does 204 = .ok (.bipush 7, 2) := by decide +kernel
theorem dX5_does_206 : decode cX5_does 206 = .ok (.iload_n 2, 1) := by decide +kernel
theorem dX5_does_207 : decode cX5_does 207 = .ok (.iastore, 1) := by decide +kernel
theorem dX5_does_208 : decode cX5_does 208 = .ok (.aload_n 0, 1) := by decide +kernel
theorem dX5_does_209 : decode cX5_does 209 = .ok (.getfield 7, 3) := by decide +kernel
theorem dX5_does_212 : decode cX5_does 212 = .ok (.bipush 8, 2) := by decide +kernel
theorem dX5_does_214 : decode cX5_does 214 = .ok (.iload 4, 2) := by decide +kernel
theorem dX5_does_216 : decode cX5_does 216 = .ok (.iastore, 1) := by decide +kernel
theorem dX5_does_217 : decode cX5_does 217 = .ok (.goto 19, 3) := by decide +kernel
theorem dX5_does_220 : decode cX5_does 220 = .ok (.iload 7, 2) := by decide +kernel
theorem dX5_does_222 : decode cX5_does 222 = .ok (.ifCond .eq 14, 3) := by decide +kernel
theorem dX5_does_225 : decode cX5_does 225 = .ok (.aload_n 0, 1) := by decide +kernel
theorem dX5_does_226 : decode cX5_does 226 = .ok (.getfield 7, 3) := by decide +kernel
theorem dX5_does_229 : decode cX5_does 229 = .ok (.iload_n 2, 1) := by decide +kernel
theorem dX5_does_230 : decode cX5_does 230 = .ok (.iload 4, 2) := by decide +kernel
theorem dX5_does_232 : decode cX5_does 232 = .ok (.invokestatic 107, 3) := by decide +kernel
theorem dX5_does_235 : decode cX5_does 235 = .ok (.pop, 1) := by decide +kernel
theorem dX5_does_236 : decode cX5_does 236 = .ok (.iload 7, 2) := by decide +kernel
theorem dX5_does_238 : decode cX5_does 238 = .ok (.ireturn, 1) := by decide +kernel
theorem dX5_play_0 : decode cX5_play 0 = .ok (.aload_n 0, 1) := by decide +kernel
theorem dX5_play_1 : decode cX5_play 1 = .ok (.iconst 0, 1) := by decide +kernel
theorem dX5_play_2 : decode cX5_play 2 = .ok (.putfield 25, 3) := by decide +kernel
theorem dX5_play_5 : decode cX5_play 5 = .ok (.aload_n 0, 1) := by decide +kernel
theorem dX5_play_6 : decode cX5_play 6 = .ok (.invokevirtual 141, 3) := by decide +kernel
theorem dX5_play_9 : decode cX5_play 9 = .ok (.ifCond .ne 9, 3) := by decide +kernel
theorem dX5_play_12 : decode cX5_play 12 = .ok (.aload_n 0, 1) := by decide +kernel
theorem dX5_play_13 : decode cX5_play 13 = .ok (.iconst 1, 1) := by decide +kernel
theorem dX5_play_14 : decode cX5_play 14 = .ok (.invokevirtual 44, 3) := by decide +kernel
theorem dX5_play_17 : decode cX5_play 17 = .ok (.ireturn, 1) := by decide +kernel
theorem dX5_play_18 : decode cX5_play 18 = .ok (.aload_n 0, 1) := by decide +kernel
theorem dX5_play_19 : decode cX5_play 19 = .ok (.invokevirtual 70, 3) := by decide +kernel
theorem dX5_play_22 : decode cX5_play 22 = .ok (.aload_n 0, 1) := by decide +kernel
theorem dX5_play_23 : decode cX5_play 23 = .ok (.iconst 0, 1) := by decide +kernel
theorem dX5_play_24 : decode cX5_play 24 = .ok (.putfield 113, 3) := by decide +kernel
theorem dX5_play_27 : decode cX5_play 27 = .ok (.iconst 0, 1) := by decide +kernel
theorem dX5_play_28 : decode cX5_play 28 = .ok (.istore_n 1, 1) := by decide +kernel
theorem dX5_play_29 : decode cX5_play 29 = .ok (.iload_n 1, 1) := by decide +kernel
theorem dX5_play_30 : decode cX5_play 30 = .ok (.aload_n 0, 1) := by decide +kernel
theorem dX5_play_31 : decode cX5_play 31 = .ok (.getfield 131, 3) := by decide +kernel
theorem dX5_play_34 : decode cX5_play 34 = .ok (.if_icmp .ge 17, 3) := by decide +kernel
theorem dX5_play_37 : decode cX5_play 37 = .ok (.aload_n 0, 1) := by decide +kernel
theorem dX5_play_38 : decode cX5_play 38 = .ok (.iload_n 1, 1) := by decide +kernel
theorem dX5_play_39 : decode cX5_play 39 = .ok (.invokevirtual 144, 3) := by decide +kernel
theorem dX5_play_42 : decode cX5_play 42 = .ok (.ifCond .eq 9, 3) := by decide +kernel
theorem dX5_play_45 : decode cX5_play 45 = .ok (.iinc 1 1, 3) := by decide +kernel
theorem dX5_play_48 : decode cX5_play 48 = .ok (.goto (-19), 3) := by decide +kernel
theorem dX5_play_51 : decode cX5_play 51 = .ok (.iload_n 1, 1) := by decide +kernel
theorem dX5_play_52 : decode cX5_play 52 = .ok (.ireturn, 1) := by decide +kernel
theorem dX5_ofRoom_0 : decode cX5_ofRoom 0 = .ok (.iload_n 2, 1) := by decide +kernel
theorem dX5_ofRoom_1 : decode cX5_ofRoom 1 = .ok (.tableswitch 90 4 7 #[31, 42, 52, 62], 31) := by decide +kernel
theorem dX5_ofRoom_32 : decode cX5_ofRoom 32 = .ok (.aload_n 0, 1) := by decide +kernel
theorem dX5_ofRoom_33 : decode cX5_ofRoom 33 = .ok (.getfield 7, 3) := by decide +kernel
theorem dX5_ofRoom_36 : decode cX5_ofRoom 36 = .ok (.iload_n 1, 1) := by decide +kernel
theorem dX5_ofRoom_37 : decode cX5_ofRoom 37 = .ok (.bipush 6, 2) := by decide +kernel
theorem dX5_ofRoom_39 : decode cX5_ofRoom 39 = .ok (.invokestatic 33, 3) := by decide +kernel
theorem dX5_ofRoom_42 : decode cX5_ofRoom 42 = .ok (.ireturn, 1) := by decide +kernel
theorem dX5_ofRoom_43 : decode cX5_ofRoom 43 = .ok (.aload_n 0, 1) := by decide +kernel
theorem dX5_ofRoom_44 : decode cX5_ofRoom 44 = .ok (.getfield 7, 3) := by decide +kernel
theorem dX5_ofRoom_47 : decode cX5_ofRoom 47 = .ok (.iload_n 1, 1) := by decide +kernel
theorem dX5_ofRoom_48 : decode cX5_ofRoom 48 = .ok (.iconst 5, 1) := by decide +kernel
theorem dX5_ofRoom_49 : decode cX5_ofRoom 49 = .ok (.invokestatic 33, 3) := by decide +kernel
theorem dX5_ofRoom_52 : decode cX5_ofRoom 52 = .ok (.ireturn, 1) := by decide +kernel
theorem dX5_ofRoom_53 : decode cX5_ofRoom 53 = .ok (.aload_n 0, 1) := by decide +kernel
theorem dX5_ofRoom_54 : decode cX5_ofRoom 54 = .ok (.getfield 7, 3) := by decide +kernel
theorem dX5_ofRoom_57 : decode cX5_ofRoom 57 = .ok (.iload_n 1, 1) := by decide +kernel
theorem dX5_ofRoom_58 : decode cX5_ofRoom 58 = .ok (.iconst 4, 1) := by decide +kernel
theorem dX5_ofRoom_59 : decode cX5_ofRoom 59 = .ok (.invokestatic 33, 3) := by decide +kernel
theorem dX5_ofRoom_62 : decode cX5_ofRoom 62 = .ok (.ireturn, 1) := by decide +kernel
theorem dX5_ofRoom_63 : decode cX5_ofRoom 63 = .ok (.aload_n 0, 1) := by decide +kernel
theorem dX5_ofRoom_64 : decode cX5_ofRoom 64 = .ok (.getfield 7, 3) := by decide +kernel
theorem dX5_ofRoom_67 : decode cX5_ofRoom 67 = .ok (.iload_n 1, 1) := by decide +kernel
theorem dX5_ofRoom_68 : decode cX5_ofRoom 68 = .ok (.bipush 6, 2) := by decide +kernel
theorem dX5_ofRoom_70 : decode cX5_ofRoom 70 = .ok (.invokestatic 33, 3) := by decide +kernel
theorem dX5_ofRoom_73 : decode cX5_ofRoom 73 = .ok (.ifCond .ne 7, 3) := by decide +kernel
theorem dX5_ofRoom_76 : decode cX5_ofRoom 76 = .ok (.iconst (-1), 1) := by decide +kernel
theorem dX5_ofRoom_77 : decode cX5_ofRoom 77 = .ok (.goto 13, 3) := by decide +kernel
theorem dX5_ofRoom_80 : decode cX5_ofRoom 80 = .ok (.aload_n 0, 1) := by decide +kernel
theorem dX5_ofRoom_81 : decode cX5_ofRoom 81 = .ok (.getfield 7, 3) := by decide +kernel
theorem dX5_ofRoom_84 : decode cX5_ofRoom 84 = .ok (.iload_n 1, 1) := by decide +kernel
theorem dX5_ofRoom_85 : decode cX5_ofRoom 85 = .ok (.bipush 7, 2) := by decide +kernel
theorem dX5_ofRoom_87 : decode cX5_ofRoom 87 = .ok (.invokestatic 33, 3) := by decide +kernel
theorem dX5_ofRoom_90 : decode cX5_ofRoom 90 = .ok (.ireturn, 1) := by decide +kernel
theorem dX5_ofRoom_91 : decode cX5_ofRoom 91 = .ok (.aload_n 0, 1) := by decide +kernel
theorem dX5_ofRoom_92 : decode cX5_ofRoom 92 = .ok (.getfield 7, 3) := by decide +kernel
theorem dX5_ofRoom_95 : decode cX5_ofRoom 95 = .ok (.iload_n 1, 1) := by decide +kernel
theorem dX5_ofRoom_96 : decode cX5_ofRoom 96 = .ok (.iload_n 2, 1) := by decide +kernel
theorem dX5_ofRoom_97 : decode cX5_ofRoom 97 = .ok (.invokestatic 33, 3) := by decide +kernel
theorem dX5_ofRoom_100 : decode cX5_ofRoom 100 = .ok (.ireturn, 1) := by decide +kernel
theorem dX5_room_0 : decode cX5_room 0 = .ok (.aload_n 0, 1) := by decide +kernel
theorem dX5_room_1 : decode cX5_room 1 = .ok (.iconst 0, 1) := by decide +kernel
theorem dX5_room_2 : decode cX5_room 2 = .ok (.putfield 25, 3) := by decide +kernel
theorem dX5_room_5 : decode cX5_room 5 = .ok (.iload_n 1, 1) := by decide +kernel
theorem dX5_room_6 : decode cX5_room 6 = .ok (.invokestatic 63, 3) := by decide +kernel
theorem dX5_room_9 : decode cX5_room 9 = .ok (.ifCond .ne 9, 3) := by decide +kernel
theorem dX5_room_12 : decode cX5_room 12 = .ok (.aload_n 0, 1) := by decide +kernel
theorem dX5_room_13 : decode cX5_room 13 = .ok (.iconst 1, 1) := by decide +kernel
theorem dX5_room_14 : decode cX5_room 14 = .ok (.invokevirtual 44, 3) := by decide +kernel
theorem dX5_room_17 : decode cX5_room 17 = .ok (.ireturn, 1) := by decide +kernel
theorem dX5_room_18 : decode cX5_room 18 = .ok (.iload_n 2, 1) := by decide +kernel
theorem dX5_room_19 : decode cX5_room 19 = .ok (.iconst 0, 1) := by decide +kernel
theorem dX5_room_20 : decode cX5_room 20 = .ok (.bipush 7, 2) := by decide +kernel
theorem dX5_room_22 : decode cX5_room 22 = .ok (.invokestatic 29, 3) := by decide +kernel
theorem dX5_room_25 : decode cX5_room 25 = .ok (.ifCond .eq 12, 3) := by decide +kernel
theorem dX5_room_28 : decode cX5_room 28 = .ok (.aload_n 0, 1) := by decide +kernel
theorem dX5_room_29 : decode cX5_room 29 = .ok (.iload_n 1, 1) := by decide +kernel
theorem dX5_room_30 : decode cX5_room 30 = .ok (.iload_n 2, 1) := by decide +kernel
theorem dX5_room_31 : decode cX5_room 31 = .ok (.invokevirtual 147, 3) := by decide +kernel
theorem dX5_room_34 : decode cX5_room 34 = .ok (.goto 8, 3) := by decide +kernel
theorem dX5_room_37 : decode cX5_room 37 = .ok (.aload_n 0, 1) := by decide +kernel
theorem dX5_room_38 : decode cX5_room 38 = .ok (.iconst 2, 1) := by decide +kernel
theorem dX5_room_39 : decode cX5_room 39 = .ok (.invokevirtual 44, 3) := by decide +kernel
theorem dX5_room_42 : decode cX5_room 42 = .ok (.ireturn, 1) := by decide +kernel
theorem dX5_thing_0 : decode cX5_thing 0 = .ok (.aload_n 0, 1) := by decide +kernel
theorem dX5_thing_1 : decode cX5_thing 1 = .ok (.iconst 0, 1) := by decide +kernel
theorem dX5_thing_2 : decode cX5_thing 2 = .ok (.putfield 25, 3) := by decide +kernel
theorem dX5_thing_5 : decode cX5_thing 5 = .ok (.iload_n 1, 1) := by decide +kernel
theorem dX5_thing_6 : decode cX5_thing 6 = .ok (.iconst 0, 1) := by decide +kernel
theorem dX5_thing_7 : decode cX5_thing 7 = .ok (.bipush 99, 2) := by decide +kernel
theorem dX5_thing_9 : decode cX5_thing 9 = .ok (.invokestatic 29, 3) := by decide +kernel
theorem dX5_thing_12 : decode cX5_thing 12 = .ok (.ifCond .eq 12, 3) := by decide +kernel
theorem dX5_thing_15 : decode cX5_thing 15 = .ok (.iload_n 2, 1) := by decide +kernel
theorem dX5_thing_16 : decode cX5_thing 16 = .ok (.iconst 0, 1) := by decide +kernel
theorem dX5_thing_17 : decode cX5_thing 17 = .ok (.iconst 2, 1) := by decide +kernel
theorem dX5_thing_18 : decode cX5_thing 18 = .ok (.invokestatic 29, 3) := by decide +kernel
theorem dX5_thing_21 : decode cX5_thing 21 = .ok (.ifCond .ne 9, 3) := by decide +kernel
theorem dX5_thing_24 : decode cX5_thing 24 = .ok (.aload_n 0, 1) := by decide +kernel
theorem dX5_thing_25 : decode cX5_thing 25 = .ok (.iconst 1, 1) := by decide +kernel
theorem dX5_thing_26 : decode cX5_thing 26 = .ok (.invokevirtual 44, 3) := by decide +kernel
theorem dX5_thing_29 : decode cX5_thing 29 = .ok (.ireturn, 1) := by decide +kernel
theorem dX5_thing_30 : decode cX5_thing 30 = .ok (.aload_n 0, 1) := by decide +kernel
theorem dX5_thing_31 : decode cX5_thing 31 = .ok (.getfield 7, 3) := by decide +kernel
theorem dX5_thing_34 : decode cX5_thing 34 = .ok (.iload_n 1, 1) := by decide +kernel
theorem dX5_thing_35 : decode cX5_thing 35 = .ok (.invokestatic 100, 3) := by decide +kernel
theorem dX5_thing_38 : decode cX5_thing 38 = .ok (.istore_n 3, 1) := by decide +kernel
theorem dX5_thing_39 : decode cX5_thing 39 = .ok (.iload_n 3, 1) := by decide +kernel
theorem dX5_thing_40 : decode cX5_thing 40 = .ok (.iconst (-1), 1) := by decide +kernel
theorem dX5_thing_41 : decode cX5_thing 41 = .ok (.if_icmp .ne 5, 3) := by decide +kernel
theorem dX5_thing_44 : decode cX5_thing 44 = .ok (.iconst (-1), 1) := by decide +kernel
theorem dX5_thing_45 : decode cX5_thing 45 = .ok (.ireturn, 1) := by decide +kernel
theorem dX5_thing_46 : decode cX5_thing 46 = .ok (.iload_n 2, 1) := by decide +kernel
theorem dX5_thing_47 : decode cX5_thing 47 = .ok (.ifCond .ne 9, 3) := by decide +kernel
theorem dX5_thing_50 : decode cX5_thing 50 = .ok (.iload_n 3, 1) := by decide +kernel
theorem dX5_thing_51 : decode cX5_thing 51 = .ok (.iconst 4, 1) := by decide +kernel
theorem dX5_thing_52 : decode cX5_thing 52 = .ok (.idiv, 1) := by decide +kernel
theorem dX5_thing_53 : decode cX5_thing 53 = .ok (.goto 30, 3) := by decide +kernel
theorem dX5_thing_56 : decode cX5_thing 56 = .ok (.iload_n 2, 1) := by decide +kernel
theorem dX5_thing_57 : decode cX5_thing 57 = .ok (.iconst 2, 1) := by decide +kernel
theorem dX5_thing_58 : decode cX5_thing 58 = .ok (.if_icmp .ne 9, 3) := by decide +kernel
theorem dX5_thing_61 : decode cX5_thing 61 = .ok (.iload_n 3, 1) := by decide +kernel
theorem dX5_thing_62 : decode cX5_thing 62 = .ok (.iconst 4, 1) := by decide +kernel
theorem dX5_thing_63 : decode cX5_thing 63 = .ok (.irem, 1) := by decide +kernel
theorem dX5_thing_64 : decode cX5_thing 64 = .ok (.goto 19, 3) := by decide +kernel
theorem dX5_thing_67 : decode cX5_thing 67 = .ok (.aload_n 0, 1) := by decide +kernel
theorem dX5_thing_68 : decode cX5_thing 68 = .ok (.getfield 7, 3) := by decide +kernel
theorem dX5_thing_71 : decode cX5_thing 71 = .ok (.iload_n 3, 1) := by decide +kernel
theorem dX5_thing_72 : decode cX5_thing 72 = .ok (.iconst 4, 1) := by decide +kernel
theorem dX5_thing_73 : decode cX5_thing 73 = .ok (.idiv, 1) := by decide +kernel
theorem dX5_thing_74 : decode cX5_thing 74 = .ok (.bipush 11, 2) := by decide +kernel
theorem dX5_thing_76 : decode cX5_thing 76 = .ok (.iload_n 3, 1) := by decide +kernel
theorem dX5_thing_77 : decode cX5_thing 77 = .ok (.iconst 4, 1) := by decide +kernel
theorem dX5_thing_78 : decode cX5_thing 78 = .ok (.irem, 1) := by decide +kernel
theorem dX5_thing_79 : decode cX5_thing 79 = .ok (.iadd, 1) := by decide +kernel
theorem dX5_thing_80 : decode cX5_thing 80 = .ok (.invokestatic 33, 3) := by decide +kernel
theorem dX5_thing_83 : decode cX5_thing 83 = .ok (.ireturn, 1) := by decide +kernel
theorem dX5_things_0 : decode cX5_things 0 = .ok (.iconst 0, 1) := by decide +kernel
theorem dX5_things_1 : decode cX5_things 1 = .ok (.istore_n 1, 1) := by decide +kernel
theorem dX5_things_2 : decode cX5_things 2 = .ok (.iconst 0, 1) := by decide +kernel
theorem dX5_things_3 : decode cX5_things 3 = .ok (.istore_n 2, 1) := by decide +kernel
theorem dX5_things_4 : decode cX5_things 4 = .ok (.iload_n 2, 1) := by decide +kernel
theorem dX5_things_5 : decode cX5_things 5 = .ok (.bipush 6, 2) := by decide +kernel
theorem dX5_things_7 : decode cX5_things 7 = .ok (.if_icmp .ge 22, 3) := by decide +kernel
theorem dX5_things_10 : decode cX5_things 10 = .ok (.iload_n 1, 1) := by decide +kernel
theorem dX5_things_11 : decode cX5_things 11 = .ok (.aload_n 0, 1) := by decide +kernel
theorem dX5_things_12 : decode cX5_things 12 = .ok (.getfield 7, 3) := by decide +kernel
theorem dX5_things_15 : decode cX5_things 15 = .ok (.iload_n 2, 1) := by decide +kernel
theorem dX5_things_16 : decode cX5_things 16 = .ok (.bipush 6, 2) := by decide +kernel
theorem dX5_things_18 : decode cX5_things 18 = .ok (.invokestatic 33, 3) := by decide +kernel
theorem dX5_things_21 : decode cX5_things 21 = .ok (.iadd, 1) := by decide +kernel
theorem dX5_things_22 : decode cX5_things 22 = .ok (.istore_n 1, 1) := by decide +kernel
theorem dX5_things_23 : decode cX5_things 23 = .ok (.iinc 2 1, 3) := by decide +kernel
theorem dX5_things_26 : decode cX5_things 26 = .ok (.goto (-22), 3) := by decide +kernel
theorem dX5_things_29 : decode cX5_things 29 = .ok (.iload_n 1, 1) := by decide +kernel
theorem dX5_things_30 : decode cX5_things 30 = .ok (.ireturn, 1) := by decide +kernel
theorem dX5_counted_0 : decode cX5_counted 0 = .ok (.iload_n 1, 1) := by decide +kernel
theorem dX5_counted_1 : decode cX5_counted 1 = .ok (.tableswitch 102 0 11 #[63, 70, 77, 85, 102, 102, 102, 102, 102, 102, 90, 97], 63) := by decide +kernel
theorem dX5_counted_64 : decode cX5_counted 64 = .ok (.aload_n 0, 1) := by decide +kernel
theorem dX5_counted_65 : decode cX5_counted 65 = .ok (.getfield 7, 3) := by decide +kernel
theorem dX5_counted_68 : decode cX5_counted 68 = .ok (.iconst 2, 1) := by decide +kernel
theorem dX5_counted_69 : decode cX5_counted 69 = .ok (.iaload, 1) := by decide +kernel
theorem dX5_counted_70 : decode cX5_counted 70 = .ok (.ireturn, 1) := by decide +kernel
theorem dX5_counted_71 : decode cX5_counted 71 = .ok (.aload_n 0, 1) := by decide +kernel
theorem dX5_counted_72 : decode cX5_counted 72 = .ok (.getfield 7, 3) := by decide +kernel
theorem dX5_counted_75 : decode cX5_counted 75 = .ok (.iconst 1, 1) := by decide +kernel
theorem dX5_counted_76 : decode cX5_counted 76 = .ok (.iaload, 1) := by decide +kernel
theorem dX5_counted_77 : decode cX5_counted 77 = .ok (.ireturn, 1) := by decide +kernel
theorem dX5_counted_78 : decode cX5_counted 78 = .ok (.aload_n 0, 1) := by decide +kernel
theorem dX5_counted_79 : decode cX5_counted 79 = .ok (.getfield 7, 3) := by decide +kernel
theorem dX5_counted_82 : decode cX5_counted 82 = .ok (.invokestatic 48, 3) := by decide +kernel
theorem dX5_counted_85 : decode cX5_counted 85 = .ok (.ireturn, 1) := by decide +kernel
theorem dX5_counted_86 : decode cX5_counted 86 = .ok (.aload_n 0, 1) := by decide +kernel
theorem dX5_counted_87 : decode cX5_counted 87 = .ok (.invokevirtual 151, 3) := by decide +kernel
theorem dX5_counted_90 : decode cX5_counted 90 = .ok (.ireturn, 1) := by decide +kernel
theorem dX5_counted_91 : decode cX5_counted 91 = .ok (.aload_n 0, 1) := by decide +kernel
theorem dX5_counted_92 : decode cX5_counted 92 = .ok (.getfield 7, 3) := by decide +kernel
theorem dX5_counted_95 : decode cX5_counted 95 = .ok (.iconst 0, 1) := by decide +kernel
theorem dX5_counted_96 : decode cX5_counted 96 = .ok (.iaload, 1) := by decide +kernel
theorem dX5_counted_97 : decode cX5_counted 97 = .ok (.ireturn, 1) := by decide +kernel
theorem dX5_counted_98 : decode cX5_counted 98 = .ok (.aload_n 0, 1) := by decide +kernel
theorem dX5_counted_99 : decode cX5_counted 99 = .ok (.getfield 37, 3) := by decide +kernel
theorem dX5_counted_102 : decode cX5_counted 102 = .ok (.ireturn, 1) := by decide +kernel
theorem dX5_counted_103 : decode cX5_counted 103 = .ok (.aload_n 0, 1) := by decide +kernel
theorem dX5_counted_104 : decode cX5_counted 104 = .ok (.getfield 7, 3) := by decide +kernel
theorem dX5_counted_107 : decode cX5_counted 107 = .ok (.iload_n 1, 1) := by decide +kernel
theorem dX5_counted_108 : decode cX5_counted 108 = .ok (.iconst 1, 1) := by decide +kernel
theorem dX5_counted_109 : decode cX5_counted 109 = .ok (.isub, 1) := by decide +kernel
theorem dX5_counted_110 : decode cX5_counted 110 = .ok (.iaload, 1) := by decide +kernel
theorem dX5_counted_111 : decode cX5_counted 111 = .ok (.ireturn, 1) := by decide +kernel
theorem dX5_count_0 : decode cX5_count 0 = .ok (.aload_n 0, 1) := by decide +kernel
theorem dX5_count_1 : decode cX5_count 1 = .ok (.iconst 0, 1) := by decide +kernel
theorem dX5_count_2 : decode cX5_count 2 = .ok (.putfield 25, 3) := by decide +kernel
theorem dX5_count_5 : decode cX5_count 5 = .ok (.iload_n 1, 1) := by decide +kernel
theorem dX5_count_6 : decode cX5_count 6 = .ok (.iconst 0, 1) := by decide +kernel
theorem dX5_count_7 : decode cX5_count 7 = .ok (.bipush 11, 2) := by decide +kernel
theorem dX5_count_9 : decode cX5_count 9 = .ok (.invokestatic 29, 3) := by decide +kernel
theorem dX5_count_12 : decode cX5_count 12 = .ok (.ifCond .eq 11, 3) := by decide +kernel
theorem dX5_count_15 : decode cX5_count 15 = .ok (.aload_n 0, 1) := by decide +kernel
theorem dX5_count_16 : decode cX5_count 16 = .ok (.iload_n 1, 1) := by decide +kernel
theorem dX5_count_17 : decode cX5_count 17 = .ok (.invokevirtual 155, 3) := by decide +kernel
theorem dX5_count_20 : decode cX5_count 20 = .ok (.goto 8, 3) := by decide +kernel
theorem dX5_count_23 : decode cX5_count 23 = .ok (.aload_n 0, 1) := by decide +kernel
theorem dX5_count_24 : decode cX5_count 24 = .ok (.iconst 1, 1) := by decide +kernel
theorem dX5_count_25 : decode cX5_count 25 = .ok (.invokevirtual 44, 3) := by decide +kernel
theorem dX5_count_28 : decode cX5_count 28 = .ok (.ireturn, 1) := by decide +kernel
theorem dX5_stays_0 : decode cX5_stays 0 = .ok (.aload_n 0, 1) := by decide +kernel
theorem dX5_stays_1 : decode cX5_stays 1 = .ok (.getfield 7, 3) := by decide +kernel
theorem dX5_stays_4 : decode cX5_stays 4 = .ok (.iconst 0, 1) := by decide +kernel
theorem dX5_stays_5 : decode cX5_stays 5 = .ok (.aload_n 0, 1) := by decide +kernel
theorem dX5_stays_6 : decode cX5_stays 6 = .ok (.getfield 13, 3) := by decide +kernel
theorem dX5_stays_9 : decode cX5_stays 9 = .ok (.iconst 0, 1) := by decide +kernel
theorem dX5_stays_10 : decode cX5_stays 10 = .ok (.invokestatic 40, 3) := by decide +kernel
theorem dX5_stays_13 : decode cX5_stays 13 = .ok (.iconst 0, 1) := by decide +kernel
theorem dX5_stays_14 : decode cX5_stays 14 = .ok (.istore_n 2, 1) := by decide +kernel
theorem dX5_stays_15 : decode cX5_stays 15 = .ok (.aload_n 0, 1) := by decide +kernel
theorem dX5_stays_16 : decode cX5_stays 16 = .ok (.getfield 13, 3) := by decide +kernel
theorem dX5_stays_19 : decode cX5_stays 19 = .ok (.iload_n 1, 1) := by decide +kernel
theorem dX5_stays_20 : decode cX5_stays 20 = .ok (.invokestatic 52, 3) := by decide +kernel
theorem dX5_stays_23 : decode cX5_stays 23 = .ok (.ifCond .eq 17, 3) := by decide +kernel
theorem dX5_stays_26 : decode cX5_stays 26 = .ok (.aload_n 0, 1) := by decide +kernel
theorem dX5_stays_27 : decode cX5_stays 27 = .ok (.getfield 13, 3) := by decide +kernel
theorem dX5_stays_30 : decode cX5_stays 30 = .ok (.iconst 1, 1) := by decide +kernel
theorem dX5_stays_31 : decode cX5_stays 31 = .ok (.invokestatic 110, 3) := by decide +kernel
theorem dX5_stays_34 : decode cX5_stays 34 = .ok (.iinc 2 1, 3) := by decide +kernel
theorem dX5_stays_37 : decode cX5_stays 37 = .ok (.goto (-22), 3) := by decide +kernel
theorem dX5_stays_40 : decode cX5_stays 40 = .ok (.iload_n 2, 1) := by decide +kernel
theorem dX5_stays_41 : decode cX5_stays 41 = .ok (.ireturn, 1) := by decide +kernel
theorem dX5_lasts_0 : decode cX5_lasts 0 = .ok (.aload_n 0, 1) := by decide +kernel
theorem dX5_lasts_1 : decode cX5_lasts 1 = .ok (.iconst 0, 1) := by decide +kernel
theorem dX5_lasts_2 : decode cX5_lasts 2 = .ok (.putfield 25, 3) := by decide +kernel
theorem dX5_lasts_5 : decode cX5_lasts 5 = .ok (.iload_n 1, 1) := by decide +kernel
theorem dX5_lasts_6 : decode cX5_lasts 6 = .ok (.invokestatic 63, 3) := by decide +kernel
theorem dX5_lasts_9 : decode cX5_lasts 9 = .ok (.ifCond .eq 11, 3) := by decide +kernel
theorem dX5_lasts_12 : decode cX5_lasts 12 = .ok (.aload_n 0, 1) := by decide +kernel
theorem dX5_lasts_13 : decode cX5_lasts 13 = .ok (.iload_n 1, 1) := by decide +kernel
theorem dX5_lasts_14 : decode cX5_lasts 14 = .ok (.invokevirtual 158, 3) := by decide +kernel
theorem dX5_lasts_17 : decode cX5_lasts 17 = .ok (.goto 8, 3) := by decide +kernel
theorem dX5_lasts_20 : decode cX5_lasts 20 = .ok (.aload_n 0, 1) := by decide +kernel
theorem dX5_lasts_21 : decode cX5_lasts 21 = .ok (.iconst 1, 1) := by decide +kernel
theorem dX5_lasts_22 : decode cX5_lasts 22 = .ok (.invokevirtual 44, 3) := by decide +kernel
theorem dX5_lasts_25 : decode cX5_lasts 25 = .ok (.ireturn, 1) := by decide +kernel
theorem dX5_firstForgotten_0 : decode cX5_firstForgotten 0 = .ok (.aload_n 0, 1) := by decide +kernel
theorem dX5_firstForgotten_1 : decode cX5_firstForgotten 1 = .ok (.invokevirtual 151, 3) := by decide +kernel
theorem dX5_firstForgotten_4 : decode cX5_firstForgotten 4 = .ok (.ifCond .ne 5, 3) := by decide +kernel
theorem dX5_firstForgotten_7 : decode cX5_firstForgotten 7 = .ok (.iconst (-1), 1) := by decide +kernel
theorem dX5_firstForgotten_8 : decode cX5_firstForgotten 8 = .ok (.ireturn, 1) := by decide +kernel
theorem dX5_firstForgotten_9 : decode cX5_firstForgotten 9 = .ok (.aload_n 0, 1) := by decide +kernel
theorem dX5_firstForgotten_10 : decode cX5_firstForgotten 10 = .ok (.getfield 7, 3) := by decide +kernel
theorem dX5_firstForgotten_13 : decode cX5_firstForgotten 13 = .ok (.iconst 0, 1) := by decide +kernel
theorem dX5_firstForgotten_14 : decode cX5_firstForgotten 14 = .ok (.aload_n 0, 1) := by decide +kernel
theorem dX5_firstForgotten_15 : decode cX5_firstForgotten 15 = .ok (.getfield 13, 3) := by decide +kernel
theorem dX5_firstForgotten_18 : decode cX5_firstForgotten 18 = .ok (.iconst 0, 1) := by decide +kernel
theorem dX5_firstForgotten_19 : decode cX5_firstForgotten 19 = .ok (.invokestatic 40, 3) := by decide +kernel
theorem dX5_firstForgotten_22 : decode cX5_firstForgotten 22 = .ok (.iconst 0, 1) := by decide +kernel
theorem dX5_firstForgotten_23 : decode cX5_firstForgotten 23 = .ok (.istore_n 1, 1) := by decide +kernel
theorem dX5_firstForgotten_24 : decode cX5_firstForgotten 24 = .ok (.aload_n 0, 1) := by decide +kernel
theorem dX5_firstForgotten_25 : decode cX5_firstForgotten 25 = .ok (.getfield 13, 3) := by decide +kernel
theorem dX5_firstForgotten_28 : decode cX5_firstForgotten 28 = .ok (.iconst 3, 1) := by decide +kernel
theorem dX5_firstForgotten_29 : decode cX5_firstForgotten 29 = .ok (.iaload, 1) := by decide +kernel
theorem dX5_firstForgotten_30 : decode cX5_firstForgotten 30 = .ok (.aload_n 0, 1) := by decide +kernel
theorem dX5_firstForgotten_31 : decode cX5_firstForgotten 31 = .ok (.getfield 7, 3) := by decide +kernel
theorem dX5_firstForgotten_34 : decode cX5_firstForgotten 34 = .ok (.iconst 3, 1) := by decide +kernel
theorem dX5_firstForgotten_35 : decode cX5_firstForgotten 35 = .ok (.iaload, 1) := by decide +kernel
theorem dX5_firstForgotten_36 : decode cX5_firstForgotten 36 = .ok (.if_icmp .ne 17, 3) := by decide +kernel
theorem dX5_firstForgotten_39 : decode cX5_firstForgotten 39 = .ok (.aload_n 0, 1) := by decide +kernel
theorem dX5_firstForgotten_40 : decode cX5_firstForgotten 40 = .ok (.getfield 13, 3) := by decide +kernel
theorem dX5_firstForgotten_43 : decode cX5_firstForgotten 43 = .ok (.iconst 1, 1) := by decide +kernel
theorem dX5_firstForgotten_44 : decode cX5_firstForgotten 44 = .ok (.invokestatic 110, 3) := by decide +kernel
theorem dX5_firstForgotten_47 : decode cX5_firstForgotten 47 = .ok (.iinc 1 1, 3) := by decide +kernel
theorem dX5_firstForgotten_50 : decode cX5_firstForgotten 50 = .ok (.goto (-26), 3) := by decide +kernel
theorem dX5_firstForgotten_53 : decode cX5_firstForgotten 53 = .ok (.iload_n 1, 1) := by decide +kernel
theorem dX5_firstForgotten_54 : decode cX5_firstForgotten 54 = .ok (.ireturn, 1) := by decide +kernel
theorem dX5_nextForgotten_0 : decode cX5_nextForgotten 0 = .ok (.aload_n 0, 1) := by decide +kernel
theorem dX5_nextForgotten_1 : decode cX5_nextForgotten 1 = .ok (.iconst 0, 1) := by decide +kernel
theorem dX5_nextForgotten_2 : decode cX5_nextForgotten 2 = .ok (.putfield 25, 3) := by decide +kernel
theorem dX5_nextForgotten_5 : decode cX5_nextForgotten 5 = .ok (.aload_n 0, 1) := by decide +kernel
theorem dX5_nextForgotten_6 : decode cX5_nextForgotten 6 = .ok (.invokevirtual 161, 3) := by decide +kernel
theorem dX5_nextForgotten_9 : decode cX5_nextForgotten 9 = .ok (.ireturn, 1) := by decide +kernel
theorem dX5_way_0 : decode cX5_way 0 = .ok (.iload_n 1, 1) := by decide +kernel
theorem dX5_way_1 : decode cX5_way 1 = .ok (.istore_n 3, 1) := by decide +kernel
theorem dX5_way_2 : decode cX5_way 2 = .ok (.iconst 1, 1) := by decide +kernel
theorem dX5_way_3 : decode cX5_way 3 = .ok (.istore 4, 2) := by decide +kernel
theorem dX5_way_5 : decode cX5_way 5 = .ok (.iload 4, 2) := by decide +kernel
theorem dX5_way_7 : decode cX5_way 7 = .ok (.bipush 6, 2) := by decide +kernel
theorem dX5_way_9 : decode cX5_way 9 = .ok (.if_icmp .ge 62, 3) := by decide +kernel
theorem dX5_way_12 : decode cX5_way 12 = .ok (.iload_n 3, 1) := by decide +kernel
theorem dX5_way_13 : decode cX5_way 13 = .ok (.iload_n 2, 1) := by decide +kernel
theorem dX5_way_14 : decode cX5_way 14 = .ok (.iadd, 1) := by decide +kernel
theorem dX5_way_15 : decode cX5_way 15 = .ok (.bipush 6, 2) := by decide +kernel
theorem dX5_way_17 : decode cX5_way 17 = .ok (.irem, 1) := by decide +kernel
theorem dX5_way_18 : decode cX5_way 18 = .ok (.istore 5, 2) := by decide +kernel
theorem dX5_way_20 : decode cX5_way 20 = .ok (.aload_n 0, 1) := by decide +kernel
theorem dX5_way_21 : decode cX5_way 21 = .ok (.getfield 7, 3) := by decide +kernel
theorem dX5_way_24 : decode cX5_way 24 = .ok (.iload_n 3, 1) := by decide +kernel
theorem dX5_way_25 : decode cX5_way 25 = .ok (.iconst 0, 1) := by decide +kernel
theorem dX5_way_26 : decode cX5_way 26 = .ok (.invokestatic 33, 3) := by decide +kernel
theorem dX5_way_29 : decode cX5_way 29 = .ok (.ifCond .eq 16, 3) := by decide +kernel
theorem dX5_way_32 : decode cX5_way 32 = .ok (.aload_n 0, 1) := by decide +kernel
theorem dX5_way_33 : decode cX5_way 33 = .ok (.getfield 7, 3) := by decide +kernel
theorem dX5_way_36 : decode cX5_way 36 = .ok (.iload_n 3, 1) := by decide +kernel
theorem dX5_way_37 : decode cX5_way 37 = .ok (.iload 5, 2) := by decide +kernel
theorem dX5_way_39 : decode cX5_way 39 = .ok (.invokestatic 56, 3) := by decide +kernel
theorem dX5_way_42 : decode cX5_way 42 = .ok (.ifCond .ne 5, 3) := by decide +kernel
theorem dX5_way_45 : decode cX5_way 45 = .ok (.iconst (-1), 1) := by decide +kernel
theorem dX5_way_46 : decode cX5_way 46 = .ok (.ireturn, 1) := by decide +kernel
theorem dX5_way_47 : decode cX5_way 47 = .ok (.aload_n 0, 1) := by decide +kernel
theorem dX5_way_48 : decode cX5_way 48 = .ok (.getfield 7, 3) := by decide +kernel
theorem dX5_way_51 : decode cX5_way 51 = .ok (.iload 5, 2) := by decide +kernel
theorem dX5_way_53 : decode cX5_way 53 = .ok (.invokestatic 52, 3) := by decide +kernel
theorem dX5_way_56 : decode cX5_way 56 = .ok (.ifCond .eq 6, 3) := by decide +kernel
theorem dX5_way_59 : decode cX5_way 59 = .ok (.iload 4, 2) := by decide +kernel
theorem dX5_way_61 : decode cX5_way 61 = .ok (.ireturn, 1) := by decide +kernel
theorem dX5_way_62 : decode cX5_way 62 = .ok (.iload 5, 2) := by decide +kernel
theorem dX5_way_64 : decode cX5_way 64 = .ok (.istore_n 3, 1) := by decide +kernel
theorem dX5_way_65 : decode cX5_way 65 = .ok (.iinc 4 1, 3) := by decide +kernel
theorem dX5_way_68 : decode cX5_way 68 = .ok (.goto (-63), 3) := by decide +kernel
theorem dX5_way_71 : decode cX5_way 71 = .ok (.iconst (-1), 1) := by decide +kernel
theorem dX5_way_72 : decode cX5_way 72 = .ok (.ireturn, 1) := by decide +kernel
theorem dX5_fewest_0 : decode cX5_fewest 0 = .ok (.aload_n 0, 1) := by decide +kernel
theorem dX5_fewest_1 : decode cX5_fewest 1 = .ok (.getfield 7, 3) := by decide +kernel
theorem dX5_fewest_4 : decode cX5_fewest 4 = .ok (.iload_n 1, 1) := by decide +kernel
theorem dX5_fewest_5 : decode cX5_fewest 5 = .ok (.invokestatic 52, 3) := by decide +kernel
theorem dX5_fewest_8 : decode cX5_fewest 8 = .ok (.ifCond .eq 5, 3) := by decide +kernel
theorem dX5_fewest_11 : decode cX5_fewest 11 = .ok (.iconst 0, 1) := by decide +kernel
theorem dX5_fewest_12 : decode cX5_fewest 12 = .ok (.ireturn, 1) := by decide +kernel
theorem dX5_fewest_13 : decode cX5_fewest 13 = .ok (.aload_n 0, 1) := by decide +kernel
theorem dX5_fewest_14 : decode cX5_fewest 14 = .ok (.getfield 7, 3) := by decide +kernel
theorem dX5_fewest_17 : decode cX5_fewest 17 = .ok (.invokestatic 48, 3) := by decide +kernel
theorem dX5_fewest_20 : decode cX5_fewest 20 = .ok (.ifCond .ne 21, 3) := by decide +kernel
theorem dX5_fewest_23 : decode cX5_fewest 23 = .ok (.aload_n 0, 1) := by decide +kernel
theorem dX5_fewest_24 : decode cX5_fewest 24 = .ok (.getfield 7, 3) := by decide +kernel
theorem dX5_fewest_27 : decode cX5_fewest 27 = .ok (.iload_n 1, 1) := by decide +kernel
theorem dX5_fewest_28 : decode cX5_fewest 28 = .ok (.iconst 0, 1) := by decide +kernel
theorem dX5_fewest_29 : decode cX5_fewest 29 = .ok (.invokestatic 33, 3) := by decide +kernel
theorem dX5_fewest_32 : decode cX5_fewest 32 = .ok (.ifCond .le 7, 3) := by decide +kernel
theorem dX5_fewest_35 : decode cX5_fewest 35 = .ok (.iconst 1, 1) := by decide +kernel
theorem dX5_fewest_36 : decode cX5_fewest 36 = .ok (.goto 4, 3) := by decide +kernel
theorem dX5_fewest_39 : decode cX5_fewest 39 = .ok (.iconst (-1), 1) := by decide +kernel
theorem dX5_fewest_40 : decode cX5_fewest 40 = .ok (.ireturn, 1) := by decide +kernel
theorem dX5_fewest_41 : decode cX5_fewest 41 = .ok (.aload_n 0, 1) := by decide +kernel
theorem dX5_fewest_42 : decode cX5_fewest 42 = .ok (.iload_n 1, 1) := by decide +kernel
theorem dX5_fewest_43 : decode cX5_fewest 43 = .ok (.iconst 1, 1) := by decide +kernel
theorem dX5_fewest_44 : decode cX5_fewest 44 = .ok (.invokevirtual 164, 3) := by decide +kernel
theorem dX5_fewest_47 : decode cX5_fewest 47 = .ok (.istore_n 2, 1) := by decide +kernel
theorem dX5_fewest_48 : decode cX5_fewest 48 = .ok (.aload_n 0, 1) := by decide +kernel
theorem dX5_fewest_49 : decode cX5_fewest 49 = .ok (.iload_n 1, 1) := by decide +kernel
theorem dX5_fewest_50 : decode cX5_fewest 50 = .ok (.iconst 5, 1) := by decide +kernel
theorem dX5_fewest_51 : decode cX5_fewest 51 = .ok (.invokevirtual 164, 3) := by decide +kernel
theorem dX5_fewest_54 : decode cX5_fewest 54 = .ok (.istore_n 3, 1) := by decide +kernel
theorem dX5_fewest_55 : decode cX5_fewest 55 = .ok (.iload_n 2, 1) := by decide +kernel
theorem dX5_fewest_56 : decode cX5_fewest 56 = .ok (.iconst (-1), 1) := by decide +kernel
theorem dX5_fewest_57 : decode cX5_fewest 57 = .ok (.if_icmp .eq 13, 3) := by decide +kernel
theorem dX5_fewest_60 : decode cX5_fewest 60 = .ok (.iload_n 3, 1) := by decide +kernel
theorem dX5_fewest_61 : decode cX5_fewest 61 = .ok (.iconst (-1), 1) := by decide +kernel
theorem dX5_fewest_62 : decode cX5_fewest 62 = .ok (.if_icmp .eq 12, 3) := by decide +kernel
theorem dX5_fewest_65 : decode cX5_fewest 65 = .ok (.iload_n 3, 1) := by decide +kernel
theorem dX5_fewest_66 : decode cX5_fewest 66 = .ok (.iload_n 2, 1) := by decide +kernel
theorem dX5_fewest_67 : decode cX5_fewest 67 = .ok (.if_icmp .ge 7, 3) := by decide +kernel
theorem dX5_fewest_70 : decode cX5_fewest 70 = .ok (.iload_n 3, 1) := by decide +kernel
theorem dX5_fewest_71 : decode cX5_fewest 71 = .ok (.goto 4, 3) := by decide +kernel
theorem dX5_fewest_74 : decode cX5_fewest 74 = .ok (.iload_n 2, 1) := by decide +kernel
theorem dX5_fewest_75 : decode cX5_fewest 75 = .ok (.ireturn, 1) := by decide +kernel
theorem dX5_carried_0 : decode cX5_carried 0 = .ok (.aload_n 0, 1) := by decide +kernel
theorem dX5_carried_1 : decode cX5_carried 1 = .ok (.iconst 0, 1) := by decide +kernel
theorem dX5_carried_2 : decode cX5_carried 2 = .ok (.putfield 25, 3) := by decide +kernel
theorem dX5_carried_5 : decode cX5_carried 5 = .ok (.iload_n 1, 1) := by decide +kernel
theorem dX5_carried_6 : decode cX5_carried 6 = .ok (.invokestatic 63, 3) := by decide +kernel
theorem dX5_carried_9 : decode cX5_carried 9 = .ok (.ifCond .eq 11, 3) := by decide +kernel
theorem dX5_carried_12 : decode cX5_carried 12 = .ok (.aload_n 0, 1) := by decide +kernel
theorem dX5_carried_13 : decode cX5_carried 13 = .ok (.iload_n 1, 1) := by decide +kernel
theorem dX5_carried_14 : decode cX5_carried 14 = .ok (.invokevirtual 167, 3) := by decide +kernel
theorem dX5_carried_17 : decode cX5_carried 17 = .ok (.goto 8, 3) := by decide +kernel
theorem dX5_carried_20 : decode cX5_carried 20 = .ok (.aload_n 0, 1) := by decide +kernel
theorem dX5_carried_21 : decode cX5_carried 21 = .ok (.iconst 1, 1) := by decide +kernel
theorem dX5_carried_22 : decode cX5_carried 22 = .ok (.invokevirtual 44, 3) := by decide +kernel
theorem dX5_carried_25 : decode cX5_carried 25 = .ok (.ireturn, 1) := by decide +kernel
theorem dX5_neediest_0 : decode cX5_neediest 0 = .ok (.iconst (-1), 1) := by decide +kernel
theorem dX5_neediest_1 : decode cX5_neediest 1 = .ok (.istore_n 1, 1) := by decide +kernel
theorem dX5_neediest_2 : decode cX5_neediest 2 = .ok (.iconst 0, 1) := by decide +kernel
theorem dX5_neediest_3 : decode cX5_neediest 3 = .ok (.istore_n 2, 1) := by decide +kernel
theorem dX5_neediest_4 : decode cX5_neediest 4 = .ok (.iload_n 2, 1) := by decide +kernel
theorem dX5_neediest_5 : decode cX5_neediest 5 = .ok (.bipush 6, 2) := by decide +kernel
theorem dX5_neediest_7 : decode cX5_neediest 7 = .ok (.if_icmp .ge 108, 3) := by decide +kernel
theorem dX5_neediest_10 : decode cX5_neediest 10 = .ok (.aload_n 0, 1) := by decide +kernel
theorem dX5_neediest_11 : decode cX5_neediest 11 = .ok (.getfield 7, 3) := by decide +kernel
theorem dX5_neediest_14 : decode cX5_neediest 14 = .ok (.iload_n 2, 1) := by decide +kernel
theorem dX5_neediest_15 : decode cX5_neediest 15 = .ok (.bipush 6, 2) := by decide +kernel
theorem dX5_neediest_17 : decode cX5_neediest 17 = .ok (.invokestatic 33, 3) := by decide +kernel
theorem dX5_neediest_20 : decode cX5_neediest 20 = .ok (.ifCond .le 77, 3) := by decide +kernel
theorem dX5_neediest_23 : decode cX5_neediest 23 = .ok (.iload_n 1, 1) := by decide +kernel
theorem dX5_neediest_24 : decode cX5_neediest 24 = .ok (.iconst (-1), 1) := by decide +kernel
theorem dX5_neediest_25 : decode cX5_neediest 25 = .ok (.if_icmp .eq 68, 3) := by decide +kernel
theorem dX5_neediest_28 : decode cX5_neediest 28 = .ok (.aload_n 0, 1) := by decide +kernel
theorem dX5_neediest_29 : decode cX5_neediest 29 = .ok (.getfield 7, 3) := by decide +kernel
theorem dX5_neediest_32 : decode cX5_neediest 32 = .ok (.iload_n 2, 1) := by decide +kernel
theorem dX5_neediest_33 : decode cX5_neediest 33 = .ok (.iconst 0, 1) := by decide +kernel
theorem dX5_neediest_34 : decode cX5_neediest 34 = .ok (.invokestatic 33, 3) := by decide +kernel
theorem dX5_neediest_37 : decode cX5_neediest 37 = .ok (.aload_n 0, 1) := by decide +kernel
theorem dX5_neediest_38 : decode cX5_neediest 38 = .ok (.getfield 7, 3) := by decide +kernel
theorem dX5_neediest_41 : decode cX5_neediest 41 = .ok (.iload_n 1, 1) := by decide +kernel
theorem dX5_neediest_42 : decode cX5_neediest 42 = .ok (.iconst 0, 1) := by decide +kernel
theorem dX5_neediest_43 : decode cX5_neediest 43 = .ok (.invokestatic 33, 3) := by decide +kernel
theorem dX5_neediest_46 : decode cX5_neediest 46 = .ok (.if_icmp .lt 47, 3) := by decide +kernel
theorem dX5_neediest_49 : decode cX5_neediest 49 = .ok (.aload_n 0, 1) := by decide +kernel
theorem dX5_neediest_50 : decode cX5_neediest 50 = .ok (.getfield 7, 3) := by decide +kernel
theorem dX5_neediest_53 : decode cX5_neediest 53 = .ok (.iload_n 2, 1) := by decide +kernel
theorem dX5_neediest_54 : decode cX5_neediest 54 = .ok (.iconst 0, 1) := by decide +kernel
theorem dX5_neediest_55 : decode cX5_neediest 55 = .ok (.invokestatic 33, 3) := by decide +kernel
theorem dX5_neediest_58 : decode cX5_neediest 58 = .ok (.aload_n 0, 1) := by decide +kernel
theorem dX5_neediest_59 : decode cX5_neediest 59 = .ok (.getfield 7, 3) := by decide +kernel
theorem dX5_neediest_62 : decode cX5_neediest 62 = .ok (.iload_n 1, 1) := by decide +kernel
theorem dX5_neediest_63 : decode cX5_neediest 63 = .ok (.iconst 0, 1) := by decide +kernel
theorem dX5_neediest_64 : decode cX5_neediest 64 = .ok (.invokestatic 33, 3) := by decide +kernel
theorem dX5_neediest_67 : decode cX5_neediest 67 = .ok (.if_icmp .ne 30, 3) := by decide +kernel
theorem dX5_neediest_70 : decode cX5_neediest 70 = .ok (.aload_n 0, 1) := by decide +kernel
theorem dX5_neediest_71 : decode cX5_neediest 71 = .ok (.getfield 7, 3) := by decide +kernel
theorem dX5_neediest_74 : decode cX5_neediest 74 = .ok (.iload_n 2, 1) := by decide +kernel
theorem dX5_neediest_75 : decode cX5_neediest 75 = .ok (.bipush 6, 2) := by decide +kernel
theorem dX5_neediest_77 : decode cX5_neediest 77 = .ok (.invokestatic 33, 3) := by decide +kernel
theorem dX5_neediest_80 : decode cX5_neediest 80 = .ok (.aload_n 0, 1) := by decide +kernel
theorem dX5_neediest_81 : decode cX5_neediest 81 = .ok (.getfield 7, 3) := by decide +kernel
theorem dX5_neediest_84 : decode cX5_neediest 84 = .ok (.iload_n 1, 1) := by decide +kernel
theorem dX5_neediest_85 : decode cX5_neediest 85 = .ok (.bipush 6, 2) := by decide +kernel
theorem dX5_neediest_87 : decode cX5_neediest 87 = .ok (.invokestatic 33, 3) := by decide +kernel
theorem dX5_neediest_90 : decode cX5_neediest 90 = .ok (.if_icmp .le 7, 3) := by decide +kernel
theorem dX5_neediest_93 : decode cX5_neediest 93 = .ok (.iconst 1, 1) := by decide +kernel
theorem dX5_neediest_94 : decode cX5_neediest 94 = .ok (.goto 4, 3) := by decide +kernel
theorem dX5_neediest_97 : decode cX5_neediest 97 = .ok (.iconst 0, 1) := by decide +kernel
theorem dX5_neediest_98 : decode cX5_neediest 98 = .ok (.istore_n 3, 1) := by decide +kernel
theorem dX5_neediest_99 : decode cX5_neediest 99 = .ok (.iload_n 3, 1) := by decide +kernel
theorem dX5_neediest_100 : decode cX5_neediest 100 = .ok (.ifCond .eq 7, 3) := by decide +kernel
theorem dX5_neediest_103 : decode cX5_neediest 103 = .ok (.iload_n 2, 1) := by decide +kernel
theorem dX5_neediest_104 : decode cX5_neediest 104 = .ok (.goto 4, 3) := by decide +kernel
theorem dX5_neediest_107 : decode cX5_neediest 107 = .ok (.iload_n 1, 1) := by decide +kernel
theorem dX5_neediest_108 : decode cX5_neediest 108 = .ok (.istore_n 1, 1) := by decide +kernel
theorem dX5_neediest_109 : decode cX5_neediest 109 = .ok (.iinc 2 1, 3) := by decide +kernel
theorem dX5_neediest_112 : decode cX5_neediest 112 = .ok (.goto (-108), 3) := by decide +kernel
theorem dX5_neediest_115 : decode cX5_neediest 115 = .ok (.iload_n 1, 1) := by decide +kernel
theorem dX5_neediest_116 : decode cX5_neediest 116 = .ok (.ireturn, 1) := by decide +kernel
theorem dX5_needy_0 : decode cX5_needy 0 = .ok (.aload_n 0, 1) := by decide +kernel
theorem dX5_needy_1 : decode cX5_needy 1 = .ok (.iconst 0, 1) := by decide +kernel
theorem dX5_needy_2 : decode cX5_needy 2 = .ok (.putfield 25, 3) := by decide +kernel
theorem dX5_needy_5 : decode cX5_needy 5 = .ok (.aload_n 0, 1) := by decide +kernel
theorem dX5_needy_6 : decode cX5_needy 6 = .ok (.invokevirtual 170, 3) := by decide +kernel
theorem dX5_needy_9 : decode cX5_needy 9 = .ok (.ireturn, 1) := by decide +kernel
theorem dX5_saved_0 : decode cX5_saved 0 = .ok (.aload_n 0, 1) := by decide +kernel
theorem dX5_saved_1 : decode cX5_saved 1 = .ok (.getfield 7, 3) := by decide +kernel
theorem dX5_saved_4 : decode cX5_saved 4 = .ok (.iload_n 1, 1) := by decide +kernel
theorem dX5_saved_5 : decode cX5_saved 5 = .ok (.invokestatic 52, 3) := by decide +kernel
theorem dX5_saved_8 : decode cX5_saved 8 = .ok (.ifCond .ne 5, 3) := by decide +kernel
theorem dX5_saved_11 : decode cX5_saved 11 = .ok (.iconst 0, 1) := by decide +kernel
theorem dX5_saved_12 : decode cX5_saved 12 = .ok (.ireturn, 1) := by decide +kernel
theorem dX5_saved_13 : decode cX5_saved 13 = .ok (.aload_n 0, 1) := by decide +kernel
theorem dX5_saved_14 : decode cX5_saved 14 = .ok (.getfield 7, 3) := by decide +kernel
theorem dX5_saved_17 : decode cX5_saved 17 = .ok (.iconst 0, 1) := by decide +kernel
theorem dX5_saved_18 : decode cX5_saved 18 = .ok (.aload_n 0, 1) := by decide +kernel
theorem dX5_saved_19 : decode cX5_saved 19 = .ok (.getfield 13, 3) := by decide +kernel
theorem dX5_saved_22 : decode cX5_saved 22 = .ok (.iconst 0, 1) := by decide +kernel
theorem dX5_saved_23 : decode cX5_saved 23 = .ok (.invokestatic 40, 3) := by decide +kernel
theorem dX5_saved_26 : decode cX5_saved 26 = .ok (.iconst 0, 1) := by decide +kernel
theorem dX5_saved_27 : decode cX5_saved 27 = .ok (.istore_n 2, 1) := by decide +kernel
theorem dX5_saved_28 : decode cX5_saved 28 = .ok (.aload_n 0, 1) := by decide +kernel
theorem dX5_saved_29 : decode cX5_saved 29 = .ok (.getfield 13, 3) := by decide +kernel
theorem dX5_saved_32 : decode cX5_saved 32 = .ok (.iload_n 1, 1) := by decide +kernel
theorem dX5_saved_33 : decode cX5_saved 33 = .ok (.invokestatic 52, 3) := by decide +kernel
theorem dX5_saved_36 : decode cX5_saved 36 = .ok (.ifCond .eq 17, 3) := by decide +kernel
theorem dX5_saved_39 : decode cX5_saved 39 = .ok (.aload_n 0, 1) := by decide +kernel
theorem dX5_saved_40 : decode cX5_saved 40 = .ok (.getfield 13, 3) := by decide +kernel
theorem dX5_saved_43 : decode cX5_saved 43 = .ok (.iload_n 1, 1) := by decide +kernel
theorem dX5_saved_44 : decode cX5_saved 44 = .ok (.invokestatic 90, 3) := by decide +kernel
theorem dX5_saved_47 : decode cX5_saved 47 = .ok (.iinc 2 1, 3) := by decide +kernel
theorem dX5_saved_50 : decode cX5_saved 50 = .ok (.goto (-22), 3) := by decide +kernel
theorem dX5_saved_53 : decode cX5_saved 53 = .ok (.aload_n 0, 1) := by decide +kernel
theorem dX5_saved_54 : decode cX5_saved 54 = .ok (.getfield 7, 3) := by decide +kernel
theorem dX5_saved_57 : decode cX5_saved 57 = .ok (.iload_n 1, 1) := by decide +kernel
theorem dX5_saved_58 : decode cX5_saved 58 = .ok (.iconst 0, 1) := by decide +kernel
theorem dX5_saved_59 : decode cX5_saved 59 = .ok (.invokestatic 33, 3) := by decide +kernel
theorem dX5_saved_62 : decode cX5_saved 62 = .ok (.iload_n 2, 1) := by decide +kernel
theorem dX5_saved_63 : decode cX5_saved 63 = .ok (.isub, 1) := by decide +kernel
theorem dX5_saved_64 : decode cX5_saved 64 = .ok (.ireturn, 1) := by decide +kernel
theorem dX5_saves_0 : decode cX5_saves 0 = .ok (.aload_n 0, 1) := by decide +kernel
theorem dX5_saves_1 : decode cX5_saves 1 = .ok (.iconst 0, 1) := by decide +kernel
theorem dX5_saves_2 : decode cX5_saves 2 = .ok (.putfield 25, 3) := by decide +kernel
theorem dX5_saves_5 : decode cX5_saves 5 = .ok (.iload_n 1, 1) := by decide +kernel
theorem dX5_saves_6 : decode cX5_saves 6 = .ok (.invokestatic 63, 3) := by decide +kernel
theorem dX5_saves_9 : decode cX5_saves 9 = .ok (.ifCond .eq 11, 3) := by decide +kernel
theorem dX5_saves_12 : decode cX5_saves 12 = .ok (.aload_n 0, 1) := by decide +kernel
theorem dX5_saves_13 : decode cX5_saves 13 = .ok (.iload_n 1, 1) := by decide +kernel
theorem dX5_saves_14 : decode cX5_saves 14 = .ok (.invokevirtual 173, 3) := by decide +kernel
theorem dX5_saves_17 : decode cX5_saves 17 = .ok (.goto 8, 3) := by decide +kernel
theorem dX5_saves_20 : decode cX5_saves 20 = .ok (.aload_n 0, 1) := by decide +kernel
theorem dX5_saves_21 : decode cX5_saves 21 = .ok (.iconst 1, 1) := by decide +kernel
theorem dX5_saves_22 : decode cX5_saves 22 = .ok (.invokevirtual 44, 3) := by decide +kernel
theorem dX5_saves_25 : decode cX5_saves 25 = .ok (.ireturn, 1) := by decide +kernel
theorem dX5_share_0 : decode cX5_share 0 = .ok (.iconst 0, 1) := by decide +kernel
theorem dX5_share_1 : decode cX5_share 1 = .ok (.istore_n 1, 1) := by decide +kernel
theorem dX5_share_2 : decode cX5_share 2 = .ok (.iconst 0, 1) := by decide +kernel
theorem dX5_share_3 : decode cX5_share 3 = .ok (.istore_n 2, 1) := by decide +kernel
theorem dX5_share_4 : decode cX5_share 4 = .ok (.iload_n 2, 1) := by decide +kernel
theorem dX5_share_5 : decode cX5_share 5 = .ok (.bipush 6, 2) := by decide +kernel
theorem dX5_share_7 : decode cX5_share 7 = .ok (.if_icmp .ge 37, 3) := by decide +kernel
theorem dX5_share_10 : decode cX5_share 10 = .ok (.iload_n 1, 1) := by decide +kernel
theorem dX5_share_11 : decode cX5_share 11 = .ok (.aload_n 0, 1) := by decide +kernel
theorem dX5_share_12 : decode cX5_share 12 = .ok (.getfield 7, 3) := by decide +kernel
theorem dX5_share_15 : decode cX5_share 15 = .ok (.iload_n 2, 1) := by decide +kernel
theorem dX5_share_16 : decode cX5_share 16 = .ok (.invokestatic 52, 3) := by decide +kernel
theorem dX5_share_19 : decode cX5_share 19 = .ok (.ifCond .eq 16, 3) := by decide +kernel
theorem dX5_share_22 : decode cX5_share 22 = .ok (.aload_n 0, 1) := by decide +kernel
theorem dX5_share_23 : decode cX5_share 23 = .ok (.getfield 7, 3) := by decide +kernel
theorem dX5_share_26 : decode cX5_share 26 = .ok (.iload_n 2, 1) := by decide +kernel
theorem dX5_share_27 : decode cX5_share 27 = .ok (.bipush 6, 2) := by decide +kernel
theorem dX5_share_29 : decode cX5_share 29 = .ok (.invokestatic 33, 3) := by decide +kernel
theorem dX5_share_32 : decode cX5_share 32 = .ok (.goto 4, 3) := by decide +kernel
theorem dX5_share_35 : decode cX5_share 35 = .ok (.iconst 0, 1) := by decide +kernel
theorem dX5_share_36 : decode cX5_share 36 = .ok (.iadd, 1) := by decide +kernel
theorem dX5_share_37 : decode cX5_share 37 = .ok (.istore_n 1, 1) := by decide +kernel
theorem dX5_share_38 : decode cX5_share 38 = .ok (.iinc 2 1, 3) := by decide +kernel
theorem dX5_share_41 : decode cX5_share 41 = .ok (.goto (-37), 3) := by decide +kernel
theorem dX5_share_44 : decode cX5_share 44 = .ok (.aload_n 0, 1) := by decide +kernel
theorem dX5_share_45 : decode cX5_share 45 = .ok (.invokevirtual 151, 3) := by decide +kernel
theorem dX5_share_48 : decode cX5_share 48 = .ok (.ifCond .ne 7, 3) := by decide +kernel
theorem dX5_share_51 : decode cX5_share 51 = .ok (.dconst 1, 1) := by decide +kernel
theorem dX5_share_52 : decode cX5_share 52 = .ok (.goto 11, 3) := by decide +kernel
theorem dX5_share_55 : decode cX5_share 55 = .ok (.iload_n 1, 1) := by decide +kernel
theorem dX5_share_56 : decode cX5_share 56 = .ok (.i2d, 1) := by decide +kernel
theorem dX5_share_57 : decode cX5_share 57 = .ok (.aload_n 0, 1) := by decide +kernel
theorem dX5_share_58 : decode cX5_share 58 = .ok (.invokevirtual 151, 3) := by decide +kernel
theorem dX5_share_61 : decode cX5_share 61 = .ok (.i2d, 1) := by decide +kernel
theorem dX5_share_62 : decode cX5_share 62 = .ok (.ddiv, 1) := by decide +kernel
theorem dX5_share_63 : decode cX5_share 63 = .ok (.dreturn, 1) := by decide +kernel
theorem dX5_lit_0 : decode cX5_lit 0 = .ok (.aload_n 0, 1) := by decide +kernel
theorem dX5_lit_1 : decode cX5_lit 1 = .ok (.iconst 0, 1) := by decide +kernel
theorem dX5_lit_2 : decode cX5_lit 2 = .ok (.putfield 25, 3) := by decide +kernel
theorem dX5_lit_5 : decode cX5_lit 5 = .ok (.aload_n 0, 1) := by decide +kernel
theorem dX5_lit_6 : decode cX5_lit 6 = .ok (.invokevirtual 176, 3) := by decide +kernel
theorem dX5_lit_9 : decode cX5_lit 9 = .ok (.dreturn, 1) := by decide +kernel
theorem dX5_digest_0 : decode cX5_digest 0 = .ok (.aload_n 0, 1) := by decide +kernel
theorem dX5_digest_1 : decode cX5_digest 1 = .ok (.iconst 0, 1) := by decide +kernel
theorem dX5_digest_2 : decode cX5_digest 2 = .ok (.putfield 25, 3) := by decide +kernel
theorem dX5_digest_5 : decode cX5_digest 5 = .ok (.ldc2_w 180, 3) := by decide +kernel
theorem dX5_digest_8 : decode cX5_digest 8 = .ok (.lstore_n 1, 1) := by decide +kernel
theorem dX5_digest_9 : decode cX5_digest 9 = .ok (.iconst 0, 1) := by decide +kernel
theorem dX5_digest_10 : decode cX5_digest 10 = .ok (.istore_n 3, 1) := by decide +kernel
theorem dX5_digest_11 : decode cX5_digest 11 = .ok (.iload_n 3, 1) := by decide +kernel
theorem dX5_digest_12 : decode cX5_digest 12 = .ok (.bipush 12, 2) := by decide +kernel
theorem dX5_digest_14 : decode cX5_digest 14 = .ok (.if_icmp .ge 22, 3) := by decide +kernel
theorem dX5_digest_17 : decode cX5_digest 17 = .ok (.ldc2_w 182, 3) := by decide +kernel
theorem dX5_digest_20 : decode cX5_digest 20 = .ok (.lload_n 1, 1) := by decide +kernel
theorem dX5_digest_21 : decode cX5_digest 21 = .ok (.lmul, 1) := by decide +kernel
theorem dX5_digest_22 : decode cX5_digest 22 = .ok (.aload_n 0, 1) := by decide +kernel
theorem dX5_digest_23 : decode cX5_digest 23 = .ok (.iload_n 3, 1) := by decide +kernel
theorem dX5_digest_24 : decode cX5_digest 24 = .ok (.invokevirtual 155, 3) := by decide +kernel
theorem dX5_digest_27 : decode cX5_digest 27 = .ok (.i2l, 1) := by decide +kernel
theorem dX5_digest_28 : decode cX5_digest 28 = .ok (.ladd, 1) := by decide +kernel
theorem dX5_digest_29 : decode cX5_digest 29 = .ok (.lstore_n 1, 1) := by decide +kernel
theorem dX5_digest_30 : decode cX5_digest 30 = .ok (.iinc 3 1, 3) := by decide +kernel
theorem dX5_digest_33 : decode cX5_digest 33 = .ok (.goto (-22), 3) := by decide +kernel
theorem dX5_digest_36 : decode cX5_digest 36 = .ok (.iconst 0, 1) := by decide +kernel
theorem dX5_digest_37 : decode cX5_digest 37 = .ok (.istore_n 3, 1) := by decide +kernel
theorem dX5_digest_38 : decode cX5_digest 38 = .ok (.iload_n 3, 1) := by decide +kernel
theorem dX5_digest_39 : decode cX5_digest 39 = .ok (.bipush 6, 2) := by decide +kernel
theorem dX5_digest_41 : decode cX5_digest 41 = .ok (.if_icmp .ge 139, 3) := by decide +kernel
theorem dX5_digest_44 : decode cX5_digest 44 = .ok (.iconst 0, 1) := by decide +kernel
theorem dX5_digest_45 : decode cX5_digest 45 = .ok (.istore 4, 2) := by decide +kernel
theorem dX5_digest_47 : decode cX5_digest 47 = .ok (.iload 4, 2) := by decide +kernel
theorem dX5_digest_49 : decode cX5_digest 49 = .ok (.bipush 8, 2) := by decide +kernel
theorem dX5_digest_51 : decode cX5_digest 51 = .ok (.if_icmp .ge 24, 3) := by decide +kernel
theorem dX5_digest_54 : decode cX5_digest 54 = .ok (.ldc2_w 182, 3) := by decide +kernel
theorem dX5_digest_57 : decode cX5_digest 57 = .ok (.lload_n 1, 1) := by decide +kernel
theorem dX5_digest_58 : decode cX5_digest 58 = .ok (.lmul, 1) := by decide +kernel
theorem dX5_digest_59 : decode cX5_digest 59 = .ok (.aload_n 0, 1) := by decide +kernel
theorem dX5_digest_60 : decode cX5_digest 60 = .ok (.iload_n 3, 1) := by decide +kernel
theorem dX5_digest_61 : decode cX5_digest 61 = .ok (.iload 4, 2) := by decide +kernel
theorem dX5_digest_63 : decode cX5_digest 63 = .ok (.invokevirtual 147, 3) := by decide +kernel
theorem dX5_digest_66 : decode cX5_digest 66 = .ok (.i2l, 1) := by decide +kernel
theorem dX5_digest_67 : decode cX5_digest 67 = .ok (.ladd, 1) := by decide +kernel
theorem dX5_digest_68 : decode cX5_digest 68 = .ok (.lstore_n 1, 1) := by decide +kernel
theorem dX5_digest_69 : decode cX5_digest 69 = .ok (.iinc 4 1, 3) := by decide +kernel
theorem dX5_digest_72 : decode cX5_digest 72 = .ok (.goto (-25), 3) := by decide +kernel
theorem dX5_digest_75 : decode cX5_digest 75 = .ok (.iconst 0, 1) := by decide +kernel
theorem dX5_digest_76 : decode cX5_digest 76 = .ok (.istore 4, 2) := by decide +kernel
theorem dX5_digest_78 : decode cX5_digest 78 = .ok (.iload 4, 2) := by decide +kernel
theorem dX5_digest_80 : decode cX5_digest 80 = .ok (.aload_n 0, 1) := by decide +kernel
theorem dX5_digest_81 : decode cX5_digest 81 = .ok (.getfield 7, 3) := by decide +kernel
theorem dX5_digest_84 : decode cX5_digest 84 = .ok (.iload_n 3, 1) := by decide +kernel
theorem dX5_digest_85 : decode cX5_digest 85 = .ok (.bipush 6, 2) := by decide +kernel
theorem dX5_digest_87 : decode cX5_digest 87 = .ok (.invokestatic 33, 3) := by decide +kernel
theorem dX5_digest_90 : decode cX5_digest 90 = .ok (.if_icmp .ge 49, 3) := by decide +kernel
theorem dX5_digest_93 : decode cX5_digest 93 = .ok (.ldc2_w 182, 3) := by decide +kernel
theorem dX5_digest_96 : decode cX5_digest 96 = .ok (.ldc2_w 182, 3) := by decide +kernel
theorem dX5_digest_99 : decode cX5_digest 99 = .ok (.lload_n 1, 1) := by decide +kernel
theorem dX5_digest_100 : decode cX5_digest 100 = .ok (.lmul, 1) := by decide +kernel
theorem dX5_digest_101 : decode cX5_digest 101 = .ok (.aload_n 0, 1) := by decide +kernel
theorem dX5_digest_102 : decode cX5_digest 102 = .ok (.getfield 7, 3) := by decide +kernel
theorem dX5_digest_105 : decode cX5_digest 105 = .ok (.iload_n 3, 1) := by decide +kernel
theorem dX5_digest_106 : decode cX5_digest 106 = .ok (.bipush 7, 2) := by decide +kernel
theorem dX5_digest_108 : decode cX5_digest 108 = .ok (.iload 4, 2) := by decide +kernel
theorem dX5_digest_110 : decode cX5_digest 110 = .ok (.iadd, 1) := by decide +kernel
theorem dX5_digest_111 : decode cX5_digest 111 = .ok (.invokestatic 33, 3) := by decide +kernel
theorem dX5_digest_114 : decode cX5_digest 114 = .ok (.i2l, 1) := by decide +kernel
theorem dX5_digest_115 : decode cX5_digest 115 = .ok (.ladd, 1) := by decide +kernel
theorem dX5_digest_116 : decode cX5_digest 116 = .ok (.lmul, 1) := by decide +kernel
theorem dX5_digest_117 : decode cX5_digest 117 = .ok (.aload_n 0, 1) := by decide +kernel
theorem dX5_digest_118 : decode cX5_digest 118 = .ok (.getfield 7, 3) := by decide +kernel
theorem dX5_digest_121 : decode cX5_digest 121 = .ok (.iload_n 3, 1) := by decide +kernel
theorem dX5_digest_122 : decode cX5_digest 122 = .ok (.bipush 11, 2) := by decide +kernel
theorem dX5_digest_124 : decode cX5_digest 124 = .ok (.iload 4, 2) := by decide +kernel
theorem dX5_digest_126 : decode cX5_digest 126 = .ok (.iadd, 1) := by decide +kernel
theorem dX5_digest_127 : decode cX5_digest 127 = .ok (.invokestatic 33, 3) := by decide +kernel
theorem dX5_digest_130 : decode cX5_digest 130 = .ok (.i2l, 1) := by decide +kernel
theorem dX5_digest_131 : decode cX5_digest 131 = .ok (.ladd, 1) := by decide +kernel
theorem dX5_digest_132 : decode cX5_digest 132 = .ok (.lstore_n 1, 1) := by decide +kernel
theorem dX5_digest_133 : decode cX5_digest 133 = .ok (.iinc 4 1, 3) := by decide +kernel
theorem dX5_digest_136 : decode cX5_digest 136 = .ok (.goto (-58), 3) := by decide +kernel
theorem dX5_digest_139 : decode cX5_digest 139 = .ok (.ldc2_w 182, 3) := by decide +kernel
theorem dX5_digest_142 : decode cX5_digest 142 = .ok (.ldc2_w 182, 3) := by decide +kernel
theorem dX5_digest_145 : decode cX5_digest 145 = .ok (.ldc2_w 182, 3) := by decide +kernel
theorem dX5_digest_148 : decode cX5_digest 148 = .ok (.lload_n 1, 1) := by decide +kernel
theorem dX5_digest_149 : decode cX5_digest 149 = .ok (.lmul, 1) := by decide +kernel
theorem dX5_digest_150 : decode cX5_digest 150 = .ok (.aload_n 0, 1) := by decide +kernel
theorem dX5_digest_151 : decode cX5_digest 151 = .ok (.iload_n 3, 1) := by decide +kernel
theorem dX5_digest_152 : decode cX5_digest 152 = .ok (.invokevirtual 158, 3) := by decide +kernel
theorem dX5_digest_155 : decode cX5_digest 155 = .ok (.i2l, 1) := by decide +kernel
theorem dX5_digest_156 : decode cX5_digest 156 = .ok (.ladd, 1) := by decide +kernel
theorem dX5_digest_157 : decode cX5_digest 157 = .ok (.lmul, 1) := by decide +kernel
theorem dX5_digest_158 : decode cX5_digest 158 = .ok (.aload_n 0, 1) := by decide +kernel
theorem dX5_digest_159 : decode cX5_digest 159 = .ok (.iload_n 3, 1) := by decide +kernel
theorem dX5_digest_160 : decode cX5_digest 160 = .ok (.invokevirtual 167, 3) := by decide +kernel
theorem dX5_digest_163 : decode cX5_digest 163 = .ok (.i2l, 1) := by decide +kernel
theorem dX5_digest_164 : decode cX5_digest 164 = .ok (.ladd, 1) := by decide +kernel
theorem dX5_digest_165 : decode cX5_digest 165 = .ok (.lmul, 1) := by decide +kernel
theorem dX5_digest_166 : decode cX5_digest 166 = .ok (.aload_n 0, 1) := by decide +kernel
theorem dX5_digest_167 : decode cX5_digest 167 = .ok (.iload_n 3, 1) := by decide +kernel
theorem dX5_digest_168 : decode cX5_digest 168 = .ok (.invokevirtual 173, 3) := by decide +kernel
theorem dX5_digest_171 : decode cX5_digest 171 = .ok (.i2l, 1) := by decide +kernel
theorem dX5_digest_172 : decode cX5_digest 172 = .ok (.ladd, 1) := by decide +kernel
theorem dX5_digest_173 : decode cX5_digest 173 = .ok (.lstore_n 1, 1) := by decide +kernel
theorem dX5_digest_174 : decode cX5_digest 174 = .ok (.iinc 3 1, 3) := by decide +kernel
theorem dX5_digest_177 : decode cX5_digest 177 = .ok (.goto (-139), 3) := by decide +kernel
theorem dX5_digest_180 : decode cX5_digest 180 = .ok (.ldc2_w 182, 3) := by decide +kernel
theorem dX5_digest_183 : decode cX5_digest 183 = .ok (.ldc2_w 182, 3) := by decide +kernel
theorem dX5_digest_186 : decode cX5_digest 186 = .ok (.lload_n 1, 1) := by decide +kernel
theorem dX5_digest_187 : decode cX5_digest 187 = .ok (.lmul, 1) := by decide +kernel
theorem dX5_digest_188 : decode cX5_digest 188 = .ok (.aload_n 0, 1) := by decide +kernel
theorem dX5_digest_189 : decode cX5_digest 189 = .ok (.invokevirtual 161, 3) := by decide +kernel
theorem dX5_digest_192 : decode cX5_digest 192 = .ok (.i2l, 1) := by decide +kernel
theorem dX5_digest_193 : decode cX5_digest 193 = .ok (.ladd, 1) := by decide +kernel
theorem dX5_digest_194 : decode cX5_digest 194 = .ok (.lmul, 1) := by decide +kernel
theorem dX5_digest_195 : decode cX5_digest 195 = .ok (.aload_n 0, 1) := by decide +kernel
theorem dX5_digest_196 : decode cX5_digest 196 = .ok (.invokevirtual 170, 3) := by decide +kernel
theorem dX5_digest_199 : decode cX5_digest 199 = .ok (.i2l, 1) := by decide +kernel
theorem dX5_digest_200 : decode cX5_digest 200 = .ok (.ladd, 1) := by decide +kernel
theorem dX5_digest_201 : decode cX5_digest 201 = .ok (.lstore_n 1, 1) := by decide +kernel
theorem dX5_digest_202 : decode cX5_digest 202 = .ok (.ldc2_w 182, 3) := by decide +kernel
theorem dX5_digest_205 : decode cX5_digest 205 = .ok (.ldc2_w 182, 3) := by decide +kernel
theorem dX5_digest_208 : decode cX5_digest 208 = .ok (.lload_n 1, 1) := by decide +kernel
theorem dX5_digest_209 : decode cX5_digest 209 = .ok (.lmul, 1) := by decide +kernel
theorem dX5_digest_210 : decode cX5_digest 210 = .ok (.aload_n 0, 1) := by decide +kernel
theorem dX5_digest_211 : decode cX5_digest 211 = .ok (.invokevirtual 176, 3) := by decide +kernel
theorem dX5_digest_214 : decode cX5_digest 214 = .ok (.invokestatic 184, 3) := by decide +kernel
theorem dX5_digest_217 : decode cX5_digest 217 = .ok (.ladd, 1) := by decide +kernel
theorem dX5_digest_218 : decode cX5_digest 218 = .ok (.lmul, 1) := by decide +kernel
theorem dX5_digest_219 : decode cX5_digest 219 = .ok (.aload_n 0, 1) := by decide +kernel
theorem dX5_digest_220 : decode cX5_digest 220 = .ok (.getfield 113, 3) := by decide +kernel
theorem dX5_digest_223 : decode cX5_digest 223 = .ok (.i2l, 1) := by decide +kernel
theorem dX5_digest_224 : decode cX5_digest 224 = .ok (.ladd, 1) := by decide +kernel
theorem dX5_digest_225 : decode cX5_digest 225 = .ok (.lstore_n 1, 1) := by decide +kernel
theorem dX5_digest_226 : decode cX5_digest 226 = .ok (.iconst 0, 1) := by decide +kernel
theorem dX5_digest_227 : decode cX5_digest 227 = .ok (.istore_n 3, 1) := by decide +kernel
theorem dX5_digest_228 : decode cX5_digest 228 = .ok (.iload_n 3, 1) := by decide +kernel
theorem dX5_digest_229 : decode cX5_digest 229 = .ok (.aload_n 0, 1) := by decide +kernel
theorem dX5_digest_230 : decode cX5_digest 230 = .ok (.getfield 113, 3) := by decide +kernel
theorem dX5_digest_233 : decode cX5_digest 233 = .ok (.if_icmp .ge 23, 3) := by decide +kernel
theorem dX5_digest_236 : decode cX5_digest 236 = .ok (.ldc2_w 182, 3) := by decide +kernel
theorem dX5_digest_239 : decode cX5_digest 239 = .ok (.lload_n 1, 1) := by decide +kernel
theorem dX5_digest_240 : decode cX5_digest 240 = .ok (.lmul, 1) := by decide +kernel
theorem dX5_digest_241 : decode cX5_digest 241 = .ok (.aload_n 0, 1) := by decide +kernel
theorem dX5_digest_242 : decode cX5_digest 242 = .ok (.getfield 19, 3) := by decide +kernel
theorem dX5_digest_245 : decode cX5_digest 245 = .ok (.iload_n 3, 1) := by decide +kernel
theorem dX5_digest_246 : decode cX5_digest 246 = .ok (.iaload, 1) := by decide +kernel
theorem dX5_digest_247 : decode cX5_digest 247 = .ok (.i2l, 1) := by decide +kernel
theorem dX5_digest_248 : decode cX5_digest 248 = .ok (.ladd, 1) := by decide +kernel
theorem dX5_digest_249 : decode cX5_digest 249 = .ok (.lstore_n 1, 1) := by decide +kernel
theorem dX5_digest_250 : decode cX5_digest 250 = .ok (.iinc 3 1, 3) := by decide +kernel
theorem dX5_digest_253 : decode cX5_digest 253 = .ok (.goto (-25), 3) := by decide +kernel
theorem dX5_digest_256 : decode cX5_digest 256 = .ok (.lload_n 1, 1) := by decide +kernel
theorem dX5_digest_257 : decode cX5_digest 257 = .ok (.lreturn, 1) := by decide +kernel
end
section
/-! words: initialized, links of fields, calls (printed by program) -/
theorem kiRX0 : Cond.initialized RX0 ∈ WS := gws 29 (by decide +kernel) (by decide +kernel)
theorem kiRX1 : Cond.initialized RX1 ∈ WS := gws 27 (by decide +kernel) (by decide +kernel)
theorem kiRX2 : Cond.initialized RX2 ∈ WS := gws 28 (by decide +kernel) (by decide +kernel)
theorem kiRX3 : Cond.initialized RX3 ∈ WS := gws 26 (by decide +kernel) (by decide +kernel)
theorem kiRX4 : Cond.initialized RX4 ∈ WS := gws 25 (by decide +kernel) (by decide +kernel)
theorem kiRX5 : Cond.initialized RX5 ∈ WS := gws 30 (by decide +kernel) (by decide +kernel)
theorem kiRJxe99ae : Cond.initialized RJxe99ae ∈ WS := gws 39 (by decide +kernel) (by decide +kernel)
theorem kiRJ9 : Cond.initialized RJ9 ∈ WS := gws 35 (by decide +kernel) (by decide +kernel)
theorem kiRJ10 : Cond.initialized RJ10 ∈ WS := gws 37 (by decide +kernel) (by decide +kernel)
theorem kiRL : Cond.initialized RL ∈ WS := gws 24 (by decide +kernel) (by decide +kernel)
theorem kiMath : Cond.initialized "java/lang/Math" ∈ WS := gws 35 (by decide +kernel) (by decide +kernel)
theorem kiSystem : Cond.initialized "java/lang/System" ∈ WS := gws 37 (by decide +kernel) (by decide +kernel)
theorem kiDouble : Cond.initialized "java/lang/Double" ∈ WS := gws 39 (by decide +kernel) (by decide +kernel)
theorem kiIllegalStateException : Cond.initialized "java/lang/IllegalStateException" ∈ WS := gws 36 (by decide +kernel) (by decide +kernel)
theorem kiIllegalArgumentException : Cond.initialized "java/lang/IllegalArgumentException" ∈ WS := gws 38 (by decide +kernel) (by decide +kernel)
theorem kiIndexOutOfBoundsException : Cond.initialized "java/lang/IndexOutOfBoundsException" ∈ WS := gws 34 (by decide +kernel) (by decide +kernel)
theorem inW0 : ∀ w ∈ u_ws RX0 TX0 2, w ∈ WS := by
  intro w h
  refine List.mem_filter.mpr ⟨(by decide +kernel : ∀ w ∈ u_ws RX0 TX0 2, w ∈ lw_tbl) w h, (by decide +kernel : ∀ w ∈ u_ws RX0 TX0 2, goodWord w = true) w h⟩
theorem inW1 : ∀ w ∈ u_ws RX1 TX1 9, w ∈ WS := by
  intro w h
  refine List.mem_filter.mpr ⟨(by decide +kernel : ∀ w ∈ u_ws RX1 TX1 9, w ∈ lw_tbl) w h, (by decide +kernel : ∀ w ∈ u_ws RX1 TX1 9, goodWord w = true) w h⟩
theorem inW2 : ∀ w ∈ u_ws RX2 TX2 2, w ∈ WS := by
  intro w h
  refine List.mem_filter.mpr ⟨(by decide +kernel : ∀ w ∈ u_ws RX2 TX2 2, w ∈ lw_tbl) w h, (by decide +kernel : ∀ w ∈ u_ws RX2 TX2 2, goodWord w = true) w h⟩
theorem inW3 : ∀ w ∈ u_ws RX3 TX3 10, w ∈ WS := by
  intro w h
  refine List.mem_filter.mpr ⟨(by decide +kernel : ∀ w ∈ u_ws RX3 TX3 10, w ∈ lw_tbl) w h, (by decide +kernel : ∀ w ∈ u_ws RX3 TX3 10, goodWord w = true) w h⟩
theorem inW4 : ∀ w ∈ u_ws RX4 TX4 3, w ∈ WS := by
  intro w h
  refine List.mem_filter.mpr ⟨(by decide +kernel : ∀ w ∈ u_ws RX4 TX4 3, w ∈ lw_tbl) w h, (by decide +kernel : ∀ w ∈ u_ws RX4 TX4 3, goodWord w = true) w h⟩
theorem inW5 : ∀ w ∈ u_ws RX5 TX5 11, w ∈ WS := by
  intro w h
  refine List.mem_filter.mpr ⟨(by decide +kernel : ∀ w ∈ u_ws RX5 TX5 11, w ∈ lw_tbl) w h, (by decide +kernel : ∀ w ∈ u_ws RX5 TX5 11, goodWord w = true) w h⟩
/-- a field's link: the class's name, the pool's number, the class's place, the field's place -/
def gFL (own : String) (idx ci f : Nat) (CN : String) (T : u_T) (n : Nat) (ty : Nat → FieldType) : Prop := (∀ w ∈ u_ws CN T n, w ∈ WS) ∧ vwCl[ci]? = some (CN, T, n) ∧ f < n ∧ Cond.fieldLink own idx (T f).1 (T f).2.1 (T f).2.2.1 ∈ WS ∧ (∀ k, k < n → parseFieldDescriptor (T k).2.2.1 = some (ty k)) ∧ (∀ a, a < n → ∀ b, b < n → a ≠ b → (T a).2.1 ≠ (T b).2.1)
theorem flX0_15 : gFL RX0 15 0 1 RX0 TX0 2 tyX0 := ⟨inW0, rfl, by decide, gws 163 (by decide +kernel) (by decide +kernel), tyX0_ok, nmX0⟩
theorem flX0_9 : gFL RX0 9 0 0 RX0 TX0 2 tyX0 := ⟨inW0, rfl, by decide, gws 162 (by decide +kernel) (by decide +kernel), tyX0_ok, nmX0⟩
theorem flX1_15 : gFL RX1 15 1 1 RX1 TX1 9 tyX1 := ⟨inW1, rfl, by decide, gws 62 (by decide +kernel) (by decide +kernel), tyX1_ok, nmX1⟩
theorem flX1_18 : gFL RX1 18 1 3 RX1 TX1 9 tyX1 := ⟨inW1, rfl, by decide, gws 66 (by decide +kernel) (by decide +kernel), tyX1_ok, nmX1⟩
theorem flX1_22 : gFL RX1 22 1 7 RX1 TX1 9 tyX1 := ⟨inW1, rfl, by decide, gws 75 (by decide +kernel) (by decide +kernel), tyX1_ok, nmX1⟩
theorem flX1_32 : gFL RX1 32 1 2 RX1 TX1 9 tyX1 := ⟨inW1, rfl, by decide, gws 63 (by decide +kernel) (by decide +kernel), tyX1_ok, nmX1⟩
theorem flX1_35 : gFL RX1 35 1 4 RX1 TX1 9 tyX1 := ⟨inW1, rfl, by decide, gws 68 (by decide +kernel) (by decide +kernel), tyX1_ok, nmX1⟩
theorem flX1_38 : gFL RX1 38 1 5 RX1 TX1 9 tyX1 := ⟨inW1, rfl, by decide, gws 70 (by decide +kernel) (by decide +kernel), tyX1_ok, nmX1⟩
theorem flX1_41 : gFL RX1 41 1 6 RX1 TX1 9 tyX1 := ⟨inW1, rfl, by decide, gws 72 (by decide +kernel) (by decide +kernel), tyX1_ok, nmX1⟩
theorem flX1_44 : gFL RX1 44 1 8 RX1 TX1 9 tyX1 := ⟨inW1, rfl, by decide, gws 78 (by decide +kernel) (by decide +kernel), tyX1_ok, nmX1⟩
theorem flX1_9 : gFL RX1 9 1 0 RX1 TX1 9 tyX1 := ⟨inW1, rfl, by decide, gws 61 (by decide +kernel) (by decide +kernel), tyX1_ok, nmX1⟩
theorem flX2_11 : gFL RX2 11 2 0 RX2 TX2 2 tyX2 := ⟨inW2, rfl, by decide, gws 148 (by decide +kernel) (by decide +kernel), tyX2_ok, nmX2⟩
theorem flX2_18 : gFL RX2 18 2 1 RX2 TX2 2 tyX2 := ⟨inW2, rfl, by decide, gws 149 (by decide +kernel) (by decide +kernel), tyX2_ok, nmX2⟩
theorem flX3_11 : gFL RX3 11 3 0 RX3 TX3 10 tyX3 := ⟨inW3, rfl, by decide, gws 99 (by decide +kernel) (by decide +kernel), tyX3_ok, nmX3⟩
theorem flX3_131 : gFL RX3 131 1 6 RX1 TX1 9 tyX1 := ⟨inW1, rfl, by decide, gws 74 (by decide +kernel) (by decide +kernel), tyX1_ok, nmX1⟩
theorem flX3_146 : gFL RX3 146 1 5 RX1 TX1 9 tyX1 := ⟨inW1, rfl, by decide, gws 71 (by decide +kernel) (by decide +kernel), tyX1_ok, nmX1⟩
theorem flX3_18 : gFL RX3 18 3 2 RX3 TX3 10 tyX3 := ⟨inW3, rfl, by decide, gws 102 (by decide +kernel) (by decide +kernel), tyX3_ok, nmX3⟩
theorem flX3_22 : gFL RX3 22 3 7 RX3 TX3 10 tyX3 := ⟨inW3, rfl, by decide, gws 112 (by decide +kernel) (by decide +kernel), tyX3_ok, nmX3⟩
theorem flX3_25 : gFL RX3 25 3 9 RX3 TX3 10 tyX3 := ⟨inW3, rfl, by decide, gws 116 (by decide +kernel) (by decide +kernel), tyX3_ok, nmX3⟩
theorem flX3_32 : gFL RX3 32 3 1 RX3 TX3 10 tyX3 := ⟨inW3, rfl, by decide, gws 100 (by decide +kernel) (by decide +kernel), tyX3_ok, nmX3⟩
theorem flX3_35 : gFL RX3 35 3 3 RX3 TX3 10 tyX3 := ⟨inW3, rfl, by decide, gws 104 (by decide +kernel) (by decide +kernel), tyX3_ok, nmX3⟩
theorem flX3_38 : gFL RX3 38 3 4 RX3 TX3 10 tyX3 := ⟨inW3, rfl, by decide, gws 106 (by decide +kernel) (by decide +kernel), tyX3_ok, nmX3⟩
theorem flX3_41 : gFL RX3 41 3 5 RX3 TX3 10 tyX3 := ⟨inW3, rfl, by decide, gws 108 (by decide +kernel) (by decide +kernel), tyX3_ok, nmX3⟩
theorem flX3_44 : gFL RX3 44 3 6 RX3 TX3 10 tyX3 := ⟨inW3, rfl, by decide, gws 110 (by decide +kernel) (by decide +kernel), tyX3_ok, nmX3⟩
theorem flX3_47 : gFL RX3 47 3 8 RX3 TX3 10 tyX3 := ⟨inW3, rfl, by decide, gws 114 (by decide +kernel) (by decide +kernel), tyX3_ok, nmX3⟩
theorem flX3_56 : gFL RX3 56 1 4 RX1 TX1 9 tyX1 := ⟨inW1, rfl, by decide, gws 69 (by decide +kernel) (by decide +kernel), tyX1_ok, nmX1⟩
theorem flX3_68 : gFL RX3 68 1 2 RX1 TX1 9 tyX1 := ⟨inW1, rfl, by decide, gws 64 (by decide +kernel) (by decide +kernel), tyX1_ok, nmX1⟩
theorem flX3_85 : gFL RX3 85 1 3 RX1 TX1 9 tyX1 := ⟨inW1, rfl, by decide, gws 67 (by decide +kernel) (by decide +kernel), tyX1_ok, nmX1⟩
theorem flX3_92 : gFL RX3 92 1 7 RX1 TX1 9 tyX1 := ⟨inW1, rfl, by decide, gws 77 (by decide +kernel) (by decide +kernel), tyX1_ok, nmX1⟩
theorem flX4_10 : gFL RX4 10 4 0 RX4 TX4 3 tyX4 := ⟨inW4, rfl, by decide, gws 171 (by decide +kernel) (by decide +kernel), tyX4_ok, nmX4⟩
theorem flX4_104 : gFL RX4 104 3 9 RX3 TX3 10 tyX3 := ⟨inW3, rfl, by decide, gws 117 (by decide +kernel) (by decide +kernel), tyX3_ok, nmX3⟩
theorem flX4_153 : gFL RX4 153 2 1 RX2 TX2 2 tyX2 := ⟨inW2, rfl, by decide, gws 150 (by decide +kernel) (by decide +kernel), tyX2_ok, nmX2⟩
theorem flX4_19 : gFL RX4 19 4 1 RX4 TX4 3 tyX4 := ⟨inW4, rfl, by decide, gws 172 (by decide +kernel) (by decide +kernel), tyX4_ok, nmX4⟩
theorem flX4_208 : gFL RX4 208 0 1 RX0 TX0 2 tyX0 := ⟨inW0, rfl, by decide, gws 164 (by decide +kernel) (by decide +kernel), tyX0_ok, nmX0⟩
theorem flX4_220 : gFL RX4 220 3 1 RX3 TX3 10 tyX3 := ⟨inW3, rfl, by decide, gws 101 (by decide +kernel) (by decide +kernel), tyX3_ok, nmX3⟩
theorem flX4_223 : gFL RX4 223 3 2 RX3 TX3 10 tyX3 := ⟨inW3, rfl, by decide, gws 103 (by decide +kernel) (by decide +kernel), tyX3_ok, nmX3⟩
theorem flX4_232 : gFL RX4 232 3 3 RX3 TX3 10 tyX3 := ⟨inW3, rfl, by decide, gws 105 (by decide +kernel) (by decide +kernel), tyX3_ok, nmX3⟩
theorem flX4_235 : gFL RX4 235 3 4 RX3 TX3 10 tyX3 := ⟨inW3, rfl, by decide, gws 107 (by decide +kernel) (by decide +kernel), tyX3_ok, nmX3⟩
theorem flX4_238 : gFL RX4 238 3 5 RX3 TX3 10 tyX3 := ⟨inW3, rfl, by decide, gws 109 (by decide +kernel) (by decide +kernel), tyX3_ok, nmX3⟩
theorem flX4_241 : gFL RX4 241 3 6 RX3 TX3 10 tyX3 := ⟨inW3, rfl, by decide, gws 111 (by decide +kernel) (by decide +kernel), tyX3_ok, nmX3⟩
theorem flX4_244 : gFL RX4 244 3 7 RX3 TX3 10 tyX3 := ⟨inW3, rfl, by decide, gws 113 (by decide +kernel) (by decide +kernel), tyX3_ok, nmX3⟩
theorem flX4_247 : gFL RX4 247 3 8 RX3 TX3 10 tyX3 := ⟨inW3, rfl, by decide, gws 115 (by decide +kernel) (by decide +kernel), tyX3_ok, nmX3⟩
theorem flX4_26 : gFL RX4 26 4 2 RX4 TX4 3 tyX4 := ⟨inW4, rfl, by decide, gws 173 (by decide +kernel) (by decide +kernel), tyX4_ok, nmX4⟩
theorem flX4_281 : gFL RX4 281 1 2 RX1 TX1 9 tyX1 := ⟨inW1, rfl, by decide, gws 65 (by decide +kernel) (by decide +kernel), tyX1_ok, nmX1⟩
theorem flX4_80 : gFL RX4 80 1 7 RX1 TX1 9 tyX1 := ⟨inW1, rfl, by decide, gws 76 (by decide +kernel) (by decide +kernel), tyX1_ok, nmX1⟩
theorem flX4_90 : gFL RX4 90 1 6 RX1 TX1 9 tyX1 := ⟨inW1, rfl, by decide, gws 73 (by decide +kernel) (by decide +kernel), tyX1_ok, nmX1⟩
theorem flX5_113 : gFL RX5 113 5 5 RX5 TX5 11 tyX5 := ⟨inW5, rfl, by decide, gws 781 (by decide +kernel) (by decide +kernel), tyX5_ok, nmX5⟩
theorem flX5_116 : gFL RX5 116 5 7 RX5 TX5 11 tyX5 := ⟨inW5, rfl, by decide, gws 783 (by decide +kernel) (by decide +kernel), tyX5_ok, nmX5⟩
theorem flX5_119 : gFL RX5 119 5 8 RX5 TX5 11 tyX5 := ⟨inW5, rfl, by decide, gws 784 (by decide +kernel) (by decide +kernel), tyX5_ok, nmX5⟩
theorem flX5_13 : gFL RX5 13 5 1 RX5 TX5 11 tyX5 := ⟨inW5, rfl, by decide, gws 777 (by decide +kernel) (by decide +kernel), tyX5_ok, nmX5⟩
theorem flX5_131 : gFL RX5 131 5 10 RX5 TX5 11 tyX5 := ⟨inW5, rfl, by decide, gws 786 (by decide +kernel) (by decide +kernel), tyX5_ok, nmX5⟩
theorem flX5_16 : gFL RX5 16 5 2 RX5 TX5 11 tyX5 := ⟨inW5, rfl, by decide, gws 778 (by decide +kernel) (by decide +kernel), tyX5_ok, nmX5⟩
theorem flX5_19 : gFL RX5 19 5 4 RX5 TX5 11 tyX5 := ⟨inW5, rfl, by decide, gws 780 (by decide +kernel) (by decide +kernel), tyX5_ok, nmX5⟩
theorem flX5_22 : gFL RX5 22 5 9 RX5 TX5 11 tyX5 := ⟨inW5, rfl, by decide, gws 785 (by decide +kernel) (by decide +kernel), tyX5_ok, nmX5⟩
theorem flX5_25 : gFL RX5 25 5 6 RX5 TX5 11 tyX5 := ⟨inW5, rfl, by decide, gws 782 (by decide +kernel) (by decide +kernel), tyX5_ok, nmX5⟩
theorem flX5_37 : gFL RX5 37 5 3 RX5 TX5 11 tyX5 := ⟨inW5, rfl, by decide, gws 779 (by decide +kernel) (by decide +kernel), tyX5_ok, nmX5⟩
theorem flX5_7 : gFL RX5 7 5 0 RX5 TX5 11 tyX5 := ⟨inW5, rfl, by decide, gws 776 (by decide +kernel) (by decide +kernel), tyX5_ok, nmX5⟩
/-- a call's words: virtual, static, of a constructor -/
def gCV (own : String) (idx : Nat) (C : String) (y : MethodName) (cc : ByteArray) (nL : Nat) (ret : Option FieldType) (np : Nat) : Prop := Cond.methodLink own idx y ∈ WS ∧ Cond.instanceMethod y ∈ WS ∧ Cond.selects C y y ∈ WS ∧ Cond.initialized C ∈ WS ∧ Cond.code y cc nL ret ∈ WS ∧ y.cls = C ∧ y.cls ≠ "java/lang/invoke/MethodHandle" ∧ y.cls ≠ "java/lang/invoke/VarHandle" ∧ (parseMethodDescriptor y.desc).map (fun d => d.parameters.length) = some np
def gCS (own : String) (idx : Nat) (y : MethodName) (cc : ByteArray) (nL : Nat) (ret : Option FieldType) (np : Nat) : Prop := Cond.methodLink own idx y ∈ WS ∧ Cond.static y ∈ WS ∧ Cond.initialized y.cls ∈ WS ∧ Cond.code y cc nL ret ∈ WS ∧ y.cls ≠ "java/lang/invoke/MethodHandle" ∧ y.cls ≠ "java/lang/invoke/VarHandle" ∧ (parseMethodDescriptor y.desc).map (fun d => d.parameters.length) = some np
def gCI (own : String) (idx : Nat) (y : MethodName) (cc : ByteArray) (nL : Nat) (np : Nat) : Prop := Cond.methodLink own idx y ∈ WS ∧ Cond.instanceMethod y ∈ WS ∧ Cond.initialized y.cls ∈ WS ∧ Cond.code y cc nL none ∈ WS ∧ y.name = "<init>" ∧ y.cls ≠ "java/lang/invoke/MethodHandle" ∧ y.cls ≠ "java/lang/invoke/VarHandle" ∧ (parseMethodDescriptor y.desc).map (fun d => d.parameters.length) = some np
theorem kcX4_init : Cond.code yX4_init cX4_init 1 none ∈ WS := gws 44 (by decide +kernel) (by decide +kernel)
theorem kcX3_init : Cond.code yX3_init cX3_init 2 none ∈ WS := gws 52 (by decide +kernel) (by decide +kernel)
theorem kcX1_init : Cond.code yX1_init cX1_init 1 none ∈ WS := gws 59 (by decide +kernel) (by decide +kernel)
theorem kcX2_init : Cond.code yX2_init cX2_init 2 none ∈ WS := gws 143 (by decide +kernel) (by decide +kernel)
theorem kcX0_init : Cond.code yX0_init cX0_init 1 none ∈ WS := gws 160 (by decide +kernel) (by decide +kernel)
theorem kcX4_clearBuffer : Cond.code yX4_clearBuffer cX4_clearBuffer 1 (some .int) ∈ WS := gws 184 (by decide +kernel) (by decide +kernel)
theorem kcX0_empty : Cond.code yX0_empty cX0_empty 2 (some .int) ∈ WS := gws 188 (by decide +kernel) (by decide +kernel)
theorem kcX4_firstError : Cond.code yX4_firstError cX4_firstError 1 (some .int) ∈ WS := gws 192 (by decide +kernel) (by decide +kernel)
theorem kcX0_errorPlace : Cond.code yX0_errorPlace cX0_errorPlace 3 (some .int) ∈ WS := gws 196 (by decide +kernel) (by decide +kernel)
theorem kcX0_codeAt : Cond.code yX0_codeAt cX0_codeAt 2 (some .int) ∈ WS := gws 200 (by decide +kernel) (by decide +kernel)
theorem kcX0_stateBehind : Cond.code yX0_stateBehind cX0_stateBehind 2 (some .int) ∈ WS := gws 203 (by decide +kernel) (by decide +kernel)
theorem kcX0_isDigit : Cond.code yX0_isDigit cX0_isDigit 3 (some .boolean) ∈ WS := gws 206 (by decide +kernel) (by decide +kernel)
theorem kcX0_stateBehindSign : Cond.code yX0_stateBehindSign cX0_stateBehindSign 1 (some .int) ∈ WS := gws 209 (by decide +kernel) (by decide +kernel)
theorem kcX4_nextForgotten : Cond.code yX4_nextForgotten cX4_nextForgotten 1 (some .int) ∈ WS := gws 213 (by decide +kernel) (by decide +kernel)
theorem kcX3_beatsToForgetting : Cond.code yX3_beatsToForgetting cX3_beatsToForgetting 4 (some .int) ∈ WS := gws 217 (by decide +kernel) (by decide +kernel)
theorem kcX3_beatsLit : Cond.code yX3_beatsLit cX3_beatsLit 3 (some .int) ∈ WS := gws 221 (by decide +kernel) (by decide +kernel)
theorem kcX3_roomAt : Cond.code yX3_roomAt cX3_roomAt 2 (some (.object "CandleRooms$Room")) ∈ WS := gws 225 (by decide +kernel) (by decide +kernel)
theorem kcJ9_floorMod_7cf53 : Cond.code yJ9_floorMod_7cf53 cJ9_floorMod_7cf53 3 (some .int) ∈ WS := gws 228 (by decide +kernel) (by decide +kernel)
theorem kcX3_isInDraught : Cond.code yX3_isInDraught cX3_isInDraught 2 (some .boolean) ∈ WS := gws 232 (by decide +kernel) (by decide +kernel)
theorem kcX3_roomsBlown : Cond.code yX3_roomsBlown cX3_roomsBlown 3 (some .int) ∈ WS := gws 236 (by decide +kernel) (by decide +kernel)
theorem kcX1_beatsUntrimmed : Cond.code yX1_beatsUntrimmed cX1_beatsUntrimmed 4 (some .int) ∈ WS := gws 240 (by decide +kernel) (by decide +kernel)
theorem kcX1_burntInBeat : Cond.code yX1_burntInBeat cX1_burntInBeat 1 (some .int) ∈ WS := gws 243 (by decide +kernel) (by decide +kernel)
theorem kcX4_asNumber : Cond.code yX4_asNumber cX4_asNumber 1 (some .int) ∈ WS := gws 246 (by decide +kernel) (by decide +kernel)
theorem kcJ9_min_7cf53 : Cond.code yJ9_min_7cf53 cJ9_min_7cf53 2 (some .int) ∈ WS := gws 249 (by decide +kernel) (by decide +kernel)
theorem kcX1_beatsToFirstForgotten : Cond.code yX1_beatsToFirstForgotten cX1_beatsToFirstForgotten 5 (some .int) ∈ WS := gws 253 (by decide +kernel) (by decide +kernel)
theorem kcJ9_max_7cf53 : Cond.code yJ9_max_7cf53 cJ9_max_7cf53 2 (some .int) ∈ WS := gws 256 (by decide +kernel) (by decide +kernel)
theorem kcX4_needy : Cond.code yX4_needy cX4_needy 1 (some .int) ∈ WS := gws 261 (by decide +kernel) (by decide +kernel)
theorem kcX3_neediest : Cond.code yX3_neediest cX3_neediest 3 (some .int) ∈ WS := gws 265 (by decide +kernel) (by decide +kernel)
theorem kcX3_isNeedier : Cond.code yX3_isNeedier cX3_isNeedier 5 (some .boolean) ∈ WS := gws 269 (by decide +kernel) (by decide +kernel)
theorem kcX4_lit : Cond.code yX4_lit cX4_lit 1 (some .double) ∈ WS := gws 273 (by decide +kernel) (by decide +kernel)
theorem kcX3_shareInLight : Cond.code yX3_shareInLight cX3_shareInLight 4 (some .double) ∈ WS := gws 277 (by decide +kernel) (by decide +kernel)
theorem kcX3_thingsInAll : Cond.code yX3_thingsInAll cX3_thingsInAll 3 (some .int) ∈ WS := gws 281 (by decide +kernel) (by decide +kernel)
theorem kcX4_digest : Cond.code yX4_digest cX4_digest 4 (some .long) ∈ WS := gws 285 (by decide +kernel) (by decide +kernel)
theorem kcX4_countNumber : Cond.code yX4_countNumber cX4_countNumber 2 (some .int) ∈ WS := gws 290 (by decide +kernel) (by decide +kernel)
theorem kcX3_candlesBurning : Cond.code yX3_candlesBurning cX3_candlesBurning 3 (some .int) ∈ WS := gws 294 (by decide +kernel) (by decide +kernel)
theorem kcX4_mix : Cond.code yX4_mix cX4_mix 4 (some .long) ∈ WS := gws 299 (by decide +kernel) (by decide +kernel)
theorem kcX4_mixRoom : Cond.code yX4_mixRoom cX4_mixRoom 8 (some .long) ∈ WS := gws 304 (by decide +kernel) (by decide +kernel)
theorem kcX1_number : Cond.code yX1_number cX1_number 2 (some .int) ∈ WS := gws 309 (by decide +kernel) (by decide +kernel)
theorem kcX1_keyAt : Cond.code yX1_keyAt cX1_keyAt 2 (some .int) ∈ WS := gws 313 (by decide +kernel) (by decide +kernel)
theorem kcX1_darkAt : Cond.code yX1_darkAt cX1_darkAt 2 (some .int) ∈ WS := gws 318 (by decide +kernel) (by decide +kernel)
theorem kcX3_candlesToLight : Cond.code yX3_candlesToLight cX3_candlesToLight 4 (some .int) ∈ WS := gws 323 (by decide +kernel) (by decide +kernel)
theorem kcX3_candlesOnWay : Cond.code yX3_candlesOnWay cX3_candlesOnWay 6 (some .int) ∈ WS := gws 328 (by decide +kernel) (by decide +kernel)
theorem kcX3_areJoined : Cond.code yX3_areJoined cX3_areJoined 3 (some .boolean) ∈ WS := gws 332 (by decide +kernel) (by decide +kernel)
theorem kcX1_beatsSaved : Cond.code yX1_beatsSaved cX1_beatsSaved 1 (some .int) ∈ WS := gws 336 (by decide +kernel) (by decide +kernel)
theorem kcX4_bitsOf : Cond.code yX4_bitsOf cX4_bitsOf 8 (some .long) ∈ WS := gws 340 (by decide +kernel) (by decide +kernel)
theorem kcX4_strike : Cond.code yX4_strike cX4_strike 2 (some .int) ∈ WS := gws 353 (by decide +kernel) (by decide +kernel)
theorem kcX4_requireRoom : Cond.code yX4_requireRoom cX4_requireRoom 1 none ∈ WS := gws 356 (by decide +kernel) (by decide +kernel)
theorem kcX4_isRoom : Cond.code yX4_isRoom cX4_isRoom 1 (some .boolean) ∈ WS := gws 359 (by decide +kernel) (by decide +kernel)
theorem kcX3_canStrike : Cond.code yX3_canStrike cX3_canStrike 2 (some .boolean) ∈ WS := gws 431 (by decide +kernel) (by decide +kernel)
theorem kcX2_push : Cond.code yX2_push cX2_push 2 none ∈ WS := gws 451 (by decide +kernel) (by decide +kernel)
theorem kcX2_dropOldest : Cond.code yX2_dropOldest cX2_dropOldest 3 none ∈ WS := gws 455 (by decide +kernel) (by decide +kernel)
theorem kcX3_copyFrom : Cond.code yX3_copyFrom cX3_copyFrom 3 none ∈ WS := gws 459 (by decide +kernel) (by decide +kernel)
theorem kcX1_copyRoom : Cond.code yX1_copyRoom cX1_copyRoom 2 none ∈ WS := gws 463 (by decide +kernel) (by decide +kernel)
theorem kcX3_kindle : Cond.code yX3_kindle cX3_kindle 3 (some .int) ∈ WS := gws 470 (by decide +kernel) (by decide +kernel)
theorem kcX4_light : Cond.code yX4_light cX4_light 3 (some .int) ∈ WS := gws 477 (by decide +kernel) (by decide +kernel)
theorem kcX3_canLight : Cond.code yX3_canLight cX3_canLight 4 (some .boolean) ∈ WS := gws 481 (by decide +kernel) (by decide +kernel)
theorem kcX4_fresh : Cond.code yX4_fresh cX4_fresh 2 (some .int) ∈ WS := gws 489 (by decide +kernel) (by decide +kernel)
theorem kcX3_hasNewCandle : Cond.code yX3_hasNewCandle cX3_hasNewCandle 1 (some .boolean) ∈ WS := gws 493 (by decide +kernel) (by decide +kernel)
theorem kcX3_putNewCandle : Cond.code yX3_putNewCandle cX3_putNewCandle 2 (some .int) ∈ WS := gws 498 (by decide +kernel) (by decide +kernel)
theorem kcX1_takeNewCandle : Cond.code yX1_takeNewCandle cX1_takeNewCandle 1 none ∈ WS := gws 502 (by decide +kernel) (by decide +kernel)
theorem kcX4_door : Cond.code yX4_door cX4_door 5 (some .int) ∈ WS := gws 509 (by decide +kernel) (by decide +kernel)
theorem kcX4_shield : Cond.code yX4_shield cX4_shield 5 (some .int) ∈ WS := gws 518 (by decide +kernel) (by decide +kernel)
theorem kcX4_draught : Cond.code yX4_draught cX4_draught 3 (some .int) ∈ WS := gws 526 (by decide +kernel) (by decide +kernel)
theorem kcX3_beginDraught : Cond.code yX3_beginDraught cX3_beginDraught 3 (some .int) ∈ WS := gws 546 (by decide +kernel) (by decide +kernel)
theorem kcX3_candlesBurningFrom : Cond.code yX3_candlesBurningFrom cX3_candlesBurningFrom 5 (some .int) ∈ WS := gws 550 (by decide +kernel) (by decide +kernel)
theorem kcX4_set : Cond.code yX4_set cX4_set 3 (some .int) ∈ WS := gws 557 (by decide +kernel) (by decide +kernel)
theorem kcX4_keep : Cond.code yX4_keep cX4_keep 3 (some .int) ∈ WS := gws 565 (by decide +kernel) (by decide +kernel)
theorem kcX4_requireKey : Cond.code yX4_requireKey cX4_requireKey 1 none ∈ WS := gws 568 (by decide +kernel) (by decide +kernel)
theorem kcX3_canKeep : Cond.code yX3_canKeep cX3_canKeep 3 (some .boolean) ∈ WS := gws 573 (by decide +kernel) (by decide +kernel)
theorem kcX3_roomOf : Cond.code yX3_roomOf cX3_roomOf 3 (some .int) ∈ WS := gws 577 (by decide +kernel) (by decide +kernel)
theorem kcX1_placeOf : Cond.code yX1_placeOf cX1_placeOf 3 (some .int) ∈ WS := gws 581 (by decide +kernel) (by decide +kernel)
theorem kcX3_putThing : Cond.code yX3_putThing cX3_putThing 4 (some .int) ∈ WS := gws 586 (by decide +kernel) (by decide +kernel)
theorem kcX1_addThing : Cond.code yX1_addThing cX1_addThing 2 none ∈ WS := gws 590 (by decide +kernel) (by decide +kernel)
theorem kcX4_read : Cond.code yX4_read cX4_read 2 (some .int) ∈ WS := gws 597 (by decide +kernel) (by decide +kernel)
theorem kcX3_readThing : Cond.code yX3_readThing cX3_readThing 4 (some .int) ∈ WS := gws 601 (by decide +kernel) (by decide +kernel)
theorem kcX3_passBeats : Cond.code yX3_passBeats cX3_passBeats 4 (some .int) ∈ WS := gws 605 (by decide +kernel) (by decide +kernel)
theorem kcX3_passBeat : Cond.code yX3_passBeat cX3_passBeat 3 (some .int) ∈ WS := gws 609 (by decide +kernel) (by decide +kernel)
theorem kcX1_burnForBeat : Cond.code yX1_burnForBeat cX1_burnForBeat 1 none ∈ WS := gws 613 (by decide +kernel) (by decide +kernel)
theorem kcX3_blow : Cond.code yX3_blow cX3_blow 3 none ∈ WS := gws 617 (by decide +kernel) (by decide +kernel)
theorem kcX1_ageThings : Cond.code yX1_ageThings cX1_ageThings 5 (some .int) ∈ WS := gws 621 (by decide +kernel) (by decide +kernel)
theorem kcX4_pass : Cond.code yX4_pass cX4_pass 2 (some .int) ∈ WS := gws 628 (by decide +kernel) (by decide +kernel)
theorem kcX4_append : Cond.code yX4_append cX4_append 2 (some .int) ∈ WS := gws 637 (by decide +kernel) (by decide +kernel)
theorem kcX0_isFull : Cond.code yX0_isFull cX0_isFull 1 (some .boolean) ∈ WS := gws 642 (by decide +kernel) (by decide +kernel)
theorem kcX0_add : Cond.code yX0_add cX0_add 2 (some .int) ∈ WS := gws 647 (by decide +kernel) (by decide +kernel)
theorem kcX4_play : Cond.code yX4_play cX4_play 2 (some .int) ∈ WS := gws 655 (by decide +kernel) (by decide +kernel)
theorem kcX0_isComplete : Cond.code yX0_isComplete cX0_isComplete 3 (some .boolean) ∈ WS := gws 659 (by decide +kernel) (by decide +kernel)
theorem kcX4_playDeeds : Cond.code yX4_playDeeds cX4_playDeeds 3 (some .int) ∈ WS := gws 664 (by decide +kernel) (by decide +kernel)
theorem kcX0_startsPart : Cond.code yX0_startsPart cX0_startsPart 2 (some .boolean) ∈ WS := gws 668 (by decide +kernel) (by decide +kernel)
theorem kcX4_playDeed : Cond.code yX4_playDeed cX4_playDeed 4 (some .boolean) ∈ WS := gws 672 (by decide +kernel) (by decide +kernel)
theorem kcX0_digitAt : Cond.code yX0_digitAt cX0_digitAt 3 (some .int) ∈ WS := gws 676 (by decide +kernel) (by decide +kernel)
theorem kcX0_numberFrom : Cond.code yX0_numberFrom cX0_numberFrom 4 (some .int) ∈ WS := gws 680 (by decide +kernel) (by decide +kernel)
theorem kcX3_strikeIfPossible : Cond.code yX3_strikeIfPossible cX3_strikeIfPossible 2 (some .boolean) ∈ WS := gws 686 (by decide +kernel) (by decide +kernel)
theorem kcX3_lightIfPossible : Cond.code yX3_lightIfPossible cX3_lightIfPossible 3 (some .boolean) ∈ WS := gws 693 (by decide +kernel) (by decide +kernel)
theorem kcX3_renewIfPossible : Cond.code yX3_renewIfPossible cX3_renewIfPossible 2 (some .boolean) ∈ WS := gws 698 (by decide +kernel) (by decide +kernel)
theorem kcX3_keepIfPossible : Cond.code yX3_keepIfPossible cX3_keepIfPossible 3 (some .boolean) ∈ WS := gws 704 (by decide +kernel) (by decide +kernel)
theorem kcX4_undo : Cond.code yX4_undo cX4_undo 1 (some .int) ∈ WS := gws 713 (by decide +kernel) (by decide +kernel)
theorem kcX2_popInto : Cond.code yX2_popInto cX2_popInto 2 (some .int) ∈ WS := gws 718 (by decide +kernel) (by decide +kernel)
theorem kcX4_room : Cond.code yX4_room cX4_room 3 (some .int) ∈ WS := gws 725 (by decide +kernel) (by decide +kernel)
theorem kcX4_requireNumber : Cond.code yX4_requireNumber cX4_requireNumber 2 none ∈ WS := gws 728 (by decide +kernel) (by decide +kernel)
theorem kcX4_thing : Cond.code yX4_thing cX4_thing 3 (some .int) ∈ WS := gws 736 (by decide +kernel) (by decide +kernel)
theorem kcX3_thingNumber : Cond.code yX3_thingNumber cX3_thingNumber 6 (some .int) ∈ WS := gws 740 (by decide +kernel) (by decide +kernel)
theorem kcX4_count : Cond.code yX4_count cX4_count 2 (some .int) ∈ WS := gws 748 (by decide +kernel) (by decide +kernel)
theorem kcX4_lasts : Cond.code yX4_lasts cX4_lasts 2 (some .int) ∈ WS := gws 755 (by decide +kernel) (by decide +kernel)
theorem kcX4_carried : Cond.code yX4_carried cX4_carried 2 (some .int) ∈ WS := gws 762 (by decide +kernel) (by decide +kernel)
theorem kcX4_saves : Cond.code yX4_saves cX4_saves 2 (some .int) ∈ WS := gws 769 (by decide +kernel) (by decide +kernel)
theorem kcX5_init : Cond.code yX5_init cX5_init 2 none ∈ WS := gws 774 (by decide +kernel) (by decide +kernel)
theorem kcX5_thrown : Cond.code yX5_thrown cX5_thrown 1 (some .int) ∈ WS := gws 813 (by decide +kernel) (by decide +kernel)
theorem kcX5_undo : Cond.code yX5_undo cX5_undo 1 (some .int) ∈ WS := gws 817 (by decide +kernel) (by decide +kernel)
theorem kcX5_fails : Cond.code yX5_fails cX5_fails 2 (some .int) ∈ WS := gws 821 (by decide +kernel) (by decide +kernel)
theorem kcX5_copies : Cond.code yX5_copies cX5_copies 5 none ∈ WS := gws 824 (by decide +kernel) (by decide +kernel)
theorem kcX5_strike : Cond.code yX5_strike cX5_strike 2 (some .int) ∈ WS := gws 828 (by decide +kernel) (by decide +kernel)
theorem kcX5_isRoom : Cond.code yX5_isRoom cX5_isRoom 1 (some .boolean) ∈ WS := gws 831 (by decide +kernel) (by decide +kernel)
theorem kcX5_in : Cond.code yX5_in cX5_in 3 (some .boolean) ∈ WS := gws 834 (by decide +kernel) (by decide +kernel)
theorem kcX5_mayStrike : Cond.code yX5_mayStrike cX5_mayStrike 2 (some .boolean) ∈ WS := gws 837 (by decide +kernel) (by decide +kernel)
theorem kcX5_burning : Cond.code yX5_burning cX5_burning 3 (some .int) ∈ WS := gws 840 (by decide +kernel) (by decide +kernel)
theorem kcX5_of : Cond.code yX5_of cX5_of 3 (some .int) ∈ WS := gws 843 (by decide +kernel) (by decide +kernel)
theorem kcX5_keepsState : Cond.code yX5_keepsState cX5_keepsState 2 none ∈ WS := gws 847 (by decide +kernel) (by decide +kernel)
theorem kcX5_lights : Cond.code yX5_lights cX5_lights 2 none ∈ WS := gws 850 (by decide +kernel) (by decide +kernel)
theorem kcX5_light : Cond.code yX5_light cX5_light 3 (some .int) ∈ WS := gws 854 (by decide +kernel) (by decide +kernel)
theorem kcX5_mayLight : Cond.code yX5_mayLight cX5_mayLight 3 (some .boolean) ∈ WS := gws 857 (by decide +kernel) (by decide +kernel)
theorem kcX5_isLit : Cond.code yX5_isLit cX5_isLit 2 (some .boolean) ∈ WS := gws 860 (by decide +kernel) (by decide +kernel)
theorem kcX5_isOpen : Cond.code yX5_isOpen cX5_isOpen 3 (some .boolean) ∈ WS := gws 863 (by decide +kernel) (by decide +kernel)
theorem kcX5_fresh : Cond.code yX5_fresh cX5_fresh 2 (some .int) ∈ WS := gws 867 (by decide +kernel) (by decide +kernel)
theorem kcX5_renews : Cond.code yX5_renews cX5_renews 2 none ∈ WS := gws 870 (by decide +kernel) (by decide +kernel)
theorem kcX5_door : Cond.code yX5_door cX5_door 3 (some .int) ∈ WS := gws 874 (by decide +kernel) (by decide +kernel)
theorem kcX5_switches : Cond.code yX5_switches cX5_switches 5 (some .int) ∈ WS := gws 878 (by decide +kernel) (by decide +kernel)
theorem kcX5_shield : Cond.code yX5_shield cX5_shield 3 (some .int) ∈ WS := gws 882 (by decide +kernel) (by decide +kernel)
theorem kcX5_draught : Cond.code yX5_draught cX5_draught 3 (some .int) ∈ WS := gws 886 (by decide +kernel) (by decide +kernel)
theorem kcX5_blows : Cond.code yX5_blows cX5_blows 5 (some .int) ∈ WS := gws 889 (by decide +kernel) (by decide +kernel)
theorem kcX5_reaches : Cond.code yX5_reaches cX5_reaches 5 (some .int) ∈ WS := gws 892 (by decide +kernel) (by decide +kernel)
theorem kcX5_set : Cond.code yX5_set cX5_set 3 (some .int) ∈ WS := gws 896 (by decide +kernel) (by decide +kernel)
theorem kcX5_keep : Cond.code yX5_keep cX5_keep 3 (some .int) ∈ WS := gws 900 (by decide +kernel) (by decide +kernel)
theorem kcX5_mayKeep : Cond.code yX5_mayKeep cX5_mayKeep 3 (some .boolean) ∈ WS := gws 903 (by decide +kernel) (by decide +kernel)
theorem kcX5_find : Cond.code yX5_find cX5_find 3 (some .int) ∈ WS := gws 906 (by decide +kernel) (by decide +kernel)
theorem kcX5_keeps : Cond.code yX5_keeps cX5_keeps 4 (some .int) ∈ WS := gws 909 (by decide +kernel) (by decide +kernel)
theorem kcX5_read : Cond.code yX5_read cX5_read 5 (some .int) ∈ WS := gws 913 (by decide +kernel) (by decide +kernel)
theorem kcX5_beats : Cond.code yX5_beats cX5_beats 4 none ∈ WS := gws 916 (by decide +kernel) (by decide +kernel)
theorem kcX5_burns : Cond.code yX5_burns cX5_burns 4 none ∈ WS := gws 919 (by decide +kernel) (by decide +kernel)
theorem kcX5_draws : Cond.code yX5_draws cX5_draws 3 none ∈ WS := gws 922 (by decide +kernel) (by decide +kernel)
theorem kcX5_ages : Cond.code yX5_ages cX5_ages 6 none ∈ WS := gws 925 (by decide +kernel) (by decide +kernel)
theorem kcX5_pass : Cond.code yX5_pass cX5_pass 3 (some .int) ∈ WS := gws 929 (by decide +kernel) (by decide +kernel)
theorem kcX5_append : Cond.code yX5_append cX5_append 2 (some .int) ∈ WS := gws 933 (by decide +kernel) (by decide +kernel)
theorem kcX5_clearBuffer : Cond.code yX5_clearBuffer cX5_clearBuffer 2 (some .int) ∈ WS := gws 937 (by decide +kernel) (by decide +kernel)
theorem kcX5_firstError : Cond.code yX5_firstError cX5_firstError 2 (some .int) ∈ WS := gws 941 (by decide +kernel) (by decide +kernel)
theorem kcX5_isText : Cond.code yX5_isText cX5_isText 2 (some .boolean) ∈ WS := gws 945 (by decide +kernel) (by decide +kernel)
theorem kcX5_isPart : Cond.code yX5_isPart cX5_isPart 2 (some .boolean) ∈ WS := gws 949 (by decide +kernel) (by decide +kernel)
theorem kcX5_isAt : Cond.code yX5_isAt cX5_isAt 3 (some .boolean) ∈ WS := gws 953 (by decide +kernel) (by decide +kernel)
theorem kcX5_stops : Cond.code yX5_stops cX5_stops 1 (some .boolean) ∈ WS := gws 957 (by decide +kernel) (by decide +kernel)
theorem kcX5_isNumber : Cond.code yX5_isNumber cX5_isNumber 5 (some .boolean) ∈ WS := gws 961 (by decide +kernel) (by decide +kernel)
theorem kcX5_play : Cond.code yX5_play cX5_play 2 (some .int) ∈ WS := gws 965 (by decide +kernel) (by decide +kernel)
theorem kcX5_does : Cond.code yX5_does cX5_does 8 (some .boolean) ∈ WS := gws 969 (by decide +kernel) (by decide +kernel)
theorem kcX5_room : Cond.code yX5_room cX5_room 3 (some .int) ∈ WS := gws 973 (by decide +kernel) (by decide +kernel)
theorem kcX5_ofRoom : Cond.code yX5_ofRoom cX5_ofRoom 3 (some .int) ∈ WS := gws 977 (by decide +kernel) (by decide +kernel)
theorem kcX5_thing : Cond.code yX5_thing cX5_thing 4 (some .int) ∈ WS := gws 981 (by decide +kernel) (by decide +kernel)
theorem kcX5_count : Cond.code yX5_count cX5_count 2 (some .int) ∈ WS := gws 985 (by decide +kernel) (by decide +kernel)
theorem kcX5_counted : Cond.code yX5_counted cX5_counted 2 (some .int) ∈ WS := gws 989 (by decide +kernel) (by decide +kernel)
theorem kcX5_things : Cond.code yX5_things cX5_things 3 (some .int) ∈ WS := gws 993 (by decide +kernel) (by decide +kernel)
theorem kcX5_lasts : Cond.code yX5_lasts cX5_lasts 2 (some .int) ∈ WS := gws 997 (by decide +kernel) (by decide +kernel)
theorem kcX5_stays : Cond.code yX5_stays cX5_stays 3 (some .int) ∈ WS := gws 1001 (by decide +kernel) (by decide +kernel)
theorem kcX5_nextForgotten : Cond.code yX5_nextForgotten cX5_nextForgotten 1 (some .int) ∈ WS := gws 1005 (by decide +kernel) (by decide +kernel)
theorem kcX5_firstForgotten : Cond.code yX5_firstForgotten cX5_firstForgotten 2 (some .int) ∈ WS := gws 1009 (by decide +kernel) (by decide +kernel)
theorem kcX5_carried : Cond.code yX5_carried cX5_carried 2 (some .int) ∈ WS := gws 1013 (by decide +kernel) (by decide +kernel)
theorem kcX5_fewest : Cond.code yX5_fewest cX5_fewest 4 (some .int) ∈ WS := gws 1017 (by decide +kernel) (by decide +kernel)
theorem kcX5_way : Cond.code yX5_way cX5_way 6 (some .int) ∈ WS := gws 1021 (by decide +kernel) (by decide +kernel)
theorem kcX5_needy : Cond.code yX5_needy cX5_needy 1 (some .int) ∈ WS := gws 1025 (by decide +kernel) (by decide +kernel)
theorem kcX5_neediest : Cond.code yX5_neediest cX5_neediest 4 (some .int) ∈ WS := gws 1029 (by decide +kernel) (by decide +kernel)
theorem kcX5_saves : Cond.code yX5_saves cX5_saves 2 (some .int) ∈ WS := gws 1033 (by decide +kernel) (by decide +kernel)
theorem kcX5_saved : Cond.code yX5_saved cX5_saved 3 (some .int) ∈ WS := gws 1037 (by decide +kernel) (by decide +kernel)
theorem kcX5_lit : Cond.code yX5_lit cX5_lit 1 (some .double) ∈ WS := gws 1041 (by decide +kernel) (by decide +kernel)
theorem kcX5_share : Cond.code yX5_share cX5_share 3 (some .double) ∈ WS := gws 1045 (by decide +kernel) (by decide +kernel)
theorem kcX5_digest : Cond.code yX5_digest cX5_digest 5 (some .long) ∈ WS := gws 1049 (by decide +kernel) (by decide +kernel)
theorem kcJxe99ae_doubleToLongBits_ccdee : Cond.code yJxe99ae_doubleToLongBits_ccdee cJxe99ae_doubleToLongBits_ccdee 2 (some .long) ∈ WS := gws 1054 (by decide +kernel) (by decide +kernel)
theorem kcJxe99ae_isNaN_b9ae7 : Cond.code yJxe99ae_isNaN_b9ae7 cJxe99ae_isNaN_b9ae7 2 (some .boolean) ∈ WS := gws 1057 (by decide +kernel) (by decide +kernel)
theorem cwX0_19 : gCV RX0 19 RX0 yX0_isFull cX0_isFull 1 (some .boolean) 0 := ⟨gws 648 (by decide +kernel) (by decide +kernel), gws 640 (by decide +kernel) (by decide +kernel), gws 641 (by decide +kernel) (by decide +kernel), gws 29 (by decide +kernel) (by decide +kernel), kcX0_isFull, rfl, by decide +kernel, by decide +kernel, by decide +kernel⟩
theorem cwX0_23 : gCV RX0 23 RX0 yX0_codeAt cX0_codeAt 2 (some .int) 1 := ⟨gws 197 (by decide +kernel) (by decide +kernel), gws 198 (by decide +kernel) (by decide +kernel), gws 199 (by decide +kernel) (by decide +kernel), gws 29 (by decide +kernel) (by decide +kernel), kcX0_codeAt, rfl, by decide +kernel, by decide +kernel, by decide +kernel⟩
theorem cwX0_27 : gCS RX0 27 yX0_isDigit cX0_isDigit 3 (some .boolean) 3 := ⟨gws 204 (by decide +kernel) (by decide +kernel), gws 205 (by decide +kernel) (by decide +kernel), gws 29 (by decide +kernel) (by decide +kernel), kcX0_isDigit, by decide +kernel, by decide +kernel, by decide +kernel⟩
theorem cwX0_31 : gCV RX0 31 RX0 yX0_digitAt cX0_digitAt 3 (some .int) 1 := ⟨gws 681 (by decide +kernel) (by decide +kernel), gws 674 (by decide +kernel) (by decide +kernel), gws 675 (by decide +kernel) (by decide +kernel), gws 29 (by decide +kernel) (by decide +kernel), kcX0_digitAt, rfl, by decide +kernel, by decide +kernel, by decide +kernel⟩
theorem cwX0_34 : gCS RX0 34 yJ9_max_7cf53 cJ9_max_7cf53 2 (some .int) 2 := ⟨gws 682 (by decide +kernel) (by decide +kernel), gws 255 (by decide +kernel) (by decide +kernel), gws 35 (by decide +kernel) (by decide +kernel), kcJ9_max_7cf53, by decide +kernel, by decide +kernel, by decide +kernel⟩
theorem cwX0_40 : gCS RX0 40 yX0_stateBehind cX0_stateBehind 2 (some .int) 2 := ⟨gws 201 (by decide +kernel) (by decide +kernel), gws 202 (by decide +kernel) (by decide +kernel), gws 29 (by decide +kernel) (by decide +kernel), kcX0_stateBehind, by decide +kernel, by decide +kernel, by decide +kernel⟩
theorem cwX0_43 : gCS RX0 43 yX0_stateBehindSign cX0_stateBehindSign 1 (some .int) 1 := ⟨gws 207 (by decide +kernel) (by decide +kernel), gws 208 (by decide +kernel) (by decide +kernel), gws 29 (by decide +kernel) (by decide +kernel), kcX0_stateBehindSign, by decide +kernel, by decide +kernel, by decide +kernel⟩
theorem cwX1_51 : gCV RX1 51 RX1 yX1_keyAt cX1_keyAt 2 (some .int) 1 := ⟨gws 310 (by decide +kernel) (by decide +kernel), gws 311 (by decide +kernel) (by decide +kernel), gws 312 (by decide +kernel) (by decide +kernel), gws 27 (by decide +kernel) (by decide +kernel), kcX1_keyAt, rfl, by decide +kernel, by decide +kernel, by decide +kernel⟩
theorem cwX1_55 : gCS RX1 55 yX1_burntInBeat cX1_burntInBeat 1 (some .int) 1 := ⟨gws 241 (by decide +kernel) (by decide +kernel), gws 242 (by decide +kernel) (by decide +kernel), gws 27 (by decide +kernel) (by decide +kernel), kcX1_burntInBeat, by decide +kernel, by decide +kernel, by decide +kernel⟩
theorem cwX1_58 : gCS RX1 58 yJ9_max_7cf53 cJ9_max_7cf53 2 (some .int) 2 := ⟨gws 254 (by decide +kernel) (by decide +kernel), gws 255 (by decide +kernel) (by decide +kernel), gws 35 (by decide +kernel) (by decide +kernel), kcJ9_max_7cf53, by decide +kernel, by decide +kernel, by decide +kernel⟩
theorem cwX1_64 : gCS RX1 64 yJ9_min_7cf53 cJ9_min_7cf53 2 (some .int) 2 := ⟨gws 247 (by decide +kernel) (by decide +kernel), gws 248 (by decide +kernel) (by decide +kernel), gws 35 (by decide +kernel) (by decide +kernel), kcJ9_min_7cf53, by decide +kernel, by decide +kernel, by decide +kernel⟩
theorem cwX1_67 : gCV RX1 67 RX1 yX1_beatsUntrimmed cX1_beatsUntrimmed 4 (some .int) 0 := ⟨gws 337 (by decide +kernel) (by decide +kernel), gws 238 (by decide +kernel) (by decide +kernel), gws 239 (by decide +kernel) (by decide +kernel), gws 27 (by decide +kernel) (by decide +kernel), kcX1_beatsUntrimmed, rfl, by decide +kernel, by decide +kernel, by decide +kernel⟩
theorem cwX2_17 : gCI RX2 17 yX3_init cX3_init 2 0 := ⟨gws 147 (by decide +kernel) (by decide +kernel), gws 51 (by decide +kernel) (by decide +kernel), gws 26 (by decide +kernel) (by decide +kernel), kcX3_init, rfl, by decide +kernel, by decide +kernel, by decide +kernel⟩
theorem cwX2_22 : gCV RX2 22 RX2 yX2_dropOldest cX2_dropOldest 3 none 0 := ⟨gws 452 (by decide +kernel) (by decide +kernel), gws 453 (by decide +kernel) (by decide +kernel), gws 454 (by decide +kernel) (by decide +kernel), gws 28 (by decide +kernel) (by decide +kernel), kcX2_dropOldest, rfl, by decide +kernel, by decide +kernel, by decide +kernel⟩
theorem cwX2_25 : gCV RX2 25 RX3 yX3_copyFrom cX3_copyFrom 3 none 1 := ⟨gws 456 (by decide +kernel) (by decide +kernel), gws 457 (by decide +kernel) (by decide +kernel), gws 458 (by decide +kernel) (by decide +kernel), gws 26 (by decide +kernel) (by decide +kernel), kcX3_copyFrom, rfl, by decide +kernel, by decide +kernel, by decide +kernel⟩
theorem cwX3_102 : gCV RX3 102 RX3 yX3_canLight cX3_canLight 4 (some .boolean) 2 := ⟨gws 694 (by decide +kernel) (by decide +kernel), gws 479 (by decide +kernel) (by decide +kernel), gws 480 (by decide +kernel) (by decide +kernel), gws 26 (by decide +kernel) (by decide +kernel), kcX3_canLight, rfl, by decide +kernel, by decide +kernel, by decide +kernel⟩
theorem cwX3_105 : gCV RX3 105 RX1 yX1_takeNewCandle cX1_takeNewCandle 1 none 0 := ⟨gws 499 (by decide +kernel) (by decide +kernel), gws 500 (by decide +kernel) (by decide +kernel), gws 501 (by decide +kernel) (by decide +kernel), gws 27 (by decide +kernel) (by decide +kernel), kcX1_takeNewCandle, rfl, by decide +kernel, by decide +kernel, by decide +kernel⟩
theorem cwX3_108 : gCV RX3 108 RX3 yX3_hasNewCandle cX3_hasNewCandle 1 (some .boolean) 0 := ⟨gws 699 (by decide +kernel) (by decide +kernel), gws 491 (by decide +kernel) (by decide +kernel), gws 492 (by decide +kernel) (by decide +kernel), gws 26 (by decide +kernel) (by decide +kernel), kcX3_hasNewCandle, rfl, by decide +kernel, by decide +kernel, by decide +kernel⟩
theorem cwX3_112 : gCV RX3 112 RX3 yX3_putNewCandle cX3_putNewCandle 2 (some .int) 1 := ⟨gws 700 (by decide +kernel) (by decide +kernel), gws 496 (by decide +kernel) (by decide +kernel), gws 497 (by decide +kernel) (by decide +kernel), gws 26 (by decide +kernel) (by decide +kernel), kcX3_putNewCandle, rfl, by decide +kernel, by decide +kernel, by decide +kernel⟩
theorem cwX3_115 : gCV RX3 115 RX1 yX1_addThing cX1_addThing 2 none 1 := ⟨gws 587 (by decide +kernel) (by decide +kernel), gws 588 (by decide +kernel) (by decide +kernel), gws 589 (by decide +kernel) (by decide +kernel), gws 27 (by decide +kernel) (by decide +kernel), kcX1_addThing, rfl, by decide +kernel, by decide +kernel, by decide +kernel⟩
theorem cwX3_119 : gCV RX3 119 RX3 yX3_canKeep cX3_canKeep 3 (some .boolean) 2 := ⟨gws 705 (by decide +kernel) (by decide +kernel), gws 571 (by decide +kernel) (by decide +kernel), gws 572 (by decide +kernel) (by decide +kernel), gws 26 (by decide +kernel) (by decide +kernel), kcX3_canKeep, rfl, by decide +kernel, by decide +kernel, by decide +kernel⟩
theorem cwX3_122 : gCV RX3 122 RX3 yX3_putThing cX3_putThing 4 (some .int) 2 := ⟨gws 706 (by decide +kernel) (by decide +kernel), gws 584 (by decide +kernel) (by decide +kernel), gws 585 (by decide +kernel) (by decide +kernel), gws 26 (by decide +kernel) (by decide +kernel), kcX3_putThing, rfl, by decide +kernel, by decide +kernel, by decide +kernel⟩
theorem cwX3_125 : gCV RX3 125 RX3 yX3_roomsBlown cX3_roomsBlown 3 (some .int) 0 := ⟨gws 233 (by decide +kernel) (by decide +kernel), gws 234 (by decide +kernel) (by decide +kernel), gws 235 (by decide +kernel) (by decide +kernel), gws 26 (by decide +kernel) (by decide +kernel), kcX3_roomsBlown, rfl, by decide +kernel, by decide +kernel, by decide +kernel⟩
theorem cwX3_128 : gCV RX3 128 RX3 yX3_candlesBurningFrom cX3_candlesBurningFrom 5 (some .int) 2 := ⟨gws 547 (by decide +kernel) (by decide +kernel), gws 548 (by decide +kernel) (by decide +kernel), gws 549 (by decide +kernel) (by decide +kernel), gws 26 (by decide +kernel) (by decide +kernel), kcX3_candlesBurningFrom, rfl, by decide +kernel, by decide +kernel, by decide +kernel⟩
theorem cwX3_134 : gCV RX3 134 RX3 yX3_passBeat cX3_passBeat 3 (some .int) 0 := ⟨gws 606 (by decide +kernel) (by decide +kernel), gws 607 (by decide +kernel) (by decide +kernel), gws 608 (by decide +kernel) (by decide +kernel), gws 26 (by decide +kernel) (by decide +kernel), kcX3_passBeat, rfl, by decide +kernel, by decide +kernel, by decide +kernel⟩
theorem cwX3_137 : gCV RX3 137 RX1 yX1_burnForBeat cX1_burnForBeat 1 none 0 := ⟨gws 610 (by decide +kernel) (by decide +kernel), gws 611 (by decide +kernel) (by decide +kernel), gws 612 (by decide +kernel) (by decide +kernel), gws 27 (by decide +kernel) (by decide +kernel), kcX1_burnForBeat, rfl, by decide +kernel, by decide +kernel, by decide +kernel⟩
theorem cwX3_140 : gCV RX3 140 RX3 yX3_blow cX3_blow 3 none 0 := ⟨gws 614 (by decide +kernel) (by decide +kernel), gws 615 (by decide +kernel) (by decide +kernel), gws 616 (by decide +kernel) (by decide +kernel), gws 26 (by decide +kernel) (by decide +kernel), kcX3_blow, rfl, by decide +kernel, by decide +kernel, by decide +kernel⟩
theorem cwX3_143 : gCV RX3 143 RX1 yX1_ageThings cX1_ageThings 5 (some .int) 1 := ⟨gws 618 (by decide +kernel) (by decide +kernel), gws 619 (by decide +kernel) (by decide +kernel), gws 620 (by decide +kernel) (by decide +kernel), gws 27 (by decide +kernel) (by decide +kernel), kcX1_ageThings, rfl, by decide +kernel, by decide +kernel, by decide +kernel⟩
theorem cwX3_149 : gCV RX3 149 RX3 yX3_passBeats cX3_passBeats 4 (some .int) 1 := ⟨gws 602 (by decide +kernel) (by decide +kernel), gws 603 (by decide +kernel) (by decide +kernel), gws 604 (by decide +kernel) (by decide +kernel), gws 26 (by decide +kernel) (by decide +kernel), kcX3_passBeats, rfl, by decide +kernel, by decide +kernel, by decide +kernel⟩
theorem cwX3_152 : gCV RX3 152 RX3 yX3_isInDraught cX3_isInDraught 2 (some .boolean) 1 := ⟨gws 229 (by decide +kernel) (by decide +kernel), gws 230 (by decide +kernel) (by decide +kernel), gws 231 (by decide +kernel) (by decide +kernel), gws 26 (by decide +kernel) (by decide +kernel), kcX3_isInDraught, rfl, by decide +kernel, by decide +kernel, by decide +kernel⟩
theorem cwX3_155 : gCV RX3 155 RX1 yX1_beatsUntrimmed cX1_beatsUntrimmed 4 (some .int) 0 := ⟨gws 237 (by decide +kernel) (by decide +kernel), gws 238 (by decide +kernel) (by decide +kernel), gws 239 (by decide +kernel) (by decide +kernel), gws 27 (by decide +kernel) (by decide +kernel), kcX1_beatsUntrimmed, rfl, by decide +kernel, by decide +kernel, by decide +kernel⟩
theorem cwX3_158 : gCV RX3 158 RX3 yX3_beatsLit cX3_beatsLit 3 (some .int) 1 := ⟨gws 218 (by decide +kernel) (by decide +kernel), gws 219 (by decide +kernel) (by decide +kernel), gws 220 (by decide +kernel) (by decide +kernel), gws 26 (by decide +kernel) (by decide +kernel), kcX3_beatsLit, rfl, by decide +kernel, by decide +kernel, by decide +kernel⟩
theorem cwX3_161 : gCV RX3 161 RX1 yX1_beatsToFirstForgotten cX1_beatsToFirstForgotten 5 (some .int) 2 := ⟨gws 250 (by decide +kernel) (by decide +kernel), gws 251 (by decide +kernel) (by decide +kernel), gws 252 (by decide +kernel) (by decide +kernel), gws 27 (by decide +kernel) (by decide +kernel), kcX1_beatsToFirstForgotten, rfl, by decide +kernel, by decide +kernel, by decide +kernel⟩
theorem cwX3_164 : gCS RX3 164 yJ9_min_7cf53 cJ9_min_7cf53 2 (some .int) 2 := ⟨gws 257 (by decide +kernel) (by decide +kernel), gws 248 (by decide +kernel) (by decide +kernel), gws 35 (by decide +kernel) (by decide +kernel), kcJ9_min_7cf53, by decide +kernel, by decide +kernel, by decide +kernel⟩
theorem cwX3_167 : gCV RX3 167 RX3 yX3_candlesOnWay cX3_candlesOnWay 6 (some .int) 2 := ⟨gws 325 (by decide +kernel) (by decide +kernel), gws 326 (by decide +kernel) (by decide +kernel), gws 327 (by decide +kernel) (by decide +kernel), gws 26 (by decide +kernel) (by decide +kernel), kcX3_candlesOnWay, rfl, by decide +kernel, by decide +kernel, by decide +kernel⟩
theorem cwX3_17 : gCI RX3 17 yX1_init cX1_init 1 0 := ⟨gws 57 (by decide +kernel) (by decide +kernel), gws 58 (by decide +kernel) (by decide +kernel), gws 27 (by decide +kernel) (by decide +kernel), kcX1_init, rfl, by decide +kernel, by decide +kernel, by decide +kernel⟩
theorem cwX3_170 : gCV RX3 170 RX3 yX3_isNeedier cX3_isNeedier 5 (some .boolean) 2 := ⟨gws 266 (by decide +kernel) (by decide +kernel), gws 267 (by decide +kernel) (by decide +kernel), gws 268 (by decide +kernel) (by decide +kernel), gws 26 (by decide +kernel) (by decide +kernel), kcX3_isNeedier, rfl, by decide +kernel, by decide +kernel, by decide +kernel⟩
theorem cwX3_173 : gCV RX3 173 RX3 yX3_thingsInAll cX3_thingsInAll 3 (some .int) 0 := ⟨gws 278 (by decide +kernel) (by decide +kernel), gws 279 (by decide +kernel) (by decide +kernel), gws 280 (by decide +kernel) (by decide +kernel), gws 26 (by decide +kernel) (by decide +kernel), kcX3_thingsInAll, rfl, by decide +kernel, by decide +kernel, by decide +kernel⟩
theorem cwX3_28 : gCV RX3 28 RX1 yX1_copyRoom cX1_copyRoom 2 none 1 := ⟨gws 460 (by decide +kernel) (by decide +kernel), gws 461 (by decide +kernel) (by decide +kernel), gws 462 (by decide +kernel) (by decide +kernel), gws 27 (by decide +kernel) (by decide +kernel), kcX1_copyRoom, rfl, by decide +kernel, by decide +kernel, by decide +kernel⟩
theorem cwX3_50 : gCS RX3 50 yJ9_floorMod_7cf53 cJ9_floorMod_7cf53 3 (some .int) 2 := ⟨gws 226 (by decide +kernel) (by decide +kernel), gws 227 (by decide +kernel) (by decide +kernel), gws 35 (by decide +kernel) (by decide +kernel), kcJ9_floorMod_7cf53, by decide +kernel, by decide +kernel, by decide +kernel⟩
theorem cwX3_64 : gCV RX3 64 RX3 yX3_roomAt cX3_roomAt 2 (some (.object "CandleRooms$Room")) 1 := ⟨gws 222 (by decide +kernel) (by decide +kernel), gws 223 (by decide +kernel) (by decide +kernel), gws 224 (by decide +kernel) (by decide +kernel), gws 26 (by decide +kernel) (by decide +kernel), kcX3_roomAt, rfl, by decide +kernel, by decide +kernel, by decide +kernel⟩
theorem cwX3_71 : gCV RX3 71 RX1 yX1_placeOf cX1_placeOf 3 (some .int) 1 := ⟨gws 578 (by decide +kernel) (by decide +kernel), gws 579 (by decide +kernel) (by decide +kernel), gws 580 (by decide +kernel) (by decide +kernel), gws 27 (by decide +kernel) (by decide +kernel), kcX1_placeOf, rfl, by decide +kernel, by decide +kernel, by decide +kernel⟩
theorem cwX3_75 : gCV RX3 75 RX3 yX3_roomOf cX3_roomOf 3 (some .int) 1 := ⟨gws 574 (by decide +kernel) (by decide +kernel), gws 575 (by decide +kernel) (by decide +kernel), gws 576 (by decide +kernel) (by decide +kernel), gws 26 (by decide +kernel) (by decide +kernel), kcX3_roomOf, rfl, by decide +kernel, by decide +kernel, by decide +kernel⟩
theorem cwX3_78 : gCV RX3 78 RX1 yX1_darkAt cX1_darkAt 2 (some .int) 1 := ⟨gws 741 (by decide +kernel) (by decide +kernel), gws 316 (by decide +kernel) (by decide +kernel), gws 317 (by decide +kernel) (by decide +kernel), gws 27 (by decide +kernel) (by decide +kernel), kcX1_darkAt, rfl, by decide +kernel, by decide +kernel, by decide +kernel⟩
theorem cwX3_81 : gCV RX3 81 RX3 yX3_candlesBurning cX3_candlesBurning 3 (some .int) 0 := ⟨gws 324 (by decide +kernel) (by decide +kernel), gws 292 (by decide +kernel) (by decide +kernel), gws 293 (by decide +kernel) (by decide +kernel), gws 26 (by decide +kernel) (by decide +kernel), kcX3_candlesBurning, rfl, by decide +kernel, by decide +kernel, by decide +kernel⟩
theorem cwX3_88 : gCV RX3 88 RX3 yX3_areJoined cX3_areJoined 3 (some .boolean) 2 := ⟨gws 329 (by decide +kernel) (by decide +kernel), gws 330 (by decide +kernel) (by decide +kernel), gws 331 (by decide +kernel) (by decide +kernel), gws 26 (by decide +kernel) (by decide +kernel), kcX3_areJoined, rfl, by decide +kernel, by decide +kernel, by decide +kernel⟩
theorem cwX3_95 : gCV RX3 95 RX3 yX3_canStrike cX3_canStrike 2 (some .boolean) 1 := ⟨gws 687 (by decide +kernel) (by decide +kernel), gws 429 (by decide +kernel) (by decide +kernel), gws 430 (by decide +kernel) (by decide +kernel), gws 26 (by decide +kernel) (by decide +kernel), kcX3_canStrike, rfl, by decide +kernel, by decide +kernel, by decide +kernel⟩
theorem cwX3_99 : gCV RX3 99 RX3 yX3_kindle cX3_kindle 3 (some .int) 1 := ⟨gws 688 (by decide +kernel) (by decide +kernel), gws 468 (by decide +kernel) (by decide +kernel), gws 469 (by decide +kernel) (by decide +kernel), gws 26 (by decide +kernel) (by decide +kernel), kcX3_kindle, rfl, by decide +kernel, by decide +kernel, by decide +kernel⟩
theorem cwX4_108 : gCS RX4 108 yX4_requireKey cX4_requireKey 1 none 1 := ⟨gws 566 (by decide +kernel) (by decide +kernel), gws 567 (by decide +kernel) (by decide +kernel), gws 25 (by decide +kernel) (by decide +kernel), kcX4_requireKey, by decide +kernel, by decide +kernel, by decide +kernel⟩
theorem cwX4_111 : gCV RX4 111 RX3 yX3_canKeep cX3_canKeep 3 (some .boolean) 2 := ⟨gws 570 (by decide +kernel) (by decide +kernel), gws 571 (by decide +kernel) (by decide +kernel), gws 572 (by decide +kernel) (by decide +kernel), gws 26 (by decide +kernel) (by decide +kernel), kcX3_canKeep, rfl, by decide +kernel, by decide +kernel, by decide +kernel⟩
theorem cwX4_116 : gCV RX4 116 RX3 yX3_putThing cX3_putThing 4 (some .int) 2 := ⟨gws 583 (by decide +kernel) (by decide +kernel), gws 584 (by decide +kernel) (by decide +kernel), gws 585 (by decide +kernel) (by decide +kernel), gws 26 (by decide +kernel) (by decide +kernel), kcX3_putThing, rfl, by decide +kernel, by decide +kernel, by decide +kernel⟩
theorem cwX4_119 : gCV RX4 119 RX3 yX3_readThing cX3_readThing 4 (some .int) 1 := ⟨gws 598 (by decide +kernel) (by decide +kernel), gws 599 (by decide +kernel) (by decide +kernel), gws 600 (by decide +kernel) (by decide +kernel), gws 26 (by decide +kernel) (by decide +kernel), kcX3_readThing, rfl, by decide +kernel, by decide +kernel, by decide +kernel⟩
theorem cwX4_124 : gCV RX4 124 RX3 yX3_passBeats cX3_passBeats 4 (some .int) 1 := ⟨gws 630 (by decide +kernel) (by decide +kernel), gws 603 (by decide +kernel) (by decide +kernel), gws 604 (by decide +kernel) (by decide +kernel), gws 26 (by decide +kernel) (by decide +kernel), kcX3_passBeats, rfl, by decide +kernel, by decide +kernel, by decide +kernel⟩
theorem cwX4_129 : gCV RX4 129 RX0 yX0_isFull cX0_isFull 1 (some .boolean) 0 := ⟨gws 639 (by decide +kernel) (by decide +kernel), gws 640 (by decide +kernel) (by decide +kernel), gws 641 (by decide +kernel) (by decide +kernel), gws 29 (by decide +kernel) (by decide +kernel), kcX0_isFull, rfl, by decide +kernel, by decide +kernel, by decide +kernel⟩
theorem cwX4_134 : gCV RX4 134 RX0 yX0_add cX0_add 2 (some .int) 1 := ⟨gws 644 (by decide +kernel) (by decide +kernel), gws 645 (by decide +kernel) (by decide +kernel), gws 646 (by decide +kernel) (by decide +kernel), gws 29 (by decide +kernel) (by decide +kernel), kcX0_add, rfl, by decide +kernel, by decide +kernel, by decide +kernel⟩
theorem cwX4_138 : gCV RX4 138 RX0 yX0_empty cX0_empty 2 (some .int) 0 := ⟨gws 185 (by decide +kernel) (by decide +kernel), gws 186 (by decide +kernel) (by decide +kernel), gws 187 (by decide +kernel) (by decide +kernel), gws 29 (by decide +kernel) (by decide +kernel), kcX0_empty, rfl, by decide +kernel, by decide +kernel, by decide +kernel⟩
theorem cwX4_142 : gCV RX4 142 RX0 yX0_errorPlace cX0_errorPlace 3 (some .int) 0 := ⟨gws 193 (by decide +kernel) (by decide +kernel), gws 194 (by decide +kernel) (by decide +kernel), gws 195 (by decide +kernel) (by decide +kernel), gws 29 (by decide +kernel) (by decide +kernel), kcX0_errorPlace, rfl, by decide +kernel, by decide +kernel, by decide +kernel⟩
theorem cwX4_145 : gCV RX4 145 RX0 yX0_isComplete cX0_isComplete 3 (some .boolean) 0 := ⟨gws 656 (by decide +kernel) (by decide +kernel), gws 657 (by decide +kernel) (by decide +kernel), gws 658 (by decide +kernel) (by decide +kernel), gws 29 (by decide +kernel) (by decide +kernel), kcX0_isComplete, rfl, by decide +kernel, by decide +kernel, by decide +kernel⟩
theorem cwX4_150 : gCV RX4 150 RX4 yX4_playDeeds cX4_playDeeds 3 (some .int) 0 := ⟨gws 661 (by decide +kernel) (by decide +kernel), gws 663 (by decide +kernel) (by decide +kernel), gws 3 (by decide +kernel) (by decide +kernel), gws 25 (by decide +kernel) (by decide +kernel), kcX4_playDeeds, rfl, by decide +kernel, by decide +kernel, by decide +kernel⟩
theorem cwX4_158 : gCV RX4 158 RX2 yX2_popInto cX2_popInto 2 (some .int) 1 := ⟨gws 715 (by decide +kernel) (by decide +kernel), gws 716 (by decide +kernel) (by decide +kernel), gws 717 (by decide +kernel) (by decide +kernel), gws 28 (by decide +kernel) (by decide +kernel), kcX2_popInto, rfl, by decide +kernel, by decide +kernel, by decide +kernel⟩
theorem cwX4_162 : gCS RX4 162 yX4_requireNumber cX4_requireNumber 2 none 2 := ⟨gws 726 (by decide +kernel) (by decide +kernel), gws 727 (by decide +kernel) (by decide +kernel), gws 25 (by decide +kernel) (by decide +kernel), kcX4_requireNumber, by decide +kernel, by decide +kernel, by decide +kernel⟩
theorem cwX4_166 : gCV RX4 166 RX1 yX1_number cX1_number 2 (some .int) 1 := ⟨gws 306 (by decide +kernel) (by decide +kernel), gws 307 (by decide +kernel) (by decide +kernel), gws 308 (by decide +kernel) (by decide +kernel), gws 27 (by decide +kernel) (by decide +kernel), kcX1_number, rfl, by decide +kernel, by decide +kernel, by decide +kernel⟩
theorem cwX4_169 : gCV RX4 169 RX3 yX3_thingNumber cX3_thingNumber 6 (some .int) 2 := ⟨gws 737 (by decide +kernel) (by decide +kernel), gws 738 (by decide +kernel) (by decide +kernel), gws 739 (by decide +kernel) (by decide +kernel), gws 26 (by decide +kernel) (by decide +kernel), kcX3_thingNumber, rfl, by decide +kernel, by decide +kernel, by decide +kernel⟩
theorem cwX4_172 : gCV RX4 172 RX4 yX4_countNumber cX4_countNumber 2 (some .int) 1 := ⟨gws 287 (by decide +kernel) (by decide +kernel), gws 289 (by decide +kernel) (by decide +kernel), gws 0 (by decide +kernel) (by decide +kernel), gws 25 (by decide +kernel) (by decide +kernel), kcX4_countNumber, rfl, by decide +kernel, by decide +kernel, by decide +kernel⟩
theorem cwX4_175 : gCV RX4 175 RX3 yX3_beatsLit cX3_beatsLit 3 (some .int) 1 := ⟨gws 319 (by decide +kernel) (by decide +kernel), gws 219 (by decide +kernel) (by decide +kernel), gws 220 (by decide +kernel) (by decide +kernel), gws 26 (by decide +kernel) (by decide +kernel), kcX3_beatsLit, rfl, by decide +kernel, by decide +kernel, by decide +kernel⟩
theorem cwX4_178 : gCV RX4 178 RX3 yX3_beatsToForgetting cX3_beatsToForgetting 4 (some .int) 0 := ⟨gws 214 (by decide +kernel) (by decide +kernel), gws 215 (by decide +kernel) (by decide +kernel), gws 216 (by decide +kernel) (by decide +kernel), gws 26 (by decide +kernel) (by decide +kernel), kcX3_beatsToForgetting, rfl, by decide +kernel, by decide +kernel, by decide +kernel⟩
theorem cwX4_18 : gCI RX4 18 yX2_init cX2_init 2 0 := ⟨gws 141 (by decide +kernel) (by decide +kernel), gws 142 (by decide +kernel) (by decide +kernel), gws 28 (by decide +kernel) (by decide +kernel), kcX2_init, rfl, by decide +kernel, by decide +kernel, by decide +kernel⟩
theorem cwX4_181 : gCV RX4 181 RX3 yX3_candlesToLight cX3_candlesToLight 4 (some .int) 1 := ⟨gws 320 (by decide +kernel) (by decide +kernel), gws 321 (by decide +kernel) (by decide +kernel), gws 322 (by decide +kernel) (by decide +kernel), gws 26 (by decide +kernel) (by decide +kernel), kcX3_candlesToLight, rfl, by decide +kernel, by decide +kernel, by decide +kernel⟩
theorem cwX4_184 : gCV RX4 184 RX3 yX3_neediest cX3_neediest 3 (some .int) 0 := ⟨gws 262 (by decide +kernel) (by decide +kernel), gws 263 (by decide +kernel) (by decide +kernel), gws 264 (by decide +kernel) (by decide +kernel), gws 26 (by decide +kernel) (by decide +kernel), kcX3_neediest, rfl, by decide +kernel, by decide +kernel, by decide +kernel⟩
theorem cwX4_187 : gCV RX4 187 RX1 yX1_beatsSaved cX1_beatsSaved 1 (some .int) 0 := ⟨gws 333 (by decide +kernel) (by decide +kernel), gws 334 (by decide +kernel) (by decide +kernel), gws 335 (by decide +kernel) (by decide +kernel), gws 27 (by decide +kernel) (by decide +kernel), kcX1_beatsSaved, rfl, by decide +kernel, by decide +kernel, by decide +kernel⟩
theorem cwX4_190 : gCV RX4 190 RX3 yX3_shareInLight cX3_shareInLight 4 (some .double) 0 := ⟨gws 274 (by decide +kernel) (by decide +kernel), gws 275 (by decide +kernel) (by decide +kernel), gws 276 (by decide +kernel) (by decide +kernel), gws 26 (by decide +kernel) (by decide +kernel), kcX3_shareInLight, rfl, by decide +kernel, by decide +kernel, by decide +kernel⟩
theorem cwX4_196 : gCS RX4 196 yX4_mix cX4_mix 4 (some .long) 2 := ⟨gws 297 (by decide +kernel) (by decide +kernel), gws 298 (by decide +kernel) (by decide +kernel), gws 25 (by decide +kernel) (by decide +kernel), kcX4_mix, by decide +kernel, by decide +kernel, by decide +kernel⟩
theorem cwX4_200 : gCV RX4 200 RX4 yX4_mixRoom cX4_mixRoom 8 (some .long) 2 := ⟨gws 301 (by decide +kernel) (by decide +kernel), gws 303 (by decide +kernel) (by decide +kernel), gws 1 (by decide +kernel) (by decide +kernel), gws 25 (by decide +kernel) (by decide +kernel), kcX4_mixRoom, rfl, by decide +kernel, by decide +kernel, by decide +kernel⟩
theorem cwX4_204 : gCS RX4 204 yX4_bitsOf cX4_bitsOf 8 (some .long) 1 := ⟨gws 338 (by decide +kernel) (by decide +kernel), gws 339 (by decide +kernel) (by decide +kernel), gws 25 (by decide +kernel) (by decide +kernel), kcX4_bitsOf, by decide +kernel, by decide +kernel, by decide +kernel⟩
theorem cwX4_211 : gCV RX4 211 RX0 yX0_codeAt cX0_codeAt 2 (some .int) 1 := ⟨gws 344 (by decide +kernel) (by decide +kernel), gws 198 (by decide +kernel) (by decide +kernel), gws 199 (by decide +kernel) (by decide +kernel), gws 29 (by decide +kernel) (by decide +kernel), kcX0_codeAt, rfl, by decide +kernel, by decide +kernel, by decide +kernel⟩
theorem cwX4_226 : gCV RX4 226 RX3 yX3_candlesBurning cX3_candlesBurning 3 (some .int) 0 := ⟨gws 291 (by decide +kernel) (by decide +kernel), gws 292 (by decide +kernel) (by decide +kernel), gws 293 (by decide +kernel) (by decide +kernel), gws 26 (by decide +kernel) (by decide +kernel), kcX3_candlesBurning, rfl, by decide +kernel, by decide +kernel, by decide +kernel⟩
theorem cwX4_229 : gCV RX4 229 RX3 yX3_thingsInAll cX3_thingsInAll 3 (some .int) 0 := ⟨gws 296 (by decide +kernel) (by decide +kernel), gws 279 (by decide +kernel) (by decide +kernel), gws 280 (by decide +kernel) (by decide +kernel), gws 26 (by decide +kernel) (by decide +kernel), kcX3_thingsInAll, rfl, by decide +kernel, by decide +kernel, by decide +kernel⟩
theorem cwX4_25 : gCI RX4 25 yX0_init cX0_init 1 0 := ⟨gws 158 (by decide +kernel) (by decide +kernel), gws 159 (by decide +kernel) (by decide +kernel), gws 29 (by decide +kernel) (by decide +kernel), kcX0_init, rfl, by decide +kernel, by decide +kernel, by decide +kernel⟩
theorem cwX4_250 : gCV RX4 250 RX0 yX0_startsPart cX0_startsPart 2 (some .boolean) 1 := ⟨gws 665 (by decide +kernel) (by decide +kernel), gws 666 (by decide +kernel) (by decide +kernel), gws 667 (by decide +kernel) (by decide +kernel), gws 29 (by decide +kernel) (by decide +kernel), kcX0_startsPart, rfl, by decide +kernel, by decide +kernel, by decide +kernel⟩
theorem cwX4_253 : gCV RX4 253 RX4 yX4_playDeed cX4_playDeed 4 (some .boolean) 1 := ⟨gws 669 (by decide +kernel) (by decide +kernel), gws 671 (by decide +kernel) (by decide +kernel), gws 4 (by decide +kernel) (by decide +kernel), gws 25 (by decide +kernel) (by decide +kernel), kcX4_playDeed, rfl, by decide +kernel, by decide +kernel, by decide +kernel⟩
theorem cwX4_256 : gCV RX4 256 RX0 yX0_digitAt cX0_digitAt 3 (some .int) 1 := ⟨gws 673 (by decide +kernel) (by decide +kernel), gws 674 (by decide +kernel) (by decide +kernel), gws 675 (by decide +kernel) (by decide +kernel), gws 29 (by decide +kernel) (by decide +kernel), kcX0_digitAt, rfl, by decide +kernel, by decide +kernel, by decide +kernel⟩
theorem cwX4_259 : gCV RX4 259 RX0 yX0_numberFrom cX0_numberFrom 4 (some .int) 1 := ⟨gws 677 (by decide +kernel) (by decide +kernel), gws 678 (by decide +kernel) (by decide +kernel), gws 679 (by decide +kernel) (by decide +kernel), gws 29 (by decide +kernel) (by decide +kernel), kcX0_numberFrom, rfl, by decide +kernel, by decide +kernel, by decide +kernel⟩
theorem cwX4_262 : gCV RX4 262 RX3 yX3_strikeIfPossible cX3_strikeIfPossible 2 (some .boolean) 1 := ⟨gws 683 (by decide +kernel) (by decide +kernel), gws 684 (by decide +kernel) (by decide +kernel), gws 685 (by decide +kernel) (by decide +kernel), gws 26 (by decide +kernel) (by decide +kernel), kcX3_strikeIfPossible, rfl, by decide +kernel, by decide +kernel, by decide +kernel⟩
theorem cwX4_265 : gCS RX4 265 yJ9_floorMod_7cf53 cJ9_floorMod_7cf53 3 (some .int) 2 := ⟨gws 689 (by decide +kernel) (by decide +kernel), gws 227 (by decide +kernel) (by decide +kernel), gws 35 (by decide +kernel) (by decide +kernel), kcJ9_floorMod_7cf53, by decide +kernel, by decide +kernel, by decide +kernel⟩
theorem cwX4_270 : gCV RX4 270 RX3 yX3_lightIfPossible cX3_lightIfPossible 3 (some .boolean) 2 := ⟨gws 690 (by decide +kernel) (by decide +kernel), gws 691 (by decide +kernel) (by decide +kernel), gws 692 (by decide +kernel) (by decide +kernel), gws 26 (by decide +kernel) (by decide +kernel), kcX3_lightIfPossible, rfl, by decide +kernel, by decide +kernel, by decide +kernel⟩
theorem cwX4_273 : gCV RX4 273 RX3 yX3_renewIfPossible cX3_renewIfPossible 2 (some .boolean) 1 := ⟨gws 695 (by decide +kernel) (by decide +kernel), gws 696 (by decide +kernel) (by decide +kernel), gws 697 (by decide +kernel) (by decide +kernel), gws 26 (by decide +kernel) (by decide +kernel), kcX3_renewIfPossible, rfl, by decide +kernel, by decide +kernel, by decide +kernel⟩
theorem cwX4_276 : gCV RX4 276 RX3 yX3_keepIfPossible cX3_keepIfPossible 3 (some .boolean) 2 := ⟨gws 701 (by decide +kernel) (by decide +kernel), gws 702 (by decide +kernel) (by decide +kernel), gws 703 (by decide +kernel) (by decide +kernel), gws 26 (by decide +kernel) (by decide +kernel), kcX3_keepIfPossible, rfl, by decide +kernel, by decide +kernel, by decide +kernel⟩
theorem cwX4_284 : gCV RX4 284 RX1 yX1_keyAt cX1_keyAt 2 (some .int) 1 := ⟨gws 314 (by decide +kernel) (by decide +kernel), gws 311 (by decide +kernel) (by decide +kernel), gws 312 (by decide +kernel) (by decide +kernel), gws 27 (by decide +kernel) (by decide +kernel), kcX1_keyAt, rfl, by decide +kernel, by decide +kernel, by decide +kernel⟩
theorem cwX4_287 : gCV RX4 287 RX1 yX1_darkAt cX1_darkAt 2 (some .int) 1 := ⟨gws 315 (by decide +kernel) (by decide +kernel), gws 316 (by decide +kernel) (by decide +kernel), gws 317 (by decide +kernel) (by decide +kernel), gws 27 (by decide +kernel) (by decide +kernel), kcX1_darkAt, rfl, by decide +kernel, by decide +kernel, by decide +kernel⟩
theorem cwX4_30 : gCS RX4 30 yX4_requireRoom cX4_requireRoom 1 none 1 := ⟨gws 354 (by decide +kernel) (by decide +kernel), gws 355 (by decide +kernel) (by decide +kernel), gws 25 (by decide +kernel) (by decide +kernel), kcX4_requireRoom, by decide +kernel, by decide +kernel, by decide +kernel⟩
theorem cwX4_34 : gCV RX4 34 RX3 yX3_canStrike cX3_canStrike 2 (some .boolean) 1 := ⟨gws 428 (by decide +kernel) (by decide +kernel), gws 429 (by decide +kernel) (by decide +kernel), gws 430 (by decide +kernel) (by decide +kernel), gws 26 (by decide +kernel) (by decide +kernel), kcX3_canStrike, rfl, by decide +kernel, by decide +kernel, by decide +kernel⟩
theorem cwX4_45 : gCV RX4 45 RX2 yX2_push cX2_push 2 none 1 := ⟨gws 448 (by decide +kernel) (by decide +kernel), gws 449 (by decide +kernel) (by decide +kernel), gws 450 (by decide +kernel) (by decide +kernel), gws 28 (by decide +kernel) (by decide +kernel), kcX2_push, rfl, by decide +kernel, by decide +kernel, by decide +kernel⟩
theorem cwX4_49 : gCV RX4 49 RX3 yX3_kindle cX3_kindle 3 (some .int) 1 := ⟨gws 467 (by decide +kernel) (by decide +kernel), gws 468 (by decide +kernel) (by decide +kernel), gws 469 (by decide +kernel) (by decide +kernel), gws 26 (by decide +kernel) (by decide +kernel), kcX3_kindle, rfl, by decide +kernel, by decide +kernel, by decide +kernel⟩
theorem cwX4_53 : gCV RX4 53 RX3 yX3_canLight cX3_canLight 4 (some .boolean) 2 := ⟨gws 478 (by decide +kernel) (by decide +kernel), gws 479 (by decide +kernel) (by decide +kernel), gws 480 (by decide +kernel) (by decide +kernel), gws 26 (by decide +kernel) (by decide +kernel), kcX3_canLight, rfl, by decide +kernel, by decide +kernel, by decide +kernel⟩
theorem cwX4_59 : gCV RX4 59 RX3 yX3_hasNewCandle cX3_hasNewCandle 1 (some .boolean) 0 := ⟨gws 490 (by decide +kernel) (by decide +kernel), gws 491 (by decide +kernel) (by decide +kernel), gws 492 (by decide +kernel) (by decide +kernel), gws 26 (by decide +kernel) (by decide +kernel), kcX3_hasNewCandle, rfl, by decide +kernel, by decide +kernel, by decide +kernel⟩
theorem cwX4_65 : gCV RX4 65 RX3 yX3_putNewCandle cX3_putNewCandle 2 (some .int) 1 := ⟨gws 495 (by decide +kernel) (by decide +kernel), gws 496 (by decide +kernel) (by decide +kernel), gws 497 (by decide +kernel) (by decide +kernel), gws 26 (by decide +kernel) (by decide +kernel), kcX3_putNewCandle, rfl, by decide +kernel, by decide +kernel, by decide +kernel⟩
theorem cwX4_68 : gCS RX4 68 yX4_isRoom cX4_isRoom 1 (some .boolean) 1 := ⟨gws 357 (by decide +kernel) (by decide +kernel), gws 358 (by decide +kernel) (by decide +kernel), gws 25 (by decide +kernel) (by decide +kernel), kcX4_isRoom, by decide +kernel, by decide +kernel, by decide +kernel⟩
theorem cwX4_76 : gCV RX4 76 RX3 yX3_roomAt cX3_roomAt 2 (some (.object "CandleRooms$Room")) 1 := ⟨gws 305 (by decide +kernel) (by decide +kernel), gws 223 (by decide +kernel) (by decide +kernel), gws 224 (by decide +kernel) (by decide +kernel), gws 26 (by decide +kernel) (by decide +kernel), kcX3_roomAt, rfl, by decide +kernel, by decide +kernel, by decide +kernel⟩
theorem cwX4_86 : gCS RX4 86 yX4_asNumber cX4_asNumber 1 (some .int) 1 := ⟨gws 511 (by decide +kernel) (by decide +kernel), gws 245 (by decide +kernel) (by decide +kernel), gws 25 (by decide +kernel) (by decide +kernel), kcX4_asNumber, by decide +kernel, by decide +kernel, by decide +kernel⟩
theorem cwX4_9 : gCI RX4 9 yX3_init cX3_init 2 0 := ⟨gws 50 (by decide +kernel) (by decide +kernel), gws 51 (by decide +kernel) (by decide +kernel), gws 26 (by decide +kernel) (by decide +kernel), kcX3_init, rfl, by decide +kernel, by decide +kernel, by decide +kernel⟩
theorem cwX4_98 : gCV RX4 98 RX3 yX3_beginDraught cX3_beginDraught 3 (some .int) 2 := ⟨gws 543 (by decide +kernel) (by decide +kernel), gws 544 (by decide +kernel) (by decide +kernel), gws 545 (by decide +kernel) (by decide +kernel), gws 26 (by decide +kernel) (by decide +kernel), kcX3_beginDraught, rfl, by decide +kernel, by decide +kernel, by decide +kernel⟩
theorem cwL_102 : gCV RL 102 RX5 yX5_shield cX5_shield 3 (some .int) 2 := ⟨gws 879 (by decide +kernel) (by decide +kernel), gws 880 (by decide +kernel) (by decide +kernel), gws 881 (by decide +kernel) (by decide +kernel), gws 30 (by decide +kernel) (by decide +kernel), kcX5_shield, rfl, by decide +kernel, by decide +kernel, by decide +kernel⟩
theorem cwL_105 : gCV RL 105 RX5 yX5_draught cX5_draught 3 (some .int) 2 := ⟨gws 883 (by decide +kernel) (by decide +kernel), gws 884 (by decide +kernel) (by decide +kernel), gws 885 (by decide +kernel) (by decide +kernel), gws 30 (by decide +kernel) (by decide +kernel), kcX5_draught, rfl, by decide +kernel, by decide +kernel, by decide +kernel⟩
theorem cwL_108 : gCV RL 108 RX5 yX5_set cX5_set 3 (some .int) 1 := ⟨gws 893 (by decide +kernel) (by decide +kernel), gws 894 (by decide +kernel) (by decide +kernel), gws 895 (by decide +kernel) (by decide +kernel), gws 30 (by decide +kernel) (by decide +kernel), kcX5_set, rfl, by decide +kernel, by decide +kernel, by decide +kernel⟩
theorem cwL_111 : gCV RL 111 RX5 yX5_keep cX5_keep 3 (some .int) 2 := ⟨gws 897 (by decide +kernel) (by decide +kernel), gws 898 (by decide +kernel) (by decide +kernel), gws 899 (by decide +kernel) (by decide +kernel), gws 30 (by decide +kernel) (by decide +kernel), kcX5_keep, rfl, by decide +kernel, by decide +kernel, by decide +kernel⟩
theorem cwL_114 : gCV RL 114 RX5 yX5_read cX5_read 5 (some .int) 1 := ⟨gws 910 (by decide +kernel) (by decide +kernel), gws 911 (by decide +kernel) (by decide +kernel), gws 912 (by decide +kernel) (by decide +kernel), gws 30 (by decide +kernel) (by decide +kernel), kcX5_read, rfl, by decide +kernel, by decide +kernel, by decide +kernel⟩
theorem cwL_117 : gCV RL 117 RX5 yX5_pass cX5_pass 3 (some .int) 1 := ⟨gws 926 (by decide +kernel) (by decide +kernel), gws 927 (by decide +kernel) (by decide +kernel), gws 928 (by decide +kernel) (by decide +kernel), gws 30 (by decide +kernel) (by decide +kernel), kcX5_pass, rfl, by decide +kernel, by decide +kernel, by decide +kernel⟩
theorem cwL_120 : gCV RL 120 RX5 yX5_append cX5_append 2 (some .int) 1 := ⟨gws 930 (by decide +kernel) (by decide +kernel), gws 931 (by decide +kernel) (by decide +kernel), gws 932 (by decide +kernel) (by decide +kernel), gws 30 (by decide +kernel) (by decide +kernel), kcX5_append, rfl, by decide +kernel, by decide +kernel, by decide +kernel⟩
theorem cwL_121 : gCV RL 121 RX4 yX4_clearBuffer cX4_clearBuffer 1 (some .int) 0 := ⟨gws 181 (by decide +kernel) (by decide +kernel), gws 182 (by decide +kernel) (by decide +kernel), gws 183 (by decide +kernel) (by decide +kernel), gws 25 (by decide +kernel) (by decide +kernel), kcX4_clearBuffer, rfl, by decide +kernel, by decide +kernel, by decide +kernel⟩
theorem cwL_124 : gCV RL 124 RX5 yX5_clearBuffer cX5_clearBuffer 2 (some .int) 0 := ⟨gws 934 (by decide +kernel) (by decide +kernel), gws 935 (by decide +kernel) (by decide +kernel), gws 936 (by decide +kernel) (by decide +kernel), gws 30 (by decide +kernel) (by decide +kernel), kcX5_clearBuffer, rfl, by decide +kernel, by decide +kernel, by decide +kernel⟩
theorem cwL_125 : gCV RL 125 RX4 yX4_firstError cX4_firstError 1 (some .int) 0 := ⟨gws 189 (by decide +kernel) (by decide +kernel), gws 190 (by decide +kernel) (by decide +kernel), gws 191 (by decide +kernel) (by decide +kernel), gws 25 (by decide +kernel) (by decide +kernel), kcX4_firstError, rfl, by decide +kernel, by decide +kernel, by decide +kernel⟩
theorem cwL_128 : gCV RL 128 RX5 yX5_firstError cX5_firstError 2 (some .int) 0 := ⟨gws 938 (by decide +kernel) (by decide +kernel), gws 939 (by decide +kernel) (by decide +kernel), gws 940 (by decide +kernel) (by decide +kernel), gws 30 (by decide +kernel) (by decide +kernel), kcX5_firstError, rfl, by decide +kernel, by decide +kernel, by decide +kernel⟩
theorem cwL_132 : gCV RL 132 RX5 yX5_play cX5_play 2 (some .int) 0 := ⟨gws 962 (by decide +kernel) (by decide +kernel), gws 963 (by decide +kernel) (by decide +kernel), gws 964 (by decide +kernel) (by decide +kernel), gws 30 (by decide +kernel) (by decide +kernel), kcX5_play, rfl, by decide +kernel, by decide +kernel, by decide +kernel⟩
theorem cwL_135 : gCV RL 135 RX5 yX5_undo cX5_undo 1 (some .int) 0 := ⟨gws 814 (by decide +kernel) (by decide +kernel), gws 815 (by decide +kernel) (by decide +kernel), gws 816 (by decide +kernel) (by decide +kernel), gws 30 (by decide +kernel) (by decide +kernel), kcX5_undo, rfl, by decide +kernel, by decide +kernel, by decide +kernel⟩
theorem cwL_138 : gCV RL 138 RX5 yX5_room cX5_room 3 (some .int) 2 := ⟨gws 970 (by decide +kernel) (by decide +kernel), gws 971 (by decide +kernel) (by decide +kernel), gws 972 (by decide +kernel) (by decide +kernel), gws 30 (by decide +kernel) (by decide +kernel), kcX5_room, rfl, by decide +kernel, by decide +kernel, by decide +kernel⟩
theorem cwL_141 : gCV RL 141 RX5 yX5_thing cX5_thing 4 (some .int) 2 := ⟨gws 978 (by decide +kernel) (by decide +kernel), gws 979 (by decide +kernel) (by decide +kernel), gws 980 (by decide +kernel) (by decide +kernel), gws 30 (by decide +kernel) (by decide +kernel), kcX5_thing, rfl, by decide +kernel, by decide +kernel, by decide +kernel⟩
theorem cwL_144 : gCV RL 144 RX5 yX5_count cX5_count 2 (some .int) 1 := ⟨gws 982 (by decide +kernel) (by decide +kernel), gws 983 (by decide +kernel) (by decide +kernel), gws 984 (by decide +kernel) (by decide +kernel), gws 30 (by decide +kernel) (by decide +kernel), kcX5_count, rfl, by decide +kernel, by decide +kernel, by decide +kernel⟩
theorem cwL_147 : gCV RL 147 RX5 yX5_lasts cX5_lasts 2 (some .int) 1 := ⟨gws 994 (by decide +kernel) (by decide +kernel), gws 995 (by decide +kernel) (by decide +kernel), gws 996 (by decide +kernel) (by decide +kernel), gws 30 (by decide +kernel) (by decide +kernel), kcX5_lasts, rfl, by decide +kernel, by decide +kernel, by decide +kernel⟩
theorem cwL_148 : gCV RL 148 RX4 yX4_nextForgotten cX4_nextForgotten 1 (some .int) 0 := ⟨gws 210 (by decide +kernel) (by decide +kernel), gws 211 (by decide +kernel) (by decide +kernel), gws 212 (by decide +kernel) (by decide +kernel), gws 25 (by decide +kernel) (by decide +kernel), kcX4_nextForgotten, rfl, by decide +kernel, by decide +kernel, by decide +kernel⟩
theorem cwL_151 : gCV RL 151 RX5 yX5_nextForgotten cX5_nextForgotten 1 (some .int) 0 := ⟨gws 1002 (by decide +kernel) (by decide +kernel), gws 1003 (by decide +kernel) (by decide +kernel), gws 1004 (by decide +kernel) (by decide +kernel), gws 30 (by decide +kernel) (by decide +kernel), kcX5_nextForgotten, rfl, by decide +kernel, by decide +kernel, by decide +kernel⟩
theorem cwL_154 : gCV RL 154 RX5 yX5_carried cX5_carried 2 (some .int) 1 := ⟨gws 1010 (by decide +kernel) (by decide +kernel), gws 1011 (by decide +kernel) (by decide +kernel), gws 1012 (by decide +kernel) (by decide +kernel), gws 30 (by decide +kernel) (by decide +kernel), kcX5_carried, rfl, by decide +kernel, by decide +kernel, by decide +kernel⟩
theorem cwL_155 : gCV RL 155 RX4 yX4_needy cX4_needy 1 (some .int) 0 := ⟨gws 258 (by decide +kernel) (by decide +kernel), gws 259 (by decide +kernel) (by decide +kernel), gws 260 (by decide +kernel) (by decide +kernel), gws 25 (by decide +kernel) (by decide +kernel), kcX4_needy, rfl, by decide +kernel, by decide +kernel, by decide +kernel⟩
theorem cwL_158 : gCV RL 158 RX5 yX5_needy cX5_needy 1 (some .int) 0 := ⟨gws 1022 (by decide +kernel) (by decide +kernel), gws 1023 (by decide +kernel) (by decide +kernel), gws 1024 (by decide +kernel) (by decide +kernel), gws 30 (by decide +kernel) (by decide +kernel), kcX5_needy, rfl, by decide +kernel, by decide +kernel, by decide +kernel⟩
theorem cwL_161 : gCV RL 161 RX5 yX5_saves cX5_saves 2 (some .int) 1 := ⟨gws 1030 (by decide +kernel) (by decide +kernel), gws 1031 (by decide +kernel) (by decide +kernel), gws 1032 (by decide +kernel) (by decide +kernel), gws 30 (by decide +kernel) (by decide +kernel), kcX5_saves, rfl, by decide +kernel, by decide +kernel, by decide +kernel⟩
theorem cwL_162 : gCV RL 162 RX4 yX4_lit cX4_lit 1 (some .double) 0 := ⟨gws 270 (by decide +kernel) (by decide +kernel), gws 271 (by decide +kernel) (by decide +kernel), gws 272 (by decide +kernel) (by decide +kernel), gws 25 (by decide +kernel) (by decide +kernel), kcX4_lit, rfl, by decide +kernel, by decide +kernel, by decide +kernel⟩
theorem cwL_166 : gCV RL 166 RX5 yX5_lit cX5_lit 1 (some .double) 0 := ⟨gws 1038 (by decide +kernel) (by decide +kernel), gws 1039 (by decide +kernel) (by decide +kernel), gws 1040 (by decide +kernel) (by decide +kernel), gws 30 (by decide +kernel) (by decide +kernel), kcX5_lit, rfl, by decide +kernel, by decide +kernel, by decide +kernel⟩
theorem cwL_167 : gCV RL 167 RX4 yX4_digest cX4_digest 4 (some .long) 0 := ⟨gws 282 (by decide +kernel) (by decide +kernel), gws 283 (by decide +kernel) (by decide +kernel), gws 284 (by decide +kernel) (by decide +kernel), gws 25 (by decide +kernel) (by decide +kernel), kcX4_digest, rfl, by decide +kernel, by decide +kernel, by decide +kernel⟩
theorem cwL_17 : gCV RL 17 RX4 yX4_light cX4_light 3 (some .int) 2 := ⟨gws 474 (by decide +kernel) (by decide +kernel), gws 475 (by decide +kernel) (by decide +kernel), gws 476 (by decide +kernel) (by decide +kernel), gws 25 (by decide +kernel) (by decide +kernel), kcX4_light, rfl, by decide +kernel, by decide +kernel, by decide +kernel⟩
theorem cwL_171 : gCV RL 171 RX5 yX5_digest cX5_digest 5 (some .long) 0 := ⟨gws 1046 (by decide +kernel) (by decide +kernel), gws 1047 (by decide +kernel) (by decide +kernel), gws 1048 (by decide +kernel) (by decide +kernel), gws 30 (by decide +kernel) (by decide +kernel), kcX5_digest, rfl, by decide +kernel, by decide +kernel, by decide +kernel⟩
theorem cwL_21 : gCV RL 21 RX4 yX4_fresh cX4_fresh 2 (some .int) 1 := ⟨gws 486 (by decide +kernel) (by decide +kernel), gws 487 (by decide +kernel) (by decide +kernel), gws 488 (by decide +kernel) (by decide +kernel), gws 25 (by decide +kernel) (by decide +kernel), kcX4_fresh, rfl, by decide +kernel, by decide +kernel, by decide +kernel⟩
theorem cwL_24 : gCV RL 24 RX4 yX4_door cX4_door 5 (some .int) 2 := ⟨gws 506 (by decide +kernel) (by decide +kernel), gws 507 (by decide +kernel) (by decide +kernel), gws 508 (by decide +kernel) (by decide +kernel), gws 25 (by decide +kernel) (by decide +kernel), kcX4_door, rfl, by decide +kernel, by decide +kernel, by decide +kernel⟩
theorem cwL_28 : gCV RL 28 RX4 yX4_shield cX4_shield 5 (some .int) 2 := ⟨gws 515 (by decide +kernel) (by decide +kernel), gws 516 (by decide +kernel) (by decide +kernel), gws 517 (by decide +kernel) (by decide +kernel), gws 25 (by decide +kernel) (by decide +kernel), kcX4_shield, rfl, by decide +kernel, by decide +kernel, by decide +kernel⟩
theorem cwL_31 : gCV RL 31 RX4 yX4_draught cX4_draught 3 (some .int) 2 := ⟨gws 523 (by decide +kernel) (by decide +kernel), gws 524 (by decide +kernel) (by decide +kernel), gws 525 (by decide +kernel) (by decide +kernel), gws 25 (by decide +kernel) (by decide +kernel), kcX4_draught, rfl, by decide +kernel, by decide +kernel, by decide +kernel⟩
theorem cwL_36 : gCV RL 36 RX4 yX4_set cX4_set 3 (some .int) 1 := ⟨gws 554 (by decide +kernel) (by decide +kernel), gws 555 (by decide +kernel) (by decide +kernel), gws 556 (by decide +kernel) (by decide +kernel), gws 25 (by decide +kernel) (by decide +kernel), kcX4_set, rfl, by decide +kernel, by decide +kernel, by decide +kernel⟩
theorem cwL_39 : gCV RL 39 RX4 yX4_keep cX4_keep 3 (some .int) 2 := ⟨gws 562 (by decide +kernel) (by decide +kernel), gws 563 (by decide +kernel) (by decide +kernel), gws 564 (by decide +kernel) (by decide +kernel), gws 25 (by decide +kernel) (by decide +kernel), kcX4_keep, rfl, by decide +kernel, by decide +kernel, by decide +kernel⟩
theorem cwL_42 : gCV RL 42 RX4 yX4_read cX4_read 2 (some .int) 1 := ⟨gws 594 (by decide +kernel) (by decide +kernel), gws 595 (by decide +kernel) (by decide +kernel), gws 596 (by decide +kernel) (by decide +kernel), gws 25 (by decide +kernel) (by decide +kernel), kcX4_read, rfl, by decide +kernel, by decide +kernel, by decide +kernel⟩
theorem cwL_45 : gCV RL 45 RX4 yX4_pass cX4_pass 2 (some .int) 1 := ⟨gws 625 (by decide +kernel) (by decide +kernel), gws 626 (by decide +kernel) (by decide +kernel), gws 627 (by decide +kernel) (by decide +kernel), gws 25 (by decide +kernel) (by decide +kernel), kcX4_pass, rfl, by decide +kernel, by decide +kernel, by decide +kernel⟩
theorem cwL_48 : gCV RL 48 RX4 yX4_append cX4_append 2 (some .int) 1 := ⟨gws 634 (by decide +kernel) (by decide +kernel), gws 635 (by decide +kernel) (by decide +kernel), gws 636 (by decide +kernel) (by decide +kernel), gws 25 (by decide +kernel) (by decide +kernel), kcX4_append, rfl, by decide +kernel, by decide +kernel, by decide +kernel⟩
theorem cwL_51 : gCV RL 51 RX4 yX4_play cX4_play 2 (some .int) 0 := ⟨gws 652 (by decide +kernel) (by decide +kernel), gws 653 (by decide +kernel) (by decide +kernel), gws 654 (by decide +kernel) (by decide +kernel), gws 25 (by decide +kernel) (by decide +kernel), kcX4_play, rfl, by decide +kernel, by decide +kernel, by decide +kernel⟩
theorem cwL_55 : gCV RL 55 RX4 yX4_undo cX4_undo 1 (some .int) 0 := ⟨gws 710 (by decide +kernel) (by decide +kernel), gws 711 (by decide +kernel) (by decide +kernel), gws 712 (by decide +kernel) (by decide +kernel), gws 25 (by decide +kernel) (by decide +kernel), kcX4_undo, rfl, by decide +kernel, by decide +kernel, by decide +kernel⟩
theorem cwL_58 : gCV RL 58 RX4 yX4_room cX4_room 3 (some .int) 2 := ⟨gws 722 (by decide +kernel) (by decide +kernel), gws 723 (by decide +kernel) (by decide +kernel), gws 724 (by decide +kernel) (by decide +kernel), gws 25 (by decide +kernel) (by decide +kernel), kcX4_room, rfl, by decide +kernel, by decide +kernel, by decide +kernel⟩
theorem cwL_61 : gCV RL 61 RX4 yX4_thing cX4_thing 3 (some .int) 2 := ⟨gws 733 (by decide +kernel) (by decide +kernel), gws 734 (by decide +kernel) (by decide +kernel), gws 735 (by decide +kernel) (by decide +kernel), gws 25 (by decide +kernel) (by decide +kernel), kcX4_thing, rfl, by decide +kernel, by decide +kernel, by decide +kernel⟩
theorem cwL_64 : gCV RL 64 RX4 yX4_count cX4_count 2 (some .int) 1 := ⟨gws 745 (by decide +kernel) (by decide +kernel), gws 746 (by decide +kernel) (by decide +kernel), gws 747 (by decide +kernel) (by decide +kernel), gws 25 (by decide +kernel) (by decide +kernel), kcX4_count, rfl, by decide +kernel, by decide +kernel, by decide +kernel⟩
theorem cwL_67 : gCV RL 67 RX4 yX4_lasts cX4_lasts 2 (some .int) 1 := ⟨gws 752 (by decide +kernel) (by decide +kernel), gws 753 (by decide +kernel) (by decide +kernel), gws 754 (by decide +kernel) (by decide +kernel), gws 25 (by decide +kernel) (by decide +kernel), kcX4_lasts, rfl, by decide +kernel, by decide +kernel, by decide +kernel⟩
theorem cwL_7 : gCV RL 7 RX4 yX4_strike cX4_strike 2 (some .int) 1 := ⟨gws 350 (by decide +kernel) (by decide +kernel), gws 351 (by decide +kernel) (by decide +kernel), gws 352 (by decide +kernel) (by decide +kernel), gws 25 (by decide +kernel) (by decide +kernel), kcX4_strike, rfl, by decide +kernel, by decide +kernel, by decide +kernel⟩
theorem cwL_70 : gCV RL 70 RX4 yX4_carried cX4_carried 2 (some .int) 1 := ⟨gws 759 (by decide +kernel) (by decide +kernel), gws 760 (by decide +kernel) (by decide +kernel), gws 761 (by decide +kernel) (by decide +kernel), gws 25 (by decide +kernel) (by decide +kernel), kcX4_carried, rfl, by decide +kernel, by decide +kernel, by decide +kernel⟩
theorem cwL_73 : gCV RL 73 RX4 yX4_saves cX4_saves 2 (some .int) 1 := ⟨gws 766 (by decide +kernel) (by decide +kernel), gws 767 (by decide +kernel) (by decide +kernel), gws 768 (by decide +kernel) (by decide +kernel), gws 25 (by decide +kernel) (by decide +kernel), kcX4_saves, rfl, by decide +kernel, by decide +kernel, by decide +kernel⟩
theorem cwL_76 : gCI RL 76 yX4_init cX4_init 1 0 := ⟨gws 42 (by decide +kernel) (by decide +kernel), gws 43 (by decide +kernel) (by decide +kernel), gws 25 (by decide +kernel) (by decide +kernel), kcX4_init, rfl, by decide +kernel, by decide +kernel, by decide +kernel⟩
theorem cwL_79 : gCI RL 79 yX5_init cX5_init 2 0 := ⟨gws 772 (by decide +kernel) (by decide +kernel), gws 773 (by decide +kernel) (by decide +kernel), gws 30 (by decide +kernel) (by decide +kernel), kcX5_init, rfl, by decide +kernel, by decide +kernel, by decide +kernel⟩
theorem cwL_85 : gCV RL 85 RX5 yX5_strike cX5_strike 2 (some .int) 1 := ⟨gws 825 (by decide +kernel) (by decide +kernel), gws 826 (by decide +kernel) (by decide +kernel), gws 827 (by decide +kernel) (by decide +kernel), gws 30 (by decide +kernel) (by decide +kernel), kcX5_strike, rfl, by decide +kernel, by decide +kernel, by decide +kernel⟩
theorem cwL_86 : gCV RL 86 RX5 yX5_thrown cX5_thrown 1 (some .int) 0 := ⟨gws 810 (by decide +kernel) (by decide +kernel), gws 811 (by decide +kernel) (by decide +kernel), gws 812 (by decide +kernel) (by decide +kernel), gws 30 (by decide +kernel) (by decide +kernel), kcX5_thrown, rfl, by decide +kernel, by decide +kernel, by decide +kernel⟩
theorem cwL_92 : gCV RL 92 RX5 yX5_light cX5_light 3 (some .int) 2 := ⟨gws 851 (by decide +kernel) (by decide +kernel), gws 852 (by decide +kernel) (by decide +kernel), gws 853 (by decide +kernel) (by decide +kernel), gws 30 (by decide +kernel) (by decide +kernel), kcX5_light, rfl, by decide +kernel, by decide +kernel, by decide +kernel⟩
theorem cwL_95 : gCV RL 95 RX5 yX5_fresh cX5_fresh 2 (some .int) 1 := ⟨gws 864 (by decide +kernel) (by decide +kernel), gws 865 (by decide +kernel) (by decide +kernel), gws 866 (by decide +kernel) (by decide +kernel), gws 30 (by decide +kernel) (by decide +kernel), kcX5_fresh, rfl, by decide +kernel, by decide +kernel, by decide +kernel⟩
theorem cwL_99 : gCV RL 99 RX5 yX5_door cX5_door 3 (some .int) 2 := ⟨gws 871 (by decide +kernel) (by decide +kernel), gws 872 (by decide +kernel) (by decide +kernel), gws 873 (by decide +kernel) (by decide +kernel), gws 30 (by decide +kernel) (by decide +kernel), kcX5_door, rfl, by decide +kernel, by decide +kernel, by decide +kernel⟩
theorem cwX5_100 : gCS RX5 100 yX5_find cX5_find 3 (some .int) 2 := ⟨gws 904 (by decide +kernel) (by decide +kernel), gws 905 (by decide +kernel) (by decide +kernel), gws 30 (by decide +kernel) (by decide +kernel), kcX5_find, by decide +kernel, by decide +kernel, by decide +kernel⟩
theorem cwX5_104 : gCS RX5 104 yX5_mayKeep cX5_mayKeep 3 (some .boolean) 3 := ⟨gws 901 (by decide +kernel) (by decide +kernel), gws 902 (by decide +kernel) (by decide +kernel), gws 30 (by decide +kernel) (by decide +kernel), kcX5_mayKeep, by decide +kernel, by decide +kernel, by decide +kernel⟩
theorem cwX5_107 : gCS RX5 107 yX5_keeps cX5_keeps 4 (some .int) 3 := ⟨gws 907 (by decide +kernel) (by decide +kernel), gws 908 (by decide +kernel) (by decide +kernel), gws 30 (by decide +kernel) (by decide +kernel), kcX5_keeps, by decide +kernel, by decide +kernel, by decide +kernel⟩
theorem cwX5_110 : gCS RX5 110 yX5_beats cX5_beats 4 none 2 := ⟨gws 914 (by decide +kernel) (by decide +kernel), gws 915 (by decide +kernel) (by decide +kernel), gws 30 (by decide +kernel) (by decide +kernel), kcX5_beats, by decide +kernel, by decide +kernel, by decide +kernel⟩
theorem cwX5_123 : gCV RX5 123 RX5 yX5_isAt cX5_isAt 3 (some .boolean) 2 := ⟨gws 950 (by decide +kernel) (by decide +kernel), gws 952 (by decide +kernel) (by decide +kernel), gws 10 (by decide +kernel) (by decide +kernel), gws 30 (by decide +kernel) (by decide +kernel), kcX5_isAt, rfl, by decide +kernel, by decide +kernel, by decide +kernel⟩
theorem cwX5_127 : gCV RX5 127 RX5 yX5_stops cX5_stops 1 (some .boolean) 0 := ⟨gws 954 (by decide +kernel) (by decide +kernel), gws 956 (by decide +kernel) (by decide +kernel), gws 11 (by decide +kernel) (by decide +kernel), gws 30 (by decide +kernel) (by decide +kernel), kcX5_stops, rfl, by decide +kernel, by decide +kernel, by decide +kernel⟩
theorem cwX5_134 : gCV RX5 134 RX5 yX5_isNumber cX5_isNumber 5 (some .boolean) 3 := ⟨gws 958 (by decide +kernel) (by decide +kernel), gws 960 (by decide +kernel) (by decide +kernel), gws 12 (by decide +kernel) (by decide +kernel), gws 30 (by decide +kernel) (by decide +kernel), kcX5_isNumber, rfl, by decide +kernel, by decide +kernel, by decide +kernel⟩
theorem cwX5_138 : gCV RX5 138 RX5 yX5_isPart cX5_isPart 2 (some .boolean) 0 := ⟨gws 946 (by decide +kernel) (by decide +kernel), gws 948 (by decide +kernel) (by decide +kernel), gws 9 (by decide +kernel) (by decide +kernel), gws 30 (by decide +kernel) (by decide +kernel), kcX5_isPart, rfl, by decide +kernel, by decide +kernel, by decide +kernel⟩
theorem cwX5_141 : gCV RX5 141 RX5 yX5_isText cX5_isText 2 (some .boolean) 0 := ⟨gws 942 (by decide +kernel) (by decide +kernel), gws 944 (by decide +kernel) (by decide +kernel), gws 8 (by decide +kernel) (by decide +kernel), gws 30 (by decide +kernel) (by decide +kernel), kcX5_isText, rfl, by decide +kernel, by decide +kernel, by decide +kernel⟩
theorem cwX5_144 : gCV RX5 144 RX5 yX5_does cX5_does 8 (some .boolean) 1 := ⟨gws 966 (by decide +kernel) (by decide +kernel), gws 968 (by decide +kernel) (by decide +kernel), gws 13 (by decide +kernel) (by decide +kernel), gws 30 (by decide +kernel) (by decide +kernel), kcX5_does, rfl, by decide +kernel, by decide +kernel, by decide +kernel⟩
theorem cwX5_147 : gCV RX5 147 RX5 yX5_ofRoom cX5_ofRoom 3 (some .int) 2 := ⟨gws 974 (by decide +kernel) (by decide +kernel), gws 976 (by decide +kernel) (by decide +kernel), gws 14 (by decide +kernel) (by decide +kernel), gws 30 (by decide +kernel) (by decide +kernel), kcX5_ofRoom, rfl, by decide +kernel, by decide +kernel, by decide +kernel⟩
theorem cwX5_151 : gCV RX5 151 RX5 yX5_things cX5_things 3 (some .int) 0 := ⟨gws 990 (by decide +kernel) (by decide +kernel), gws 992 (by decide +kernel) (by decide +kernel), gws 16 (by decide +kernel) (by decide +kernel), gws 30 (by decide +kernel) (by decide +kernel), kcX5_things, rfl, by decide +kernel, by decide +kernel, by decide +kernel⟩
theorem cwX5_155 : gCV RX5 155 RX5 yX5_counted cX5_counted 2 (some .int) 1 := ⟨gws 986 (by decide +kernel) (by decide +kernel), gws 988 (by decide +kernel) (by decide +kernel), gws 15 (by decide +kernel) (by decide +kernel), gws 30 (by decide +kernel) (by decide +kernel), kcX5_counted, rfl, by decide +kernel, by decide +kernel, by decide +kernel⟩
theorem cwX5_158 : gCV RX5 158 RX5 yX5_stays cX5_stays 3 (some .int) 1 := ⟨gws 998 (by decide +kernel) (by decide +kernel), gws 1000 (by decide +kernel) (by decide +kernel), gws 17 (by decide +kernel) (by decide +kernel), gws 30 (by decide +kernel) (by decide +kernel), kcX5_stays, rfl, by decide +kernel, by decide +kernel, by decide +kernel⟩
theorem cwX5_161 : gCV RX5 161 RX5 yX5_firstForgotten cX5_firstForgotten 2 (some .int) 0 := ⟨gws 1006 (by decide +kernel) (by decide +kernel), gws 1008 (by decide +kernel) (by decide +kernel), gws 18 (by decide +kernel) (by decide +kernel), gws 30 (by decide +kernel) (by decide +kernel), kcX5_firstForgotten, rfl, by decide +kernel, by decide +kernel, by decide +kernel⟩
theorem cwX5_164 : gCV RX5 164 RX5 yX5_way cX5_way 6 (some .int) 2 := ⟨gws 1018 (by decide +kernel) (by decide +kernel), gws 1020 (by decide +kernel) (by decide +kernel), gws 20 (by decide +kernel) (by decide +kernel), gws 30 (by decide +kernel) (by decide +kernel), kcX5_way, rfl, by decide +kernel, by decide +kernel, by decide +kernel⟩
theorem cwX5_167 : gCV RX5 167 RX5 yX5_fewest cX5_fewest 4 (some .int) 1 := ⟨gws 1014 (by decide +kernel) (by decide +kernel), gws 1016 (by decide +kernel) (by decide +kernel), gws 19 (by decide +kernel) (by decide +kernel), gws 30 (by decide +kernel) (by decide +kernel), kcX5_fewest, rfl, by decide +kernel, by decide +kernel, by decide +kernel⟩
theorem cwX5_170 : gCV RX5 170 RX5 yX5_neediest cX5_neediest 4 (some .int) 0 := ⟨gws 1026 (by decide +kernel) (by decide +kernel), gws 1028 (by decide +kernel) (by decide +kernel), gws 21 (by decide +kernel) (by decide +kernel), gws 30 (by decide +kernel) (by decide +kernel), kcX5_neediest, rfl, by decide +kernel, by decide +kernel, by decide +kernel⟩
theorem cwX5_173 : gCV RX5 173 RX5 yX5_saved cX5_saved 3 (some .int) 1 := ⟨gws 1034 (by decide +kernel) (by decide +kernel), gws 1036 (by decide +kernel) (by decide +kernel), gws 22 (by decide +kernel) (by decide +kernel), gws 30 (by decide +kernel) (by decide +kernel), kcX5_saved, rfl, by decide +kernel, by decide +kernel, by decide +kernel⟩
theorem cwX5_176 : gCV RX5 176 RX5 yX5_share cX5_share 3 (some .double) 0 := ⟨gws 1042 (by decide +kernel) (by decide +kernel), gws 1044 (by decide +kernel) (by decide +kernel), gws 23 (by decide +kernel) (by decide +kernel), gws 30 (by decide +kernel) (by decide +kernel), kcX5_share, rfl, by decide +kernel, by decide +kernel, by decide +kernel⟩
theorem cwX5_184 : gCS RX5 184 yJxe99ae_doubleToLongBits_ccdee cJxe99ae_doubleToLongBits_ccdee 2 (some .long) 1 := ⟨gws 1052 (by decide +kernel) (by decide +kernel), gws 1053 (by decide +kernel) (by decide +kernel), gws 39 (by decide +kernel) (by decide +kernel), kcJxe99ae_doubleToLongBits_ccdee, by decide +kernel, by decide +kernel, by decide +kernel⟩
theorem cwX5_29 : gCS RX5 29 yX5_in cX5_in 3 (some .boolean) 3 := ⟨gws 832 (by decide +kernel) (by decide +kernel), gws 833 (by decide +kernel) (by decide +kernel), gws 30 (by decide +kernel) (by decide +kernel), kcX5_in, by decide +kernel, by decide +kernel, by decide +kernel⟩
theorem cwX5_33 : gCS RX5 33 yX5_of cX5_of 3 (some .int) 3 := ⟨gws 841 (by decide +kernel) (by decide +kernel), gws 842 (by decide +kernel) (by decide +kernel), gws 30 (by decide +kernel) (by decide +kernel), kcX5_of, by decide +kernel, by decide +kernel, by decide +kernel⟩
theorem cwX5_40 : gCS RX5 40 yX5_copies cX5_copies 5 none 4 := ⟨gws 822 (by decide +kernel) (by decide +kernel), gws 823 (by decide +kernel) (by decide +kernel), gws 30 (by decide +kernel) (by decide +kernel), kcX5_copies, by decide +kernel, by decide +kernel, by decide +kernel⟩
theorem cwX5_44 : gCV RX5 44 RX5 yX5_fails cX5_fails 2 (some .int) 1 := ⟨gws 818 (by decide +kernel) (by decide +kernel), gws 820 (by decide +kernel) (by decide +kernel), gws 5 (by decide +kernel) (by decide +kernel), gws 30 (by decide +kernel) (by decide +kernel), kcX5_fails, rfl, by decide +kernel, by decide +kernel, by decide +kernel⟩
theorem cwX5_48 : gCS RX5 48 yX5_burning cX5_burning 3 (some .int) 1 := ⟨gws 838 (by decide +kernel) (by decide +kernel), gws 839 (by decide +kernel) (by decide +kernel), gws 30 (by decide +kernel) (by decide +kernel), kcX5_burning, by decide +kernel, by decide +kernel, by decide +kernel⟩
theorem cwX5_52 : gCS RX5 52 yX5_isLit cX5_isLit 2 (some .boolean) 2 := ⟨gws 858 (by decide +kernel) (by decide +kernel), gws 859 (by decide +kernel) (by decide +kernel), gws 30 (by decide +kernel) (by decide +kernel), kcX5_isLit, by decide +kernel, by decide +kernel, by decide +kernel⟩
theorem cwX5_56 : gCS RX5 56 yX5_isOpen cX5_isOpen 3 (some .boolean) 3 := ⟨gws 861 (by decide +kernel) (by decide +kernel), gws 862 (by decide +kernel) (by decide +kernel), gws 30 (by decide +kernel) (by decide +kernel), kcX5_isOpen, by decide +kernel, by decide +kernel, by decide +kernel⟩
theorem cwX5_60 : gCS RX5 60 yX5_reaches cX5_reaches 5 (some .int) 3 := ⟨gws 890 (by decide +kernel) (by decide +kernel), gws 891 (by decide +kernel) (by decide +kernel), gws 30 (by decide +kernel) (by decide +kernel), kcX5_reaches, by decide +kernel, by decide +kernel, by decide +kernel⟩
theorem cwX5_63 : gCS RX5 63 yX5_isRoom cX5_isRoom 1 (some .boolean) 1 := ⟨gws 829 (by decide +kernel) (by decide +kernel), gws 830 (by decide +kernel) (by decide +kernel), gws 30 (by decide +kernel) (by decide +kernel), kcX5_isRoom, by decide +kernel, by decide +kernel, by decide +kernel⟩
theorem cwX5_67 : gCS RX5 67 yX5_mayStrike cX5_mayStrike 2 (some .boolean) 2 := ⟨gws 835 (by decide +kernel) (by decide +kernel), gws 836 (by decide +kernel) (by decide +kernel), gws 30 (by decide +kernel) (by decide +kernel), kcX5_mayStrike, by decide +kernel, by decide +kernel, by decide +kernel⟩
theorem cwX5_70 : gCV RX5 70 RX5 yX5_keepsState cX5_keepsState 2 none 0 := ⟨gws 844 (by decide +kernel) (by decide +kernel), gws 846 (by decide +kernel) (by decide +kernel), gws 6 (by decide +kernel) (by decide +kernel), gws 30 (by decide +kernel) (by decide +kernel), kcX5_keepsState, rfl, by decide +kernel, by decide +kernel, by decide +kernel⟩
theorem cwX5_73 : gCS RX5 73 yX5_lights cX5_lights 2 none 2 := ⟨gws 848 (by decide +kernel) (by decide +kernel), gws 849 (by decide +kernel) (by decide +kernel), gws 30 (by decide +kernel) (by decide +kernel), kcX5_lights, by decide +kernel, by decide +kernel, by decide +kernel⟩
theorem cwX5_77 : gCS RX5 77 yX5_mayLight cX5_mayLight 3 (some .boolean) 3 := ⟨gws 855 (by decide +kernel) (by decide +kernel), gws 856 (by decide +kernel) (by decide +kernel), gws 30 (by decide +kernel) (by decide +kernel), kcX5_mayLight, by decide +kernel, by decide +kernel, by decide +kernel⟩
theorem cwX5_80 : gCS RX5 80 yX5_renews cX5_renews 2 none 2 := ⟨gws 868 (by decide +kernel) (by decide +kernel), gws 869 (by decide +kernel) (by decide +kernel), gws 30 (by decide +kernel) (by decide +kernel), kcX5_renews, by decide +kernel, by decide +kernel, by decide +kernel⟩
theorem cwX5_83 : gCV RX5 83 RX5 yX5_switches cX5_switches 5 (some .int) 3 := ⟨gws 875 (by decide +kernel) (by decide +kernel), gws 877 (by decide +kernel) (by decide +kernel), gws 7 (by decide +kernel) (by decide +kernel), gws 30 (by decide +kernel) (by decide +kernel), kcX5_switches, rfl, by decide +kernel, by decide +kernel, by decide +kernel⟩
theorem cwX5_87 : gCS RX5 87 yX5_blows cX5_blows 5 (some .int) 3 := ⟨gws 887 (by decide +kernel) (by decide +kernel), gws 888 (by decide +kernel) (by decide +kernel), gws 30 (by decide +kernel) (by decide +kernel), kcX5_blows, by decide +kernel, by decide +kernel, by decide +kernel⟩
theorem cwX5_90 : gCS RX5 90 yX5_burns cX5_burns 4 none 2 := ⟨gws 917 (by decide +kernel) (by decide +kernel), gws 918 (by decide +kernel) (by decide +kernel), gws 30 (by decide +kernel) (by decide +kernel), kcX5_burns, by decide +kernel, by decide +kernel, by decide +kernel⟩
theorem cwX5_93 : gCS RX5 93 yX5_draws cX5_draws 3 none 1 := ⟨gws 920 (by decide +kernel) (by decide +kernel), gws 921 (by decide +kernel) (by decide +kernel), gws 30 (by decide +kernel) (by decide +kernel), kcX5_draws, by decide +kernel, by decide +kernel, by decide +kernel⟩
theorem cwX5_97 : gCS RX5 97 yX5_ages cX5_ages 6 none 2 := ⟨gws 923 (by decide +kernel) (by decide +kernel), gws 924 (by decide +kernel) (by decide +kernel), gws 30 (by decide +kernel) (by decide +kernel), kcX5_ages, by decide +kernel, by decide +kernel, by decide +kernel⟩
theorem cwJxe99ae_122 : gCS RJxe99ae 122 yJxe99ae_isNaN_b9ae7 cJxe99ae_isNaN_b9ae7 2 (some .boolean) 1 := ⟨gws 1055 (by decide +kernel) (by decide +kernel), gws 1056 (by decide +kernel) (by decide +kernel), gws 39 (by decide +kernel) (by decide +kernel), kcJxe99ae_isNaN_b9ae7, by decide +kernel, by decide +kernel, by decide +kernel⟩
end
section
/-! numbers: an int as the integer that it stands for -/
def gI (z : Int) : Int32 := Int32.ofInt z
theorem gI_add (a b : Int) : gI a + gI b = gI (a + b) := (Int32.ofInt_add a b).symm
theorem gI_sub (a b : Int) : gI a - gI b = gI (a - b) := (Int32.ofInt_sub a b).symm
theorem gI_mul (a b : Int) : gI a * gI b = gI (a * b) := (Int32.ofInt_mul a b).symm
/-- the range of an int -/
def gR (z : Int) : Prop := -2147483648 ≤ z ∧ z < 2147483648
theorem gI_toInt {z : Int} (h : -2147483648 ≤ z ∧ z < 2147483648) : (gI z).toInt = z := Int32.toInt_ofInt_of_le (by omega) (by omega)
theorem gI_of (x : Int32) : gI x.toInt = x := Int32.ofInt_toInt x
theorem gI_rng (x : Int32) : -2147483648 ≤ x.toInt ∧ x.toInt < 2147483648 := ⟨by have := Int32.le_toInt x; omega, by have := Int32.toInt_lt x; omega⟩
theorem gI_ex (x : Int32) : ∃ z : Int, (-2147483648 ≤ z ∧ z < 2147483648) ∧ x = gI z := ⟨x.toInt, gI_rng x, (gI_of x).symm⟩
theorem gI_lt {a b : Int} (ha : -2147483648 ≤ a ∧ a < 2147483648) (hb : -2147483648 ≤ b ∧ b < 2147483648) : gI a < gI b ↔ a < b := by
  rw [Int32.lt_iff_toInt_lt, gI_toInt ha, gI_toInt hb]
theorem gI_le {a b : Int} (ha : -2147483648 ≤ a ∧ a < 2147483648) (hb : -2147483648 ≤ b ∧ b < 2147483648) : gI a ≤ gI b ↔ a ≤ b := by
  rw [Int32.le_iff_toInt_le, gI_toInt ha, gI_toInt hb]
theorem gI_eq {a b : Int} (ha : -2147483648 ≤ a ∧ a < 2147483648) (hb : -2147483648 ≤ b ∧ b < 2147483648) : gI a = gI b ↔ a = b := by
  rw [← Int32.toInt_inj, gI_toInt ha, gI_toInt hb]
/-- two ints that lie near each other: the same int, the same number -/
theorem gI_eqd {a b : Int} (h : a - b < 4294967296 ∧ b - a < 4294967296) : gI a = gI b ↔ a = b := by
  refine ⟨fun e => ?_, fun e => by rw [e]⟩
  have h1 : gI (a - b) = gI 0 := by rw [← gI_sub, e, gI_sub]; simp
  have h2 : (gI (a - b)).toInt = (gI 0).toInt := by rw [h1]
  have h3 : (a - b).bmod (2 ^ 32) = 0 := by
    have : (gI (a - b)).toInt = (a - b).bmod (2 ^ 32) := Int32.toInt_ofInt
    rw [← this, h2]; rfl
  have h4 : (a - b) % (4294967296 : Int) = 0 := by
    have := Int.dvd_of_bmod_eq_zero h3
    exact Int.emod_eq_zero_of_dvd this
  omega
theorem gI_0 : gI 0 = 0 := by decide +kernel
theorem gI_clamp {z : Int} (h : 0 ≤ z ∧ z < 2147483648) : (gI z).toNatClampNeg = z.toNat := by
  show (gI z).toInt.toNat = z.toNat
  rw [gI_toInt (by omega)]
theorem gI_in {z : Int} {n : Nat} (h : 0 ≤ z ∧ z < n) (hn : n < 2147483648) : vp_in (gI z) n := by
  rw [vp_in_iff, gI_toInt (by omega)]
  exact h
theorem gI_div {a b : Int} (ha : 0 ≤ a ∧ a < 2147483648) (hb : 0 < b ∧ b < 2147483648) : gI a / gI b = gI (a / b) := by
  apply Int32.toInt_inj.mp
  have hq : 0 ≤ a / b ∧ a / b < 2147483648 := ⟨Int.ediv_nonneg ha.1 (by omega), by
    have := Int.ediv_le_self b ha.1
    omega⟩
  rw [lg_idiv_nonneg (by rw [gI_toInt (by omega)]; exact ha.1) (by rw [gI_toInt (by omega)]; exact hb.1), gI_toInt (by omega), gI_toInt (by omega), gI_toInt (by omega)]
theorem gI_rem {a b : Int} (ha : 0 ≤ a ∧ a < 2147483648) (hb : 0 < b ∧ b < 2147483648) : gI a - gI a / gI b * gI b = gI (a % b) := by
  rw [gI_div ha hb, gI_mul, gI_sub, Int.emod_def, Int.mul_comm]
theorem gI_b (P : Prop) [Decidable P] : (if P then (gI 1) else gI 0) = gI (if P then 1 else 0) := by split <;> rfl
/-- a truth as a number -/
def gB (P : Prop) [Decidable P] : Int := if P then 1 else 0
theorem gB_t {P : Prop} [Decidable P] (h : P) : gB P = 1 := if_pos h
theorem gB_f {P : Prop} [Decidable P] (h : ¬ P) : gB P = 0 := if_neg h
theorem gB_rng (P : Prop) [Decidable P] : 0 ≤ gB P ∧ gB P ≤ 1 := by unfold gB; split <;> omega
theorem gB_0 (P : Prop) [Decidable P] : gB P = 0 ↔ ¬ P := by unfold gB; split <;> simp_all
theorem gB_1 (P : Prop) [Decidable P] : gB P = 1 ↔ P := by unfold gB; split <;> simp_all
theorem gB_cong {P Q : Prop} [Decidable P] [Decidable Q] (h : P ↔ Q) : gB P = gB Q := by unfold gB; simp only [h]
/-- a function changed at one place -/
def up {α : Type} (f : Int → α) (k : Int) (v : α) : Int → α := fun j => if j = k then v else f j
theorem up_s {α : Type} (f : Int → α) (k : Int) (v : α) : up f k v k = v := if_pos rfl
theorem up_n {α : Type} {f : Int → α} {k j : Int} {v : α} (h : j ≠ k) : up f k v j = f j := if_neg h
theorem up_up {α : Type} (f : Int → α) (k : Int) (v w : α) : up (up f k v) k w = up f k w := by
  funext j; unfold up; split <;> rfl
theorem up_id {α : Type} {f : Int → α} {k : Int} {v : α} (h : f k = v) : up f k v = f := by
  funext j; unfold up; split
  · subst_vars; rfl
  · rfl
theorem up_sw {α : Type} (f : Int → α) {i k : Int} (h : i ≠ k) (v w : α) : up (up f i v) k w = up (up f k w) i v := by
  funext j; unfold up
  by_cases h1 : j = k
  · subst h1; simp [Ne.symm h]
  · simp [h1]
end
section
/-! what a walk knows, the world as a function of places, the judgement V -/
abbrev gT : Type := Program × Launch × Env × Room × State × MethodId × Array Value × List Frame × Method × Code × va_G × (Nat → ClassId) × (Nat → Prop)
def gpr (X : gT) : Program := X.1
def gln (X : gT) : Launch := X.2.1
def gev (X : gT) : Env := X.2.2.1
def gRm (X : gT) : Room := X.2.2.2.1
def gst (X : gT) : State := X.2.2.2.2.1
def gmi (X : gT) : MethodId := X.2.2.2.2.2.1
def gar (X : gT) : Array Value := X.2.2.2.2.2.2.1
def gbl (X : gT) : List Frame := X.2.2.2.2.2.2.2.1
def gme (X : gT) : Method := X.2.2.2.2.2.2.2.2.1
def gco (X : gT) : Code := X.2.2.2.2.2.2.2.2.2.1
def gDD (X : gT) : va_G := X.2.2.2.2.2.2.2.2.2.2.1
def gty (X : gT) : Nat → ClassId := X.2.2.2.2.2.2.2.2.2.2.2.1
def gAA (X : gT) : Nat → Prop := X.2.2.2.2.2.2.2.2.2.2.2.2
def gtys (ty : Nat → ClassId) : List (ClassId × FieldType) := [(ty 0, .int), (ty 1, .char), (ty 2, .long), (ty 3, .object RX1), (ty 4, .object RX3)]
/-- locals: by their places; none: not known -/
def lpos : Nat → List (Option Value) → List (Nat × Value)
  | _, [] => []
  | i, none :: l => lpos (i + 1) l
  | i, some v :: l => (i, v) :: lpos (i + 1) l
theorem lpos_mem : ∀ {l : List (Option Value)} {b i : Nat} {v : Value}, (i, v) ∈ lpos b l ↔ b ≤ i ∧ l[i - b]? = some (some v)
  | [], b, i, v => by simp [lpos]
  | none :: l, b, i, v => by
    simp only [lpos]
    rw [lpos_mem (l := l)]
    constructor
    · rintro ⟨h1, h2⟩
      refine ⟨by omega, ?_⟩
      rw [show i - b = (i - (b + 1)) + 1 by omega]
      simpa using h2
    · rintro ⟨h1, h2⟩
      rcases Nat.eq_or_lt_of_le h1 with h | h
      · subst h; simp at h2
      · refine ⟨h, ?_⟩
        rw [show i - b = (i - (b + 1)) + 1 by omega] at h2
        simpa using h2
  | some w :: l, b, i, v => by
    simp only [lpos, List.mem_cons, Prod.mk.injEq]
    rw [lpos_mem (l := l)]
    constructor
    · rintro (⟨h1, h2⟩ | ⟨h1, h2⟩)
      · subst h1; subst h2; simp
      · refine ⟨by omega, ?_⟩
        rw [show i - b = (i - (b + 1)) + 1 by omega]
        simpa using h2
    · rintro ⟨h1, h2⟩
      rcases Nat.eq_or_lt_of_le h1 with h | h
      · subst h; simp at h2; exact Or.inl ⟨rfl, h2.symm⟩
      · right
        refine ⟨h, ?_⟩
        rw [show i - b = (i - (b + 1)) + 1 by omega] at h2
        simpa using h2
theorem lv_mono {ls : Array Slot} {n : Nat} {l l' : List (Nat × Value)} (h : lv_has ls n l) (hs : ∀ q ∈ l', q ∈ l) : lv_has ls n l' := ⟨h.1, h.2.1, fun q hq => h.2.2 q (hs q hq)⟩
theorem lpos_at {ls : Array Slot} {n : Nat} {L : List (Option Value)} {i : Nat} {v : Value} (h : lv_has ls n (lpos 0 L)) (hi : L[i]? = some (some v)) : ls[i]? = some (.val v) :=
  h.2.2 (i, v) (lpos_mem.mpr ⟨Nat.zero_le _, by simpa using hi⟩)
/-- the place before holds nothing of two slots -/
def lok (L : List (Option Value)) : Nat → Bool
  | 0 => true
  | i + 1 => match L[i]? with
    | some (some v) => v.category == 1
    | _ => true
theorem lpos_set1 {ls : Array Slot} {n : Nat} {L : List (Option Value)} {i : Nat} {v : Value} (hk : lok L i = true) (h : lv_has ls n ((i, v) :: (lpos 0 L).filter (fun q => !(q.1 == i) && !(q.1 + 1 == i && q.2.category == 2)))) : lv_has ls n (lpos 0 (L.set i (some v))) := by
  refine lv_mono h fun q hq => ?_
  obtain ⟨j, w⟩ := q
  obtain ⟨-, h2⟩ := lpos_mem.mp hq
  simp only [Nat.sub_zero] at h2
  by_cases hj : i = j
  · subst hj
    rw [List.getElem?_set] at h2
    simp only [if_true] at h2
    split at h2
    · cases h2; exact List.mem_cons_self
    · cases h2
  · rw [List.getElem?_set, if_neg hj] at h2
    refine List.mem_cons_of_mem _ (List.mem_filter.mpr ⟨lpos_mem.mpr ⟨Nat.zero_le _, by simpa using h2⟩, ?_⟩)
    have h3 : ¬ (j + 1 = i ∧ w.category = 2) := by
      rintro ⟨e, c⟩
      subst e
      simp [lok, h2, c] at hk
    by_cases e : j + 1 = i
    · have : ¬ w.category = 2 := fun c => h3 ⟨e, c⟩
      simp [Ne.symm hj, this]
    · simp [Ne.symm hj, e]
theorem lpos_set2 {ls : Array Slot} {n : Nat} {L : List (Option Value)} {i : Nat} {v : Value} (hk : lok L i = true) (h : lv_has ls n ((i, v) :: (lpos 0 L).filter (fun q => !(q.1 == i) && (!(q.1 == i + 1) && !(q.1 + 1 == i && q.2.category == 2))))) : lv_has ls n (lpos 0 ((L.set i (some v)).set (i + 1) none)) := by
  refine lv_mono h fun q hq => ?_
  obtain ⟨j, w⟩ := q
  obtain ⟨-, h2⟩ := lpos_mem.mp hq
  simp only [Nat.sub_zero] at h2
  by_cases hj1 : i + 1 = j
  · subst hj1
    rw [List.getElem?_set] at h2
    simp only [if_true] at h2
    split at h2 <;> simp at h2
  · rw [List.getElem?_set, if_neg hj1] at h2
    by_cases hj : i = j
    · subst hj
      rw [List.getElem?_set] at h2
      simp only [if_true] at h2
      split at h2
      · cases h2; exact List.mem_cons_self
      · cases h2
    · rw [List.getElem?_set, if_neg hj] at h2
      refine List.mem_cons_of_mem _ (List.mem_filter.mpr ⟨lpos_mem.mpr ⟨Nat.zero_le _, by simpa using h2⟩, ?_⟩)
      have h3 : ¬ (j + 1 = i ∧ w.category = 2) := by
        rintro ⟨e, c⟩
        subst e
        simp [lok, h2, c] at hk
      by_cases e : j + 1 = i
      · have : ¬ w.category = 2 := fun c => h3 ⟨e, c⟩
        simp [Ne.symm hj, Ne.symm hj1, this]
      · simp [Ne.symm hj, Ne.symm hj1, e]
/-- the locals of a call -/
def gent : List Value → List (Option Value)
  | [] => []
  | v :: vs => if v.category = 2 then some v :: none :: gent vs else some v :: gent vs
theorem gent_args : ∀ (vs : List Value) (b : Nat) (n : Nat), lpos b (gent vs ++ List.replicate n none) = lv_args b vs
  | [], b, n => by
    have : ∀ (n b : Nat), lpos b (List.replicate n none) = [] := by
      intro n
      induction n with
      | zero => intro b; rfl
      | succ n ih => intro b; rw [List.replicate_succ]; exact ih (b + 1)
    simp [gent, lv_args, this]
  | v :: vs, b, n => by
    unfold gent lv_args
    by_cases h : v.category = 2
    · simp only [h, if_true, List.cons_append, lpos]
      rw [gent_args vs (b + 2) n]
    · simp only [h, if_false, List.cons_append, lpos]
      rw [gent_args vs (b + 1) n]
/-! the world: places 0 .. N - 1, ad: their addresses, σ: what they hold -/
def gl (ad : Int → Nat) (N : Int) (σ : Int → va_E) : va_W := (List.range N.toNat).map (fun (k : Nat) => (ad (k : Int), σ (k : Int)))
theorem gl_at {ad : Int → Nat} {N : Int} {σ : Int → va_E} {k : Int} (h : 0 ≤ k ∧ k < N) : (gl ad N σ)[k.toNat]? = some (ad k, σ k) := by
  have h1 : k.toNat < N.toNat := by omega
  have h2 : ((k.toNat : Nat) : Int) = k := Int.toNat_of_nonneg h.1
  simp [gl, List.getElem?_range h1, h2]
theorem gl_of {ad : Int → Nat} {N : Int} {σ : Int → va_E} {i : Nat} {q : Nat × va_E} (h : (gl ad N σ)[i]? = some q) : (0 ≤ (i : Int) ∧ (i : Int) < N) ∧ q = (ad i, σ i) := by
  unfold gl at h
  rw [List.getElem?_map] at h
  by_cases h1 : i < N.toNat
  · rw [List.getElem?_range h1] at h
    simp at h
    exact ⟨by omega, h.symm⟩
  · rw [List.getElem?_eq_none (by simpa using h1)] at h
    simp at h
theorem gl_set {ad : Int → Nat} {N : Int} {σ : Int → va_E} {k : Int} (h : 0 ≤ k ∧ k < N) (e : va_E) : (gl ad N σ).set k.toNat (ad k, e) = gl ad N (up σ k e) := by
  apply List.ext_getElem?
  intro i
  have hlen : (gl ad N σ).length = N.toNat := by simp [gl]
  rw [List.getElem?_set]
  by_cases hi : k.toNat = i
  · subst hi
    rw [if_pos rfl, if_pos (by rw [hlen]; omega), gl_at h, up_s]
  · rw [if_neg hi]
    by_cases h1 : i < N.toNat
    · have e1 := gl_at (ad := ad) (N := N) (σ := σ) (k := i) (by omega)
      have e2 := gl_at (ad := ad) (N := N) (σ := up σ k e) (k := i) (by omega)
      rw [Int.toNat_natCast] at e1 e2
      rw [e1, e2, up_n (by omega)]
    · rw [List.getElem?_eq_none (by rw [hlen]; omega), List.getElem?_eq_none (by simp [gl]; omega)]
theorem gl_push {ad : Int → Nat} {N : Int} {σ : Int → va_E} (h : 0 ≤ N) (q : Nat) (e : va_E) : gl ad N σ ++ [(q, e)] = gl (up ad N q) (N + 1) (up σ N e) := by
  unfold gl
  rw [show (N + 1).toNat = N.toNat + 1 by omega, List.range_succ, List.map_append]
  congr 1
  · apply List.map_congr_left
    intro k hk
    have : k < N.toNat := List.mem_range.mp hk
    rw [up_n (by omega), up_n (by omega)]
  · simp [Int.toNat_of_nonneg h, up_s]
def gA (ad : Int → Nat) (N : Int) (sz : Nat) : Nat → Prop := fun q => (∃ k : Int, (0 ≤ k ∧ k < N) ∧ ad k = q) ∨ sz ≤ q
def gN1 : Cond := .methodLinkNest RX1 47 yX4_asNumber RX4
def gN2 : Cond := .methodLinkNest RX3 60 yX4_asNumber RX4
/-- the links of nest mates -/
def gNs (U : State) : Prop := va_Nw gN1 U ∧ va_Nw gN2 U
theorem gNs.warm {s U : State} (hW : s.WarmedH U.vm) (h : gNs s) : gNs U := ⟨va_Nw.warmM hW h.1, va_Nw.warmM hW h.2⟩
theorem gNs.same {u U : State} (e : u.vm = U.vm) (h : gNs u) : gNs U := ⟨va_Nw.same rfl e h.1, va_Nw.same rfl e h.2⟩
/-- the world, as a state has it -/
def gw (D : va_G) (ty : Nat → ClassId) (ad : Int → Nat) (N : Int) (σ : Int → va_E) (U : State) : Prop :=
  va_P D vwCl (gl ad N σ) U.heap ∧ va_K D vwCl (gtys ty) U ∧ va_D (fun _ => True) (gl ad N σ) ∧ va_AO RX1 U ∧ va_AO RX3 U ∧ gNs U
/-- the world, as a walk has it -/
def gWd (X : gT) (ad : Int → Nat) (N : Int) (σ : Int → va_E) (H : Heap) (locs : List Loc) : Prop :=
  va_P (gDD X) vwCl (gl ad N σ) H ∧ va_D (gAA X) (gl ad N σ) ∧ va_S (gAA X) (gst X).heap H locs
/-- what is known throughout a walk -/
def gOk (X : gT) (cc : ByteArray) (nL : Nat) (own : String) (R : Room) (ret : Option FieldType) : Prop :=
  (gpr X).tables.exec = Jvm.exec ∧ (gco X).code = cc ∧ (gco X).maxLocals = nL ∧ (gst X).vm.findClass own = some (gmi X).cls ∧ (∀ w ∈ WS, w.before (gar X) (gst X) = true) ∧ (gme X).locks = false ∧ (gme X).sig.returnType = ret ∧ gRm X = R ∧ va_K (gDD X) vwCl (gtys (gty X)) (gst X) ∧ (∀ q, (gst X).heap.size ≤ q → gAA X q) ∧ va_AO RX1 (gst X) ∧ va_AO RX3 (gst X) ∧ gNs (gst X)
abbrev gW (X : gT) (H : Heap) (locs : List Loc) (k n : Nat) (Q : State → Prop) (g : JFrame) : Prop := W (gpr X) (gln X) (gev X) (gRm X) (gst X) (gmi X) (gar X) (gbl X) (gme X) (gco X) H locs k n Q g
/-- the judgement: from pc, with locals L, stack st, in the world (ad, N, σ), k cells and n slots made so far, the machine comes to Q -/
def V (X : gT) (k n : Nat) (Q : State → Prop) (pc : Nat) (L : List (Option Value)) (st : List Value) (ad : Int → Nat) (N : Int) (σ : Int → va_E) : Prop :=
  ∀ (ls : Array Slot) (H : Heap) (locs : List Loc), lv_has ls L.length (lpos 0 L) → gWd X ad N σ H locs → gW X H locs k n Q (F0 (gmi X) pc ls st)
def gPost : Type := Option Value → (Int → Nat) → Int → (Int → va_E) → Prop
def gQc (D : va_G) (ty : Nat → ClassId) (A : Nat → Prop) (post : gPost) : Array Value → State → Outcome → State → Prop := fun _ st oc t =>
  (∃ (rv : Option Value) (ad' : Int → Nat) (N' : Int) (σ' : Int → va_E), oc = .returned rv ∧ post rv ad' N' σ' ∧ gw D ty ad' N' σ' t ∧ ∀ k : Int, 0 ≤ k ∧ k < N' → A (ad' k)) ∧ va_F A st t
/-- a method's contract -/
def gMet (l : Launch) (y : MethodName) (cc : ByteArray) (nL : Nat) (ret : Option FieldType) (R : Room) (av : List Value) (D : va_G) (ty : Nat → ClassId) (ad : Int → Nat) (N : Int) (σ : Int → va_E) (post : gPost) : Prop :=
  ∀ sz : Nat, Met l y (.code y cc nL ret :: WS) R (va_Pc av (fun U => U.heap.size = sz ∧ gw D ty ad N σ U)) (gQc D ty (gA ad N sz) post) R.cells R.slots (gA ad N sz)
/-- a contract's end -/
def gQ (X : gT) (post : gPost) (mc ms : Nat) : State → Prop := MQ (gbl X) (gQc (gDD X) (gty X) (gAA X) post) (gar X) (gst X) mc ms (gAA X)
/-- one answer, one world behind it, nothing made -/
def gD (rv : Option Value) (ad : Int → Nat) (N : Int) (σ : Int → va_E) : gPost := fun rv' ad' N' σ' => rv' = rv ∧ ad' = ad ∧ N' = N ∧ σ' = σ
/-- the contract of a method that makes nothing: f frames, lo words of locals -/
abbrev gM0 (l : Launch) (y : MethodName) (cc : ByteArray) (nL : Nat) (ret : Option FieldType) (f lo : Nat) (av : List Value) (D : va_G) (ty : Nat → ClassId) (ad : Int → Nat) (N : Int) (σ : Int → va_E) (rv : Option Value) (σ' : Int → va_E) : Prop :=
  gMet l y cc nL ret { frames := f, cells := 0, slots := 0, locals := lo } av D ty ad N σ (gD rv ad N σ')
theorem gA_free {X : gT} {ad : Int → Nat} {N : Int} {σ : Int → va_E} {H : Heap} {locs : List Loc} (hA : ∀ q, (gst X).heap.size ≤ q → gAA X q) (hw : gWd X ad N σ H locs) : ∀ q, gA ad N H.size q → gAA X q := by
  intro q h
  rcases h with ⟨k, hk, e⟩ | h
  · rw [← e]
    exact hw.2.1.2 k.toNat (ad k, σ k) (gl_at hk)
  · exact hA q (Nat.le_trans hw.2.2.1 h)
theorem Met_ofF {y : MethodName} {ws ws' : List Cond} {l : Launch} {rm : Room} {Pc : Array Value → State → Prop} {Qc : Array Value → State → Outcome → State → Prop} {mc ms : Nat} {free : Addr → Prop} {cc : ByteArray} {maxL : Nat} {ret : Option FieldType}
    (hy : plainFor y = true) (hw : ws = Cond.code y cc maxL ret :: ws')
    (body : ∀ p e s m args below meth c s₁, BodyLoose p l y (headSpec ws rm) cc maxL ret e s m args below meth c s₁ → c.maxLocals = maxL → Pc args s →
      W p l e (headSpec ws rm).room s m args below meth c s.heap [] 0 0 (MQ below Qc args s mc ms free) (entryFrame m args maxL)) : Met l y ws rm Pc Qc mc ms free := by
  refine MetFree.of_bodySF (code := cc) (maxLocals := maxL) (ret := ret) hy ?_ ?_
  · intro args s m h hn
    obtain ⟨meth, c, h1, h2, h3, h4, h5, h6, -, -⟩ := Cond.code_spec hn (atoms_spec (ws := ws) h _ (by rw [hw]; exact List.mem_cons_self))
    exact ⟨meth, c, h1, h2, h3, h4, h5, h6⟩
  · intro p e s m args below meth c s₁ B hml hP _
    have hh0 : s₁.heap = s.heap := by rw [B.state]; rfl
    obtain ⟨t, a1, o, b1, b2, b3⟩ := body p e s m args below meth c s₁ B hml hP s₁ hh0 (Stand.of_body B)
    exact ⟨t, o, a1, b1, b2, ⟨b3.1, b3.2⟩⟩
theorem gMet_of {l : Launch} {y : MethodName} {cc : ByteArray} {nL : Nat} {ret : Option FieldType} {R : Room} {av : List Value} {D : va_G} {ty : Nat → ClassId} {ad : Int → Nat} {N : Int} {σ : Int → va_E} {post : gPost} (L : List (Option Value))
    (hy : plainFor y = true) (hL : gent av ++ List.replicate (nL - (gent av).length) none = L) (hn : (lg_sl av).length ≤ nL) (hn2 : L.length = nL)
    (body : ∀ X : gT, gln X = l → gDD X = D → gty X = ty → gOk X cc nL y.cls R ret → (gme X).name = y.name → V X 0 0 (gQ X post R.cells R.slots) 0 L [] ad N σ) : gMet l y cc nL ret R av D ty ad N σ post := by
  intro sz
  refine Met_ofF (cc := cc) (maxL := nL) (ret := ret) hy rfl ?_
  intro p e s m args below meth c s₁ B hml hv
  obtain ⟨rfl, hsz, hP, hK, hD0, hO1, hO3, hNs⟩ := hv
  have hts := atoms_spec (ws := .code y cc nL ret :: WS) B.pre
  subst hsz
  have hb := body (p, l, e, R, s, m, av.toArray, below, meth, c, D, ty, gA ad N s.heap.size) rfl rfl rfl
    ⟨B.exec, B.bytes, hml, findClass_of_methodNamed B.named, fun w hw => hts w (List.mem_cons_of_mem _ hw), B.notSynchronized, B.returns, rfl, hK, fun q h => Or.inr h, hO1, hO3, hNs⟩
    (name_of_methodNamed B.named B.method).1
  have hl := lv_entry av (n := nL) hn
  rw [lg_entry_eq]
  generalize (lg_sl av ++ List.replicate (nL - (lg_sl av).length) Slot.unset).toArray = ls at hl ⊢
  refine hb ls s.heap [] ?_ ⟨hP, ⟨hD0.1, fun k q hq => ?_⟩, va_S.rf⟩
  · rw [← hL, gent_args, hL, hn2]; exact hl
  · obtain ⟨h1, h2⟩ := gl_of hq
    exact Or.inl ⟨k, h1, by rw [h2]⟩
theorem V_sub {X : gT} {k n : Nat} {Q : State → Prop} {pc : Nat} {L L' : List (Option Value)} {st : List Value} {ad : Int → Nat} {N : Int} {σ : Int → va_E} (hlen : L'.length = L.length) (h : ∀ (i : Nat) (v : Value), L'[i]? = some (some v) → L[i]? = some (some v)) (kk : V X k n Q pc L' st ad N σ) : V X k n Q pc L st ad N σ := by
  intro ls H locs hl hw
  refine kk ls H locs ?_ hw
  rw [hlen]
  refine lv_mono hl fun q hq => ?_
  obtain ⟨i, v⟩ := q
  obtain ⟨h1, h2⟩ := lpos_mem.mp hq
  exact lpos_mem.mpr ⟨h1, by simpa using h i v (by simpa using h2)⟩
end
section
/-! rows over V: one an instruction (written by mk12.py) -/
theorem r_iload_n {X : gT} {cc : ByteArray} {nL : Nat} {own : String} {R : Room} {ret : Option FieldType} {kc kn : Nat} {Q : State → Prop} {pc : Nat} {L : List (Option Value)} {st : List Value} {ad : Int → Nat} {N : Int} {σ : Int → va_E} (C : gOk X cc nL own R ret) {j : Fin 4} {i : Nat} {x : Int32} (hd : decode cc pc = .ok (.iload_n j, 1)) (hi : (j : Nat) = i) (hx : L[i]? = some (some (.int x))) (k : V X kc kn Q (pc + 1) L (.int x :: st) ad N σ) : V X kc kn Q (pc) L (st) ad N σ := fun ls H locs hl hw => lv_iload_n C.1 C.2.1 hd hi (lpos_at hl hx) (k ls H locs hl hw)
theorem r_iload {X : gT} {cc : ByteArray} {nL : Nat} {own : String} {R : Room} {ret : Option FieldType} {kc kn : Nat} {Q : State → Prop} {pc : Nat} {L : List (Option Value)} {st : List Value} {ad : Int → Nat} {N : Int} {σ : Int → va_E} (C : gOk X cc nL own R ret) {i : Nat} {x : Int32} (hd : decode cc pc = .ok (.iload i, 2)) (hx : L[i]? = some (some (.int x))) (k : V X kc kn Q (pc + 2) L (.int x :: st) ad N σ) : V X kc kn Q (pc) L (st) ad N σ := fun ls H locs hl hw => lv_iload C.1 C.2.1 hd (lpos_at hl hx) (k ls H locs hl hw)
theorem r_aload_n {X : gT} {cc : ByteArray} {nL : Nat} {own : String} {R : Room} {ret : Option FieldType} {kc kn : Nat} {Q : State → Prop} {pc : Nat} {L : List (Option Value)} {st : List Value} {ad : Int → Nat} {N : Int} {σ : Int → va_E} (C : gOk X cc nL own R ret) {j : Fin 4} {i : Nat} {x : Nat} (hd : decode cc pc = .ok (.aload_n j, 1)) (hi : (j : Nat) = i) (hx : L[i]? = some (some (.ref x))) (k : V X kc kn Q (pc + 1) L (.ref x :: st) ad N σ) : V X kc kn Q (pc) L (st) ad N σ := fun ls H locs hl hw => lv_aload_n C.1 C.2.1 hd hi (lpos_at hl hx) (k ls H locs hl hw)
theorem r_aload {X : gT} {cc : ByteArray} {nL : Nat} {own : String} {R : Room} {ret : Option FieldType} {kc kn : Nat} {Q : State → Prop} {pc : Nat} {L : List (Option Value)} {st : List Value} {ad : Int → Nat} {N : Int} {σ : Int → va_E} (C : gOk X cc nL own R ret) {i : Nat} {x : Nat} (hd : decode cc pc = .ok (.aload i, 2)) (hx : L[i]? = some (some (.ref x))) (k : V X kc kn Q (pc + 2) L (.ref x :: st) ad N σ) : V X kc kn Q (pc) L (st) ad N σ := fun ls H locs hl hw => lv_aload C.1 C.2.1 hd (lpos_at hl hx) (k ls H locs hl hw)
theorem r_lload_n {X : gT} {cc : ByteArray} {nL : Nat} {own : String} {R : Room} {ret : Option FieldType} {kc kn : Nat} {Q : State → Prop} {pc : Nat} {L : List (Option Value)} {st : List Value} {ad : Int → Nat} {N : Int} {σ : Int → va_E} (C : gOk X cc nL own R ret) {j : Fin 4} {i : Nat} {x : Int64} (hd : decode cc pc = .ok (.lload_n j, 1)) (hi : (j : Nat) = i) (hx : L[i]? = some (some (.long x))) (k : V X kc kn Q (pc + 1) L (.long x :: st) ad N σ) : V X kc kn Q (pc) L (st) ad N σ := fun ls H locs hl hw => lv_lload_n C.1 C.2.1 hd hi (lpos_at hl hx) (k ls H locs hl hw)
theorem r_lload {X : gT} {cc : ByteArray} {nL : Nat} {own : String} {R : Room} {ret : Option FieldType} {kc kn : Nat} {Q : State → Prop} {pc : Nat} {L : List (Option Value)} {st : List Value} {ad : Int → Nat} {N : Int} {σ : Int → va_E} (C : gOk X cc nL own R ret) {i : Nat} {x : Int64} (hd : decode cc pc = .ok (.lload i, 2)) (hx : L[i]? = some (some (.long x))) (k : V X kc kn Q (pc + 2) L (.long x :: st) ad N σ) : V X kc kn Q (pc) L (st) ad N σ := fun ls H locs hl hw => lv_lload C.1 C.2.1 hd (lpos_at hl hx) (k ls H locs hl hw)
theorem r_dload_n {X : gT} {cc : ByteArray} {nL : Nat} {own : String} {R : Room} {ret : Option FieldType} {kc kn : Nat} {Q : State → Prop} {pc : Nat} {L : List (Option Value)} {st : List Value} {ad : Int → Nat} {N : Int} {σ : Int → va_E} (C : gOk X cc nL own R ret) {j : Fin 4} {i : Nat} {x : UInt64} (hd : decode cc pc = .ok (.dload_n j, 1)) (hi : (j : Nat) = i) (hx : L[i]? = some (some (.double x))) (k : V X kc kn Q (pc + 1) L (.double x :: st) ad N σ) : V X kc kn Q (pc) L (st) ad N σ := fun ls H locs hl hw => lv_dload_n C.1 C.2.1 hd hi (lpos_at hl hx) (k ls H locs hl hw)
theorem r_dload {X : gT} {cc : ByteArray} {nL : Nat} {own : String} {R : Room} {ret : Option FieldType} {kc kn : Nat} {Q : State → Prop} {pc : Nat} {L : List (Option Value)} {st : List Value} {ad : Int → Nat} {N : Int} {σ : Int → va_E} (C : gOk X cc nL own R ret) {i : Nat} {x : UInt64} (hd : decode cc pc = .ok (.dload i, 2)) (hx : L[i]? = some (some (.double x))) (k : V X kc kn Q (pc + 2) L (.double x :: st) ad N σ) : V X kc kn Q (pc) L (st) ad N σ := fun ls H locs hl hw => lv_dload C.1 C.2.1 hd (lpos_at hl hx) (k ls H locs hl hw)
theorem r_istore_n {X : gT} {cc : ByteArray} {nL : Nat} {own : String} {R : Room} {ret : Option FieldType} {kc kn : Nat} {Q : State → Prop} {pc : Nat} {L : List (Option Value)} {st : List Value} {ad : Int → Nat} {N : Int} {σ : Int → va_E} (C : gOk X cc nL own R ret) {j : Fin 4} {i : Nat} {x : Int32} (hd : decode cc pc = .ok (.istore_n j, 1)) (hi : (j : Nat) = i) (hn : i < L.length) (hk : lok L i = true) (k : V X kc kn Q (pc + 1) (L.set i (some (.int x))) (st) ad N σ) : V X kc kn Q (pc) L (.int x :: st) ad N σ := fun ls H locs hl hw =>
  lv_istore_n C.1 C.2.1 hd hi hl hn rfl (fun ls' hl' => k ls' H locs (by rw [List.length_set]; exact lpos_set1 hk hl') hw)
theorem r_istore {X : gT} {cc : ByteArray} {nL : Nat} {own : String} {R : Room} {ret : Option FieldType} {kc kn : Nat} {Q : State → Prop} {pc : Nat} {L : List (Option Value)} {st : List Value} {ad : Int → Nat} {N : Int} {σ : Int → va_E} (C : gOk X cc nL own R ret) {i : Nat} {x : Int32} (hd : decode cc pc = .ok (.istore i, 2))  (hn : i < L.length) (hk : lok L i = true) (k : V X kc kn Q (pc + 2) (L.set i (some (.int x))) (st) ad N σ) : V X kc kn Q (pc) L (.int x :: st) ad N σ := fun ls H locs hl hw =>
  lv_istore C.1 C.2.1 hd hl hn rfl (fun ls' hl' => k ls' H locs (by rw [List.length_set]; exact lpos_set1 hk hl') hw)
theorem r_astore_n {X : gT} {cc : ByteArray} {nL : Nat} {own : String} {R : Room} {ret : Option FieldType} {kc kn : Nat} {Q : State → Prop} {pc : Nat} {L : List (Option Value)} {st : List Value} {ad : Int → Nat} {N : Int} {σ : Int → va_E} (C : gOk X cc nL own R ret) {j : Fin 4} {i : Nat} {x : Nat} (hd : decode cc pc = .ok (.astore_n j, 1)) (hi : (j : Nat) = i) (hn : i < L.length) (hk : lok L i = true) (k : V X kc kn Q (pc + 1) (L.set i (some (.ref x))) (st) ad N σ) : V X kc kn Q (pc) L (.ref x :: st) ad N σ := fun ls H locs hl hw =>
  lv_astore_n C.1 C.2.1 hd hi hl hn rfl (fun ls' hl' => k ls' H locs (by rw [List.length_set]; exact lpos_set1 hk hl') hw)
theorem r_astore {X : gT} {cc : ByteArray} {nL : Nat} {own : String} {R : Room} {ret : Option FieldType} {kc kn : Nat} {Q : State → Prop} {pc : Nat} {L : List (Option Value)} {st : List Value} {ad : Int → Nat} {N : Int} {σ : Int → va_E} (C : gOk X cc nL own R ret) {i : Nat} {x : Nat} (hd : decode cc pc = .ok (.astore i, 2))  (hn : i < L.length) (hk : lok L i = true) (k : V X kc kn Q (pc + 2) (L.set i (some (.ref x))) (st) ad N σ) : V X kc kn Q (pc) L (.ref x :: st) ad N σ := fun ls H locs hl hw =>
  lv_astore C.1 C.2.1 hd hl hn rfl (fun ls' hl' => k ls' H locs (by rw [List.length_set]; exact lpos_set1 hk hl') hw)
theorem r_lstore_n {X : gT} {cc : ByteArray} {nL : Nat} {own : String} {R : Room} {ret : Option FieldType} {kc kn : Nat} {Q : State → Prop} {pc : Nat} {L : List (Option Value)} {st : List Value} {ad : Int → Nat} {N : Int} {σ : Int → va_E} (C : gOk X cc nL own R ret) {j : Fin 4} {i : Nat} {x : Int64} (hd : decode cc pc = .ok (.lstore_n j, 1)) (hi : (j : Nat) = i) (hn : i + 1 < L.length) (hk : lok L i = true) (k : V X kc kn Q (pc + 1) ((L.set i (some (.long x))).set (i + 1) none) (st) ad N σ) : V X kc kn Q (pc) L (.long x :: st) ad N σ := fun ls H locs hl hw =>
  lv_lstore_n C.1 C.2.1 hd hi hl hn rfl (fun ls' hl' => k ls' H locs (by rw [List.length_set, List.length_set]; exact lpos_set2 hk hl') hw)
theorem r_lstore {X : gT} {cc : ByteArray} {nL : Nat} {own : String} {R : Room} {ret : Option FieldType} {kc kn : Nat} {Q : State → Prop} {pc : Nat} {L : List (Option Value)} {st : List Value} {ad : Int → Nat} {N : Int} {σ : Int → va_E} (C : gOk X cc nL own R ret) {i : Nat} {x : Int64} (hd : decode cc pc = .ok (.lstore i, 2))  (hn : i + 1 < L.length) (hk : lok L i = true) (k : V X kc kn Q (pc + 2) ((L.set i (some (.long x))).set (i + 1) none) (st) ad N σ) : V X kc kn Q (pc) L (.long x :: st) ad N σ := fun ls H locs hl hw =>
  lv_lstore C.1 C.2.1 hd hl hn rfl (fun ls' hl' => k ls' H locs (by rw [List.length_set, List.length_set]; exact lpos_set2 hk hl') hw)
theorem r_dstore_n {X : gT} {cc : ByteArray} {nL : Nat} {own : String} {R : Room} {ret : Option FieldType} {kc kn : Nat} {Q : State → Prop} {pc : Nat} {L : List (Option Value)} {st : List Value} {ad : Int → Nat} {N : Int} {σ : Int → va_E} (C : gOk X cc nL own R ret) {j : Fin 4} {i : Nat} {x : UInt64} (hd : decode cc pc = .ok (.dstore_n j, 1)) (hi : (j : Nat) = i) (hn : i + 1 < L.length) (hk : lok L i = true) (k : V X kc kn Q (pc + 1) ((L.set i (some (.double x))).set (i + 1) none) (st) ad N σ) : V X kc kn Q (pc) L (.double x :: st) ad N σ := fun ls H locs hl hw =>
  lv_dstore_n C.1 C.2.1 hd hi hl hn rfl (fun ls' hl' => k ls' H locs (by rw [List.length_set, List.length_set]; exact lpos_set2 hk hl') hw)
theorem r_dstore {X : gT} {cc : ByteArray} {nL : Nat} {own : String} {R : Room} {ret : Option FieldType} {kc kn : Nat} {Q : State → Prop} {pc : Nat} {L : List (Option Value)} {st : List Value} {ad : Int → Nat} {N : Int} {σ : Int → va_E} (C : gOk X cc nL own R ret) {i : Nat} {x : UInt64} (hd : decode cc pc = .ok (.dstore i, 2))  (hn : i + 1 < L.length) (hk : lok L i = true) (k : V X kc kn Q (pc + 2) ((L.set i (some (.double x))).set (i + 1) none) (st) ad N σ) : V X kc kn Q (pc) L (.double x :: st) ad N σ := fun ls H locs hl hw =>
  lv_dstore C.1 C.2.1 hd hl hn rfl (fun ls' hl' => k ls' H locs (by rw [List.length_set, List.length_set]; exact lpos_set2 hk hl') hw)
theorem lpos_idx {L : List (Option Value)} {i : Nat} {v : Value} (h : L[i]? = some (some v)) : ∃ j : Nat, (lpos 0 L)[j]? = some (i, v) := List.getElem?_of_mem (lpos_mem.mpr ⟨Nat.zero_le _, by simpa using h⟩)
theorem r_iinc {X : gT} {cc : ByteArray} {nL : Nat} {own : String} {R : Room} {ret : Option FieldType} {kc kn : Nat} {Q : State → Prop} {pc : Nat} {L : List (Option Value)} {st : List Value} {ad : Int → Nat} {N : Int} {σ : Int → va_E} (C : gOk X cc nL own R ret) {i : Nat} {n z : Int} (hd : decode cc pc = .ok (.iinc i n, 3)) (hx : L[i]? = some (some (.int (gI z)))) (hk : lok L i = true) (k : V X kc kn Q (pc + 3) (L.set i (some (.int (gI (z + n))))) (st) ad N σ) : V X kc kn Q (pc) L (st) ad N σ := fun ls H locs hl hw => by
  obtain ⟨j, hj⟩ := lpos_idx hx
  exact lv_iinc C.1 C.2.1 hd hl hj (gI_add z n) (List.getElem?_eq_some_iff.mp hx).1 rfl (fun ls' hl' => k ls' H locs (by rw [List.length_set]; exact lpos_set1 hk hl') hw)
theorem r_iconst {X : gT} {cc : ByteArray} {nL : Nat} {own : String} {R : Room} {ret : Option FieldType} {kc kn : Nat} {Q : State → Prop} {pc : Nat} {L : List (Option Value)} {st : List Value} {ad : Int → Nat} {N : Int} {σ : Int → va_E} (C : gOk X cc nL own R ret) {n : Int} (hd : decode cc pc = .ok (.iconst n, 1)) (k : V X kc kn Q (pc + 1) L (.int (gI n) :: st) ad N σ) : V X kc kn Q (pc) L (st) ad N σ := fun ls H locs hl hw => lv_iconst C.1 C.2.1 hd rfl (k ls H locs hl hw)
theorem r_bipush {X : gT} {cc : ByteArray} {nL : Nat} {own : String} {R : Room} {ret : Option FieldType} {kc kn : Nat} {Q : State → Prop} {pc : Nat} {L : List (Option Value)} {st : List Value} {ad : Int → Nat} {N : Int} {σ : Int → va_E} (C : gOk X cc nL own R ret) {n : Int} (hd : decode cc pc = .ok (.bipush n, 2)) (hv : (Int8.ofInt n).toInt32 = gI n) (k : V X kc kn Q (pc + 2) L (.int (gI n) :: st) ad N σ) : V X kc kn Q (pc) L (st) ad N σ := fun ls H locs hl hw => lv_bipush C.1 C.2.1 hd hv (k ls H locs hl hw)
theorem r_sipush {X : gT} {cc : ByteArray} {nL : Nat} {own : String} {R : Room} {ret : Option FieldType} {kc kn : Nat} {Q : State → Prop} {pc : Nat} {L : List (Option Value)} {st : List Value} {ad : Int → Nat} {N : Int} {σ : Int → va_E} (C : gOk X cc nL own R ret) {n : Int} (hd : decode cc pc = .ok (.sipush n, 3)) (hv : (Int16.ofInt n).toInt32 = gI n) (k : V X kc kn Q (pc + 3) L (.int (gI n) :: st) ad N σ) : V X kc kn Q (pc) L (st) ad N σ := fun ls H locs hl hw => lv_sipush C.1 C.2.1 hd hv (k ls H locs hl hw)
theorem r_lconst {X : gT} {cc : ByteArray} {nL : Nat} {own : String} {R : Room} {ret : Option FieldType} {kc kn : Nat} {Q : State → Prop} {pc : Nat} {L : List (Option Value)} {st : List Value} {ad : Int → Nat} {N : Int} {σ : Int → va_E} (C : gOk X cc nL own R ret) {n : Fin 2} {v : Int64} (hd : decode cc pc = .ok (.lconst n, 1)) (hv : Int64.ofNat (n : Nat) = v) (k : V X kc kn Q (pc + 1) L (.long v :: st) ad N σ) : V X kc kn Q (pc) L (st) ad N σ := fun ls H locs hl hw => lv_lconst C.1 C.2.1 hd hv (k ls H locs hl hw)
theorem r_ldc2 {X : gT} {cc : ByteArray} {nL : Nat} {own : String} {R : Room} {ret : Option FieldType} {kc kn : Nat} {Q : State → Prop} {pc : Nat} {L : List (Option Value)} {st : List Value} {ad : Int → Nat} {N : Int} {σ : Int → va_E} (C : gOk X cc nL own R ret) {idx : Nat} {v : Int64} (hd : decode cc pc = .ok (.ldc2_w idx, 3)) (hw0 : Cond.constantLong own idx v ∈ WS) (k : V X kc kn Q (pc + 3) L (.long v :: st) ad N σ) : V X kc kn Q (pc) L (st) ad N σ := fun ls H locs hl hw => lv_ldc2 C.1 C.2.1 C.2.2.2.1 (C.2.2.2.2.1 _ hw0) hd (k ls H locs hl hw)
theorem r_ldc2d {X : gT} {cc : ByteArray} {nL : Nat} {own : String} {R : Room} {ret : Option FieldType} {kc kn : Nat} {Q : State → Prop} {pc : Nat} {L : List (Option Value)} {st : List Value} {ad : Int → Nat} {N : Int} {σ : Int → va_E} (C : gOk X cc nL own R ret) {idx : Nat} {v : UInt64} (hd : decode cc pc = .ok (.ldc2_w idx, 3)) (hw0 : Cond.constantDouble own idx v ∈ WS) (k : V X kc kn Q (pc + 3) L (.double v :: st) ad N σ) : V X kc kn Q (pc) L (st) ad N σ := fun ls H locs hl hw => lv_ldc2d C.1 C.2.1 C.2.2.2.1 (C.2.2.2.2.1 _ hw0) hd (k ls H locs hl hw)
theorem r_iadd {X : gT} {cc : ByteArray} {nL : Nat} {own : String} {R : Room} {ret : Option FieldType} {kc kn : Nat} {Q : State → Prop} {pc : Nat} {L : List (Option Value)} {st : List Value} {ad : Int → Nat} {N : Int} {σ : Int → va_E} (C : gOk X cc nL own R ret) {a b : Int} (hd : decode cc pc = .ok (.iadd, 1)) (k : V X kc kn Q (pc + 1) L (.int (gI (a + b)) :: st) ad N σ) : V X kc kn Q (pc) L (.int (gI b) :: .int (gI a) :: st) ad N σ := fun ls H locs hl hw => lv_iadd C.1 C.2.1 hd (by rw [gI_add]; exact k ls H locs hl hw)
theorem r_isub {X : gT} {cc : ByteArray} {nL : Nat} {own : String} {R : Room} {ret : Option FieldType} {kc kn : Nat} {Q : State → Prop} {pc : Nat} {L : List (Option Value)} {st : List Value} {ad : Int → Nat} {N : Int} {σ : Int → va_E} (C : gOk X cc nL own R ret) {a b : Int} (hd : decode cc pc = .ok (.isub, 1)) (k : V X kc kn Q (pc + 1) L (.int (gI (a - b)) :: st) ad N σ) : V X kc kn Q (pc) L (.int (gI b) :: .int (gI a) :: st) ad N σ := fun ls H locs hl hw => lv_isub C.1 C.2.1 hd (by rw [gI_sub]; exact k ls H locs hl hw)
theorem r_imul {X : gT} {cc : ByteArray} {nL : Nat} {own : String} {R : Room} {ret : Option FieldType} {kc kn : Nat} {Q : State → Prop} {pc : Nat} {L : List (Option Value)} {st : List Value} {ad : Int → Nat} {N : Int} {σ : Int → va_E} (C : gOk X cc nL own R ret) {a b : Int} (hd : decode cc pc = .ok (.imul, 1)) (k : V X kc kn Q (pc + 1) L (.int (gI (a * b)) :: st) ad N σ) : V X kc kn Q (pc) L (.int (gI b) :: .int (gI a) :: st) ad N σ := fun ls H locs hl hw => lv_imul C.1 C.2.1 hd (by rw [gI_mul]; exact k ls H locs hl hw)
theorem r_idiv {X : gT} {cc : ByteArray} {nL : Nat} {own : String} {R : Room} {ret : Option FieldType} {kc kn : Nat} {Q : State → Prop} {pc : Nat} {L : List (Option Value)} {st : List Value} {ad : Int → Nat} {N : Int} {σ : Int → va_E} (C : gOk X cc nL own R ret) {a b : Int} (hd : decode cc pc = .ok (.idiv, 1)) (ha : 0 ≤ a ∧ a < 2147483648) (hb : 0 < b ∧ b < 2147483648) (k : V X kc kn Q (pc + 1) L (.int (gI (a / b)) :: st) ad N σ) : V X kc kn Q (pc) L (.int (gI b) :: .int (gI a) :: st) ad N σ := fun ls H locs hl hw => lv_idiv C.1 C.2.1 hd (fun h => by rw [← gI_0, gI_eq (by omega) (by omega)] at h; omega) (by rw [gI_div ha hb]; exact k ls H locs hl hw)
theorem r_irem {X : gT} {cc : ByteArray} {nL : Nat} {own : String} {R : Room} {ret : Option FieldType} {kc kn : Nat} {Q : State → Prop} {pc : Nat} {L : List (Option Value)} {st : List Value} {ad : Int → Nat} {N : Int} {σ : Int → va_E} (C : gOk X cc nL own R ret) {a b : Int} (hd : decode cc pc = .ok (.irem, 1)) (ha : 0 ≤ a ∧ a < 2147483648) (hb : 0 < b ∧ b < 2147483648) (k : V X kc kn Q (pc + 1) L (.int (gI (a % b)) :: st) ad N σ) : V X kc kn Q (pc) L (.int (gI b) :: .int (gI a) :: st) ad N σ := fun ls H locs hl hw => lv_irem C.1 C.2.1 hd (fun h => by rw [← gI_0, gI_eq (by omega) (by omega)] at h; omega) (by rw [gI_rem ha hb]; exact k ls H locs hl hw)
theorem r_iand {X : gT} {cc : ByteArray} {nL : Nat} {own : String} {R : Room} {ret : Option FieldType} {kc kn : Nat} {Q : State → Prop} {pc : Nat} {L : List (Option Value)} {st : List Value} {ad : Int → Nat} {N : Int} {σ : Int → va_E} (C : gOk X cc nL own R ret) {a b : Int32} (hd : decode cc pc = .ok (.iand, 1)) (k : V X kc kn Q (pc + 1) L (.int (a &&& b) :: st) ad N σ) : V X kc kn Q (pc) L (.int b :: .int a :: st) ad N σ := fun ls H locs hl hw => lv_iand C.1 C.2.1 hd (k ls H locs hl hw)
theorem r_top {X : gT} {cc : ByteArray} {nL : Nat} {own : String} {R : Room} {ret : Option FieldType} {kc kn : Nat} {Q : State → Prop} {pc : Nat} {L : List (Option Value)} {st : List Value} {ad : Int → Nat} {N : Int} {σ : Int → va_E} {x y : Value} (h : x = y) (k : V X kc kn Q (pc) L (y :: st) ad N σ) : V X kc kn Q (pc) L (x :: st) ad N σ := h ▸ k
theorem r_ladd {X : gT} {cc : ByteArray} {nL : Nat} {own : String} {R : Room} {ret : Option FieldType} {kc kn : Nat} {Q : State → Prop} {pc : Nat} {L : List (Option Value)} {st : List Value} {ad : Int → Nat} {N : Int} {σ : Int → va_E} (C : gOk X cc nL own R ret) {a b : Int64} (hd : decode cc pc = .ok (.ladd, 1)) (k : V X kc kn Q (pc + 1) L (.long (a + b) :: st) ad N σ) : V X kc kn Q (pc) L (.long b :: .long a :: st) ad N σ := fun ls H locs hl hw => lv_ladd C.1 C.2.1 hd (k ls H locs hl hw)
theorem r_lmul {X : gT} {cc : ByteArray} {nL : Nat} {own : String} {R : Room} {ret : Option FieldType} {kc kn : Nat} {Q : State → Prop} {pc : Nat} {L : List (Option Value)} {st : List Value} {ad : Int → Nat} {N : Int} {σ : Int → va_E} (C : gOk X cc nL own R ret) {a b : Int64} (hd : decode cc pc = .ok (.lmul, 1)) (k : V X kc kn Q (pc + 1) L (.long (a * b) :: st) ad N σ) : V X kc kn Q (pc) L (.long b :: .long a :: st) ad N σ := fun ls H locs hl hw => lv_lmul C.1 C.2.1 hd (k ls H locs hl hw)
theorem r_lsub {X : gT} {cc : ByteArray} {nL : Nat} {own : String} {R : Room} {ret : Option FieldType} {kc kn : Nat} {Q : State → Prop} {pc : Nat} {L : List (Option Value)} {st : List Value} {ad : Int → Nat} {N : Int} {σ : Int → va_E} (C : gOk X cc nL own R ret) {a b : Int64} (hd : decode cc pc = .ok (.lsub, 1)) (k : V X kc kn Q (pc + 1) L (.long (a - b) :: st) ad N σ) : V X kc kn Q (pc) L (.long b :: .long a :: st) ad N σ := fun ls H locs hl hw => lv_lsub C.1 C.2.1 hd (k ls H locs hl hw)
theorem r_lor {X : gT} {cc : ByteArray} {nL : Nat} {own : String} {R : Room} {ret : Option FieldType} {kc kn : Nat} {Q : State → Prop} {pc : Nat} {L : List (Option Value)} {st : List Value} {ad : Int → Nat} {N : Int} {σ : Int → va_E} (C : gOk X cc nL own R ret) {a b : Int64} (hd : decode cc pc = .ok (.lor, 1)) (k : V X kc kn Q (pc + 1) L (.long (a ||| b) :: st) ad N σ) : V X kc kn Q (pc) L (.long b :: .long a :: st) ad N σ := fun ls H locs hl hw => lv_lor C.1 C.2.1 hd (k ls H locs hl hw)
theorem r_lshl {X : gT} {cc : ByteArray} {nL : Nat} {own : String} {R : Room} {ret : Option FieldType} {kc kn : Nat} {Q : State → Prop} {pc : Nat} {L : List (Option Value)} {st : List Value} {ad : Int → Nat} {N : Int} {σ : Int → va_E} (C : gOk X cc nL own R ret) {a : Int64} {b : Int32} (hd : decode cc pc = .ok (.lshl, 1)) (k : V X kc kn Q (pc + 1) L (.long (a <<< (b.toInt64 &&& 63)) :: st) ad N σ) : V X kc kn Q (pc) L (.int b :: .long a :: st) ad N σ := fun ls H locs hl hw => lv_lshl C.1 C.2.1 hd rfl (k ls H locs hl hw)
theorem r_i2l {X : gT} {cc : ByteArray} {nL : Nat} {own : String} {R : Room} {ret : Option FieldType} {kc kn : Nat} {Q : State → Prop} {pc : Nat} {L : List (Option Value)} {st : List Value} {ad : Int → Nat} {N : Int} {σ : Int → va_E} (C : gOk X cc nL own R ret) {a : Int32} (hd : decode cc pc = .ok (.i2l, 1)) (k : V X kc kn Q (pc + 1) L (.long a.toInt64 :: st) ad N σ) : V X kc kn Q (pc) L (.int a :: st) ad N σ := fun ls H locs hl hw => lv_i2l C.1 C.2.1 hd rfl (k ls H locs hl hw)
theorem r_i2d {X : gT} {cc : ByteArray} {nL : Nat} {own : String} {R : Room} {ret : Option FieldType} {kc kn : Nat} {Q : State → Prop} {pc : Nat} {L : List (Option Value)} {st : List Value} {ad : Int → Nat} {N : Int} {σ : Int → va_E} (C : gOk X cc nL own R ret) {a : Int32} (hd : decode cc pc = .ok (.i2d, 1)) (k : V X kc kn Q (pc + 1) L (.double (FP.i2d a) :: st) ad N σ) : V X kc kn Q (pc) L (.int a :: st) ad N σ := fun ls H locs hl hw => lv_i2d C.1 C.2.1 hd (k ls H locs hl hw)
theorem r_i2c {X : gT} {cc : ByteArray} {nL : Nat} {own : String} {R : Room} {ret : Option FieldType} {kc kn : Nat} {Q : State → Prop} {pc : Nat} {L : List (Option Value)} {st : List Value} {ad : Int → Nat} {N : Int} {σ : Int → va_E} (C : gOk X cc nL own R ret) {a : Int32} {v : Int32} (hd : decode cc pc = .ok (.i2c, 1)) (hv : (a.toUInt32 % 65536).toInt32 = v) (k : V X kc kn Q (pc + 1) L (.int v :: st) ad N σ) : V X kc kn Q (pc) L (.int a :: st) ad N σ := fun ls H locs hl hw => lv_i2c C.1 C.2.1 hd hv (k ls H locs hl hw)
theorem r_d2l {X : gT} {cc : ByteArray} {nL : Nat} {own : String} {R : Room} {ret : Option FieldType} {kc kn : Nat} {Q : State → Prop} {pc : Nat} {L : List (Option Value)} {st : List Value} {ad : Int → Nat} {N : Int} {σ : Int → va_E} (C : gOk X cc nL own R ret) {a : UInt64} (hd : decode cc pc = .ok (.d2l, 1)) (k : V X kc kn Q (pc + 1) L (.long (FP.d2l a) :: st) ad N σ) : V X kc kn Q (pc) L (.double a :: st) ad N σ := fun ls H locs hl hw => lv_d2l C.1 C.2.1 hd (k ls H locs hl hw)
theorem r_l2d {X : gT} {cc : ByteArray} {nL : Nat} {own : String} {R : Room} {ret : Option FieldType} {kc kn : Nat} {Q : State → Prop} {pc : Nat} {L : List (Option Value)} {st : List Value} {ad : Int → Nat} {N : Int} {σ : Int → va_E} (C : gOk X cc nL own R ret) {a : Int64} (hd : decode cc pc = .ok (.l2d, 1)) (k : V X kc kn Q (pc + 1) L (.double (FP.l2d a) :: st) ad N σ) : V X kc kn Q (pc) L (.long a :: st) ad N σ := fun ls H locs hl hw => lv_l2d C.1 C.2.1 hd (k ls H locs hl hw)
theorem r_ddiv {X : gT} {cc : ByteArray} {nL : Nat} {own : String} {R : Room} {ret : Option FieldType} {kc kn : Nat} {Q : State → Prop} {pc : Nat} {L : List (Option Value)} {st : List Value} {ad : Int → Nat} {N : Int} {σ : Int → va_E} (C : gOk X cc nL own R ret) {a b : UInt64} (hd : decode cc pc = .ok (.ddiv, 1)) (hne : vf_n64 (FP.ddiv a b)) (k : V X kc kn Q (pc + 1) L (.double (FP.ddiv a b) :: st) ad N σ) : V X kc kn Q (pc) L (.double b :: .double a :: st) ad N σ := fun ls H locs hl hw => lv_ddiv C.1 C.2.1 hd hne (k ls H locs hl hw)
theorem r_dmul {X : gT} {cc : ByteArray} {nL : Nat} {own : String} {R : Room} {ret : Option FieldType} {kc kn : Nat} {Q : State → Prop} {pc : Nat} {L : List (Option Value)} {st : List Value} {ad : Int → Nat} {N : Int} {σ : Int → va_E} (C : gOk X cc nL own R ret) {a b : UInt64} (hd : decode cc pc = .ok (.dmul, 1)) (hne : vf_n64 (FP.dmul a b)) (k : V X kc kn Q (pc + 1) L (.double (FP.dmul a b) :: st) ad N σ) : V X kc kn Q (pc) L (.double b :: .double a :: st) ad N σ := fun ls H locs hl hw => lv_dmul C.1 C.2.1 hd hne (k ls H locs hl hw)
theorem r_dsub {X : gT} {cc : ByteArray} {nL : Nat} {own : String} {R : Room} {ret : Option FieldType} {kc kn : Nat} {Q : State → Prop} {pc : Nat} {L : List (Option Value)} {st : List Value} {ad : Int → Nat} {N : Int} {σ : Int → va_E} (C : gOk X cc nL own R ret) {a b : UInt64} (hd : decode cc pc = .ok (.dsub, 1)) (hne : vf_n64 (FP.dsub a b)) (k : V X kc kn Q (pc + 1) L (.double (FP.dsub a b) :: st) ad N σ) : V X kc kn Q (pc) L (.double b :: .double a :: st) ad N σ := fun ls H locs hl hw => lv_dsub C.1 C.2.1 hd hne (k ls H locs hl hw)
theorem r_dcmp {X : gT} {cc : ByteArray} {nL : Nat} {own : String} {R : Room} {ret : Option FieldType} {kc kn : Nat} {Q : State → Prop} {pc : Nat} {L : List (Option Value)} {st : List Value} {ad : Int → Nat} {N : Int} {σ : Int → va_E} (C : gOk X cc nL own R ret) {a b : UInt64} {op : CmpOp} (hd : decode cc pc = .ok (.dcmp op, 1)) (k : V X kc kn Q (pc + 1) L (.int (Op.cmpValue (FP.dcmp a b) op) :: st) ad N σ) : V X kc kn Q (pc) L (.double b :: .double a :: st) ad N σ := fun ls H locs hl hw => lv_dcmp C.1 C.2.1 hd (k ls H locs hl hw)
theorem r_dup {X : gT} {cc : ByteArray} {nL : Nat} {own : String} {R : Room} {ret : Option FieldType} {kc kn : Nat} {Q : State → Prop} {pc : Nat} {L : List (Option Value)} {st : List Value} {ad : Int → Nat} {N : Int} {σ : Int → va_E} (C : gOk X cc nL own R ret) {v : Value} (hd : decode cc pc = .ok (.dup, 1)) (hv : v.category = 1) (k : V X kc kn Q (pc + 1) L (v :: v :: st) ad N σ) : V X kc kn Q (pc) L (v :: st) ad N σ := fun ls H locs hl hw => lv_dup C.1 C.2.1 hd hv (k ls H locs hl hw)
theorem r_pop {X : gT} {cc : ByteArray} {nL : Nat} {own : String} {R : Room} {ret : Option FieldType} {kc kn : Nat} {Q : State → Prop} {pc : Nat} {L : List (Option Value)} {st : List Value} {ad : Int → Nat} {N : Int} {σ : Int → va_E} (C : gOk X cc nL own R ret) {v : Value} (hd : decode cc pc = .ok (.pop, 1)) (hv : v.category = 1) (k : V X kc kn Q (pc + 1) L (st) ad N σ) : V X kc kn Q (pc) L (v :: st) ad N σ := fun ls H locs hl hw => lv_pop C.1 C.2.1 hd hv (k ls H locs hl hw)
theorem r_icmp_eq {X : gT} {cc : ByteArray} {nL : Nat} {own : String} {R : Room} {ret : Option FieldType} {kc kn : Nat} {Q : State → Prop} {pc : Nat} {L : List (Option Value)} {st : List Value} {ad : Int → Nat} {N : Int} {σ : Int → va_E} (C : gOk X cc nL own R ret) {a b off : Int} {tgt : Nat} (hd : decode cc pc = .ok (.if_icmp .eq off, 3)) (ht : (pc : Int) + off = (tgt : Int)) (ha : -2147483648 ≤ a ∧ a < 2147483648) (hb : -2147483648 ≤ b ∧ b < 2147483648) (kt : a = b → V X kc kn Q (tgt) L (st) ad N σ) (kf : a ≠ b → V X kc kn Q (pc + 3) L (st) ad N σ) : V X kc kn Q (pc) L (.int (gI b) :: .int (gI a) :: st) ad N σ := fun ls H locs hl hw => lv_icmp_eq C.1 C.2.1 hd ht (fun h => kt ((gI_eq ha hb).mp h) ls H locs hl hw) (fun h => kf (fun e => h ((gI_eq ha hb).mpr e)) ls H locs hl hw)
theorem r_icmp_ne {X : gT} {cc : ByteArray} {nL : Nat} {own : String} {R : Room} {ret : Option FieldType} {kc kn : Nat} {Q : State → Prop} {pc : Nat} {L : List (Option Value)} {st : List Value} {ad : Int → Nat} {N : Int} {σ : Int → va_E} (C : gOk X cc nL own R ret) {a b off : Int} {tgt : Nat} (hd : decode cc pc = .ok (.if_icmp .ne off, 3)) (ht : (pc : Int) + off = (tgt : Int)) (ha : -2147483648 ≤ a ∧ a < 2147483648) (hb : -2147483648 ≤ b ∧ b < 2147483648) (kt : a ≠ b → V X kc kn Q (tgt) L (st) ad N σ) (kf : a = b → V X kc kn Q (pc + 3) L (st) ad N σ) : V X kc kn Q (pc) L (.int (gI b) :: .int (gI a) :: st) ad N σ := fun ls H locs hl hw => lv_icmp_ne C.1 C.2.1 hd ht (fun h => kt (fun e => h ((gI_eq ha hb).mpr e)) ls H locs hl hw) (fun h => kf ((gI_eq ha hb).mp h) ls H locs hl hw)
theorem r_icmp_lt {X : gT} {cc : ByteArray} {nL : Nat} {own : String} {R : Room} {ret : Option FieldType} {kc kn : Nat} {Q : State → Prop} {pc : Nat} {L : List (Option Value)} {st : List Value} {ad : Int → Nat} {N : Int} {σ : Int → va_E} (C : gOk X cc nL own R ret) {a b off : Int} {tgt : Nat} (hd : decode cc pc = .ok (.if_icmp .lt off, 3)) (ht : (pc : Int) + off = (tgt : Int)) (ha : -2147483648 ≤ a ∧ a < 2147483648) (hb : -2147483648 ≤ b ∧ b < 2147483648) (kt : a < b → V X kc kn Q (tgt) L (st) ad N σ) (kf : b ≤ a → V X kc kn Q (pc + 3) L (st) ad N σ) : V X kc kn Q (pc) L (.int (gI b) :: .int (gI a) :: st) ad N σ := fun ls H locs hl hw => lv_icmp_lt C.1 C.2.1 hd ht (fun h => kt ((gI_lt ha hb).mp h) ls H locs hl hw) (fun h => kf (by have := mt (gI_lt ha hb).mpr h; omega) ls H locs hl hw)
theorem r_icmp_ge {X : gT} {cc : ByteArray} {nL : Nat} {own : String} {R : Room} {ret : Option FieldType} {kc kn : Nat} {Q : State → Prop} {pc : Nat} {L : List (Option Value)} {st : List Value} {ad : Int → Nat} {N : Int} {σ : Int → va_E} (C : gOk X cc nL own R ret) {a b off : Int} {tgt : Nat} (hd : decode cc pc = .ok (.if_icmp .ge off, 3)) (ht : (pc : Int) + off = (tgt : Int)) (ha : -2147483648 ≤ a ∧ a < 2147483648) (hb : -2147483648 ≤ b ∧ b < 2147483648) (kt : b ≤ a → V X kc kn Q (tgt) L (st) ad N σ) (kf : a < b → V X kc kn Q (pc + 3) L (st) ad N σ) : V X kc kn Q (pc) L (.int (gI b) :: .int (gI a) :: st) ad N σ := fun ls H locs hl hw => lv_icmp_ge C.1 C.2.1 hd ht (fun h => kt ((gI_le hb ha).mp h) ls H locs hl hw) (fun h => kf (by have := mt (gI_le hb ha).mpr h; omega) ls H locs hl hw)
theorem r_icmp_gt {X : gT} {cc : ByteArray} {nL : Nat} {own : String} {R : Room} {ret : Option FieldType} {kc kn : Nat} {Q : State → Prop} {pc : Nat} {L : List (Option Value)} {st : List Value} {ad : Int → Nat} {N : Int} {σ : Int → va_E} (C : gOk X cc nL own R ret) {a b off : Int} {tgt : Nat} (hd : decode cc pc = .ok (.if_icmp .gt off, 3)) (ht : (pc : Int) + off = (tgt : Int)) (ha : -2147483648 ≤ a ∧ a < 2147483648) (hb : -2147483648 ≤ b ∧ b < 2147483648) (kt : b < a → V X kc kn Q (tgt) L (st) ad N σ) (kf : a ≤ b → V X kc kn Q (pc + 3) L (st) ad N σ) : V X kc kn Q (pc) L (.int (gI b) :: .int (gI a) :: st) ad N σ := fun ls H locs hl hw => lv_icmp_gt C.1 C.2.1 hd ht (fun h => kt ((gI_lt hb ha).mp h) ls H locs hl hw) (fun h => kf (by have := mt (gI_lt hb ha).mpr h; omega) ls H locs hl hw)
theorem r_icmp_le {X : gT} {cc : ByteArray} {nL : Nat} {own : String} {R : Room} {ret : Option FieldType} {kc kn : Nat} {Q : State → Prop} {pc : Nat} {L : List (Option Value)} {st : List Value} {ad : Int → Nat} {N : Int} {σ : Int → va_E} (C : gOk X cc nL own R ret) {a b off : Int} {tgt : Nat} (hd : decode cc pc = .ok (.if_icmp .le off, 3)) (ht : (pc : Int) + off = (tgt : Int)) (ha : -2147483648 ≤ a ∧ a < 2147483648) (hb : -2147483648 ≤ b ∧ b < 2147483648) (kt : a ≤ b → V X kc kn Q (tgt) L (st) ad N σ) (kf : b < a → V X kc kn Q (pc + 3) L (st) ad N σ) : V X kc kn Q (pc) L (.int (gI b) :: .int (gI a) :: st) ad N σ := fun ls H locs hl hw => lv_icmp_le C.1 C.2.1 hd ht (fun h => kt ((gI_le ha hb).mp h) ls H locs hl hw) (fun h => kf (by have := mt (gI_le ha hb).mpr h; omega) ls H locs hl hw)
theorem r_if_eq {X : gT} {cc : ByteArray} {nL : Nat} {own : String} {R : Room} {ret : Option FieldType} {kc kn : Nat} {Q : State → Prop} {pc : Nat} {L : List (Option Value)} {st : List Value} {ad : Int → Nat} {N : Int} {σ : Int → va_E} (C : gOk X cc nL own R ret) {a off : Int} {tgt : Nat} (hd : decode cc pc = .ok (.ifCond .eq off, 3)) (ht : (pc : Int) + off = (tgt : Int)) (ha : -2147483648 ≤ a ∧ a < 2147483648) (kt : a = 0 → V X kc kn Q (tgt) L (st) ad N σ) (kf : a ≠ 0 → V X kc kn Q (pc + 3) L (st) ad N σ) : V X kc kn Q (pc) L (.int (gI a) :: st) ad N σ := fun ls H locs hl hw => lv_if_eq C.1 C.2.1 hd ht (fun h => kt ((gI_eq ha (b := 0) (by omega)).mp (by rw [gI_0]; exact h)) ls H locs hl hw) (fun h => kf (fun e => h (gI_0 ▸ (gI_eq ha (b := 0) (by omega)).mpr e)) ls H locs hl hw)
theorem r_if_ne {X : gT} {cc : ByteArray} {nL : Nat} {own : String} {R : Room} {ret : Option FieldType} {kc kn : Nat} {Q : State → Prop} {pc : Nat} {L : List (Option Value)} {st : List Value} {ad : Int → Nat} {N : Int} {σ : Int → va_E} (C : gOk X cc nL own R ret) {a off : Int} {tgt : Nat} (hd : decode cc pc = .ok (.ifCond .ne off, 3)) (ht : (pc : Int) + off = (tgt : Int)) (ha : -2147483648 ≤ a ∧ a < 2147483648) (kt : a ≠ 0 → V X kc kn Q (tgt) L (st) ad N σ) (kf : a = 0 → V X kc kn Q (pc + 3) L (st) ad N σ) : V X kc kn Q (pc) L (.int (gI a) :: st) ad N σ := fun ls H locs hl hw => lv_if_ne C.1 C.2.1 hd ht (fun h => kt (fun e => h (gI_0 ▸ (gI_eq ha (b := 0) (by omega)).mpr e)) ls H locs hl hw) (fun h => kf ((gI_eq ha (b := 0) (by omega)).mp (by rw [gI_0]; exact h)) ls H locs hl hw)
theorem r_if_lt {X : gT} {cc : ByteArray} {nL : Nat} {own : String} {R : Room} {ret : Option FieldType} {kc kn : Nat} {Q : State → Prop} {pc : Nat} {L : List (Option Value)} {st : List Value} {ad : Int → Nat} {N : Int} {σ : Int → va_E} (C : gOk X cc nL own R ret) {a off : Int} {tgt : Nat} (hd : decode cc pc = .ok (.ifCond .lt off, 3)) (ht : (pc : Int) + off = (tgt : Int)) (ha : -2147483648 ≤ a ∧ a < 2147483648) (kt : a < 0 → V X kc kn Q (tgt) L (st) ad N σ) (kf : 0 ≤ a → V X kc kn Q (pc + 3) L (st) ad N σ) : V X kc kn Q (pc) L (.int (gI a) :: st) ad N σ := fun ls H locs hl hw => lv_if_lt C.1 C.2.1 hd ht (fun h => kt ((gI_lt ha (b := 0) (by omega)).mp (by rw [gI_0]; exact h)) ls H locs hl hw) (fun h => kf (by have := mt (gI_lt ha (b := 0) (by omega)).mpr (by rw [gI_0]; exact h); omega) ls H locs hl hw)
theorem r_if_ge {X : gT} {cc : ByteArray} {nL : Nat} {own : String} {R : Room} {ret : Option FieldType} {kc kn : Nat} {Q : State → Prop} {pc : Nat} {L : List (Option Value)} {st : List Value} {ad : Int → Nat} {N : Int} {σ : Int → va_E} (C : gOk X cc nL own R ret) {a off : Int} {tgt : Nat} (hd : decode cc pc = .ok (.ifCond .ge off, 3)) (ht : (pc : Int) + off = (tgt : Int)) (ha : -2147483648 ≤ a ∧ a < 2147483648) (kt : 0 ≤ a → V X kc kn Q (tgt) L (st) ad N σ) (kf : a < 0 → V X kc kn Q (pc + 3) L (st) ad N σ) : V X kc kn Q (pc) L (.int (gI a) :: st) ad N σ := fun ls H locs hl hw => lv_if_ge C.1 C.2.1 hd ht (fun h => kt ((gI_le (a := 0) (by omega) ha).mp (by rw [gI_0]; exact h)) ls H locs hl hw) (fun h => kf (by have := mt (gI_le (a := 0) (by omega) ha).mpr (by rw [gI_0]; exact h); omega) ls H locs hl hw)
theorem r_if_gt {X : gT} {cc : ByteArray} {nL : Nat} {own : String} {R : Room} {ret : Option FieldType} {kc kn : Nat} {Q : State → Prop} {pc : Nat} {L : List (Option Value)} {st : List Value} {ad : Int → Nat} {N : Int} {σ : Int → va_E} (C : gOk X cc nL own R ret) {a off : Int} {tgt : Nat} (hd : decode cc pc = .ok (.ifCond .gt off, 3)) (ht : (pc : Int) + off = (tgt : Int)) (ha : -2147483648 ≤ a ∧ a < 2147483648) (kt : 0 < a → V X kc kn Q (tgt) L (st) ad N σ) (kf : a ≤ 0 → V X kc kn Q (pc + 3) L (st) ad N σ) : V X kc kn Q (pc) L (.int (gI a) :: st) ad N σ := fun ls H locs hl hw => lv_if_gt C.1 C.2.1 hd ht (fun h => kt ((gI_lt (a := 0) (by omega) ha).mp (by rw [gI_0]; exact h)) ls H locs hl hw) (fun h => kf (by have := mt (gI_lt (a := 0) (by omega) ha).mpr (by rw [gI_0]; exact h); omega) ls H locs hl hw)
theorem r_if_le {X : gT} {cc : ByteArray} {nL : Nat} {own : String} {R : Room} {ret : Option FieldType} {kc kn : Nat} {Q : State → Prop} {pc : Nat} {L : List (Option Value)} {st : List Value} {ad : Int → Nat} {N : Int} {σ : Int → va_E} (C : gOk X cc nL own R ret) {a off : Int} {tgt : Nat} (hd : decode cc pc = .ok (.ifCond .le off, 3)) (ht : (pc : Int) + off = (tgt : Int)) (ha : -2147483648 ≤ a ∧ a < 2147483648) (kt : a ≤ 0 → V X kc kn Q (tgt) L (st) ad N σ) (kf : 0 < a → V X kc kn Q (pc + 3) L (st) ad N σ) : V X kc kn Q (pc) L (.int (gI a) :: st) ad N σ := fun ls H locs hl hw => lv_if_le C.1 C.2.1 hd ht (fun h => kt ((gI_le ha (b := 0) (by omega)).mp (by rw [gI_0]; exact h)) ls H locs hl hw) (fun h => kf (by have := mt (gI_le ha (b := 0) (by omega)).mpr (by rw [gI_0]; exact h); omega) ls H locs hl hw)
theorem r_ifb_eq {X : gT} {cc : ByteArray} {nL : Nat} {own : String} {R : Room} {ret : Option FieldType} {kc kn : Nat} {Q : State → Prop} {pc : Nat} {L : List (Option Value)} {st : List Value} {ad : Int → Nat} {N : Int} {σ : Int → va_E} (C : gOk X cc nL own R ret) {p : Prop} [Decidable p] {off : Int} {tgt : Nat} (hd : decode cc pc = .ok (.ifCond .eq off, 3)) (ht : (pc : Int) + off = (tgt : Int)) (kt : ¬ p → V X kc kn Q (tgt) L (st) ad N σ) (kf : p → V X kc kn Q (pc + 3) L (st) ad N σ) : V X kc kn Q (pc) L (.int (gI (gB p)) :: st) ad N σ := r_if_eq C hd ht (by have := gB_rng p; omega) (fun h => kt ((gB_0 p).mp h)) (fun h => kf (Decidable.byContradiction fun q => h ((gB_0 p).mpr q)))
theorem r_ifb_ne {X : gT} {cc : ByteArray} {nL : Nat} {own : String} {R : Room} {ret : Option FieldType} {kc kn : Nat} {Q : State → Prop} {pc : Nat} {L : List (Option Value)} {st : List Value} {ad : Int → Nat} {N : Int} {σ : Int → va_E} (C : gOk X cc nL own R ret) {p : Prop} [Decidable p] {off : Int} {tgt : Nat} (hd : decode cc pc = .ok (.ifCond .ne off, 3)) (ht : (pc : Int) + off = (tgt : Int)) (kt : p → V X kc kn Q (tgt) L (st) ad N σ) (kf : ¬ p → V X kc kn Q (pc + 3) L (st) ad N σ) : V X kc kn Q (pc) L (.int (gI (gB p)) :: st) ad N σ := r_if_ne C hd ht (by have := gB_rng p; omega) (fun h => kt (Decidable.byContradiction fun q => h ((gB_0 p).mpr q))) (fun h => kf ((gB_0 p).mp h))
theorem r_goto {X : gT} {cc : ByteArray} {nL : Nat} {own : String} {R : Room} {ret : Option FieldType} {kc kn : Nat} {Q : State → Prop} {pc : Nat} {L : List (Option Value)} {st : List Value} {ad : Int → Nat} {N : Int} {σ : Int → va_E} (C : gOk X cc nL own R ret) {off : Int} {tgt : Nat} (hd : decode cc pc = .ok (.goto off, 3)) (ht : (pc : Int) + off = (tgt : Int)) (k : V X kc kn Q (tgt) L (st) ad N σ) : V X kc kn Q (pc) L (st) ad N σ := fun ls H locs hl hw => lv_goto C.1 C.2.1 hd ht (k ls H locs hl hw)
theorem r_tabIn {X : gT} {cc : ByteArray} {nL : Nat} {own : String} {R : Room} {ret : Option FieldType} {kc kn : Nat} {Q : State → Prop} {pc : Nat} {L : List (Option Value)} {st : List Value} {ad : Int → Nat} {N : Int} {σ : Int → va_E} (C : gOk X cc nL own R ret) {a dflt lo hi off : Int} {offs : Array Int} {len tgt : Nat} (hd : decode cc pc = .ok (.tableswitch dflt lo hi offs, len)) (ha : -2147483648 ≤ a ∧ a < 2147483648) (h1 : lo ≤ a) (h2 : a ≤ hi) (ho : offs[(a - lo).toNat]? = some off) (ht : (pc : Int) + off = (tgt : Int)) (k : V X kc kn Q (tgt) L (st) ad N σ) : V X kc kn Q (pc) L (.int (gI a) :: st) ad N σ := fun ls H locs hl hw => lv_tableIn C.1 C.2.1 hd (by rw [gI_toInt ha]; omega) (by rw [gI_toInt ha]; omega) (by rw [gI_toInt ha]; exact ho) ht (k ls H locs hl hw)
theorem r_tabOut {X : gT} {cc : ByteArray} {nL : Nat} {own : String} {R : Room} {ret : Option FieldType} {kc kn : Nat} {Q : State → Prop} {pc : Nat} {L : List (Option Value)} {st : List Value} {ad : Int → Nat} {N : Int} {σ : Int → va_E} (C : gOk X cc nL own R ret) {a dflt lo hi : Int} {offs : Array Int} {len tgt : Nat} (hd : decode cc pc = .ok (.tableswitch dflt lo hi offs, len)) (ha : -2147483648 ≤ a ∧ a < 2147483648) (h : a < lo ∨ hi < a) (ht : (pc : Int) + dflt = (tgt : Int)) (k : V X kc kn Q (tgt) L (st) ad N σ) : V X kc kn Q (pc) L (.int (gI a) :: st) ad N σ := fun ls H locs hl hw => lv_tableOut C.1 C.2.1 hd (by rw [gI_toInt ha]; exact h) ht (k ls H locs hl hw)
theorem r_look {X : gT} {cc : ByteArray} {nL : Nat} {own : String} {R : Room} {ret : Option FieldType} {kc kn : Nat} {Q : State → Prop} {pc : Nat} {L : List (Option Value)} {st : List Value} {ad : Int → Nat} {N : Int} {σ : Int → va_E} (C : gOk X cc nL own R ret) {a dflt off : Int} {ps : Array (Int × Int)} {len tgt : Nat} (hd : decode cc pc = .ok (.lookupswitch dflt ps, len)) (ha : -2147483648 ≤ a ∧ a < 2147483648) (hp : (ps.toList.zip (ps.toList.drop 1)).all (fun (a, next) => a.1 < next.1) = true) (ho : Op.lookupswitch.offset ps.toList dflt a = off) (ht : (pc : Int) + off = (tgt : Int)) (k : V X kc kn Q (tgt) L (st) ad N σ) : V X kc kn Q (pc) L (.int (gI a) :: st) ad N σ := fun ls H locs hl hw => lv_lookup C.1 C.2.1 hd hp (by rw [gI_toInt ha]; exact ho) ht (k ls H locs hl hw)
theorem r_widen {X : gT} {cc : ByteArray} {nL : Nat} {own : String} {R : Room} {ret : Option FieldType} {kc kn : Nat} {Q : State → Prop} {pc : Nat} {L : List (Option Value)} {st : List Value} {ad : Int → Nat} {N : Int} {σ : Int → va_E} {k2 n2 : Nat} (h1 : kc ≤ k2) (h2 : kn ≤ n2) (k : V X k2 n2 Q (pc) L (st) ad N σ) : V X kc kn Q (pc) L (st) ad N σ := fun ls H locs hl hw => W.widen h1 h2 (k ls H locs hl hw)
theorem r_iret {X : gT} {cc : ByteArray} {nL : Nat} {own : String} {R : Room} {kc kn : Nat} {pc : Nat} {L : List (Option Value)} {ad : Int → Nat} {N : Int} {σ : Int → va_E} {post : gPost} {mc ms : Nat} {z : Int32} (C : gOk X cc nL own R (some .int)) (hd : decode cc pc = .ok (.ireturn, 1)) (hp : post (some (.int z)) ad N σ) (hk : kc ≤ mc) (hn : kn ≤ ms) : V X kc kn (gQ X post mc ms) (pc) L ([.int z]) ad N σ := fun ls H locs hl hw =>
  W.widen hk hn (W.iret C.1 C.2.1 C.2.2.2.2.2.2.1  (fun t ht hW => ⟨⟨_, ad, N, σ, rfl, hp, ⟨by rw [ht]; exact hw.1, va_K.moved hW.alike C.2.2.2.2.2.2.2.2.1, ⟨hw.2.1.1, fun _ _ _ => trivial⟩, C.2.2.2.2.2.2.2.2.2.2.1.moved hW.alike, C.2.2.2.2.2.2.2.2.2.2.2.1.moved hW.alike, C.2.2.2.2.2.2.2.2.2.2.2.2.warm hW⟩, fun k hk => by have := hw.2.1.2 k.toNat (ad k, σ k) (gl_at hk); exact this⟩, hw.2.2.F ht⟩) hw.2.2.2.2 hd C.2.2.2.2.2.1)
theorem r_zret {X : gT} {cc : ByteArray} {nL : Nat} {own : String} {R : Room} {kc kn : Nat} {pc : Nat} {L : List (Option Value)} {ad : Int → Nat} {N : Int} {σ : Int → va_E} {post : gPost} {mc ms : Nat} {z : Int} (C : gOk X cc nL own R (some .boolean)) (hd : decode cc pc = .ok (.ireturn, 1)) (hz : z = 0 ∨ z = 1) (hp : post (some (.int (gI z))) ad N σ) (hk : kc ≤ mc) (hn : kn ≤ ms) : V X kc kn (gQ X post mc ms) (pc) L ([.int (gI z)]) ad N σ := fun ls H locs hl hw =>
  W.widen hk hn (W.zret C.1 C.2.1 C.2.2.2.2.2.2.1 (by rcases hz with h | h <;> subst h <;> rfl) (fun t ht hW => ⟨⟨_, ad, N, σ, rfl, hp, ⟨by rw [ht]; exact hw.1, va_K.moved hW.alike C.2.2.2.2.2.2.2.2.1, ⟨hw.2.1.1, fun _ _ _ => trivial⟩, C.2.2.2.2.2.2.2.2.2.2.1.moved hW.alike, C.2.2.2.2.2.2.2.2.2.2.2.1.moved hW.alike, C.2.2.2.2.2.2.2.2.2.2.2.2.warm hW⟩, fun k hk => by have := hw.2.1.2 k.toNat (ad k, σ k) (gl_at hk); exact this⟩, hw.2.2.F ht⟩) hw.2.2.2.2 hd C.2.2.2.2.2.1)
theorem r_lret {X : gT} {cc : ByteArray} {nL : Nat} {own : String} {R : Room} {kc kn : Nat} {pc : Nat} {L : List (Option Value)} {ad : Int → Nat} {N : Int} {σ : Int → va_E} {post : gPost} {mc ms : Nat} {z : Int64} (C : gOk X cc nL own R (some .long)) (hd : decode cc pc = .ok (.lreturn, 1)) (hp : post (some (.long z)) ad N σ) (hk : kc ≤ mc) (hn : kn ≤ ms) : V X kc kn (gQ X post mc ms) (pc) L ([.long z]) ad N σ := fun ls H locs hl hw =>
  W.widen hk hn (W.lret C.1 C.2.1 C.2.2.2.2.2.2.1  (fun t ht hW => ⟨⟨_, ad, N, σ, rfl, hp, ⟨by rw [ht]; exact hw.1, va_K.moved hW.alike C.2.2.2.2.2.2.2.2.1, ⟨hw.2.1.1, fun _ _ _ => trivial⟩, C.2.2.2.2.2.2.2.2.2.2.1.moved hW.alike, C.2.2.2.2.2.2.2.2.2.2.2.1.moved hW.alike, C.2.2.2.2.2.2.2.2.2.2.2.2.warm hW⟩, fun k hk => by have := hw.2.1.2 k.toNat (ad k, σ k) (gl_at hk); exact this⟩, hw.2.2.F ht⟩) hw.2.2.2.2 hd C.2.2.2.2.2.1)
theorem r_dret {X : gT} {cc : ByteArray} {nL : Nat} {own : String} {R : Room} {kc kn : Nat} {pc : Nat} {L : List (Option Value)} {ad : Int → Nat} {N : Int} {σ : Int → va_E} {post : gPost} {mc ms : Nat} {z : UInt64} (C : gOk X cc nL own R (some .double)) (hd : decode cc pc = .ok (.dreturn, 1)) (hp : post (some (.double z)) ad N σ) (hk : kc ≤ mc) (hn : kn ≤ ms) : V X kc kn (gQ X post mc ms) (pc) L ([.double z]) ad N σ := fun ls H locs hl hw =>
  W.widen hk hn (W.dret C.1 C.2.1 C.2.2.2.2.2.2.1  (fun t ht hW => ⟨⟨_, ad, N, σ, rfl, hp, ⟨by rw [ht]; exact hw.1, va_K.moved hW.alike C.2.2.2.2.2.2.2.2.1, ⟨hw.2.1.1, fun _ _ _ => trivial⟩, C.2.2.2.2.2.2.2.2.2.2.1.moved hW.alike, C.2.2.2.2.2.2.2.2.2.2.2.1.moved hW.alike, C.2.2.2.2.2.2.2.2.2.2.2.2.warm hW⟩, fun k hk => by have := hw.2.1.2 k.toNat (ad k, σ k) (gl_at hk); exact this⟩, hw.2.2.F ht⟩) hw.2.2.2.2 hd C.2.2.2.2.2.1)
theorem r_vret {X : gT} {cc : ByteArray} {nL : Nat} {own : String} {R : Room} {kc kn : Nat} {pc : Nat} {L : List (Option Value)} {ad : Int → Nat} {N : Int} {σ : Int → va_E} {post : gPost} {mc ms : Nat}  (C : gOk X cc nL own R none) (hd : decode cc pc = .ok (.return_, 1)) (hp : post none ad N σ) (hk : kc ≤ mc) (hn : kn ≤ ms) : V X kc kn (gQ X post mc ms) (pc) L ([]) ad N σ := fun ls H locs hl hw =>
  W.widen hk hn (W.vret C.1 C.2.1 C.2.2.2.2.2.2.1  (fun t ht hW => ⟨⟨_, ad, N, σ, rfl, hp, ⟨by rw [ht]; exact hw.1, va_K.moved hW.alike C.2.2.2.2.2.2.2.2.1, ⟨hw.2.1.1, fun _ _ _ => trivial⟩, C.2.2.2.2.2.2.2.2.2.2.1.moved hW.alike, C.2.2.2.2.2.2.2.2.2.2.2.1.moved hW.alike, C.2.2.2.2.2.2.2.2.2.2.2.2.warm hW⟩, fun k hk => by have := hw.2.1.2 k.toNat (ad k, σ k) (gl_at hk); exact this⟩, hw.2.2.F ht⟩) hw.2.2.2.2 hd C.2.2.2.2.2.1)
theorem r_aret {X : gT} {cc : ByteArray} {nL : Nat} {own : String} {R : Room} {kc kn : Nat} {pc : Nat} {L : List (Option Value)} {ad : Int → Nat} {N : Int} {σ : Int → va_E} {post : gPost} {mc ms : Nat} {z : Nat} {rc : String} (C : gOk X cc nL own R (some (.object rc))) (hd : decode cc pc = .ok (.areturn, 1)) (hp : post (some (.ref z)) ad N σ) (hk : kc ≤ mc) (hn : kn ≤ ms) : V X kc kn (gQ X post mc ms) (pc) L ([.ref z]) ad N σ := fun ls H locs hl hw =>
  W.widen hk hn (W.aret C.1 C.2.1 C.2.2.2.2.2.2.1 (Or.inl ⟨_, rfl⟩) (Or.inr ⟨_, rfl⟩) (fun t ht hW => ⟨⟨_, ad, N, σ, rfl, hp, ⟨by rw [ht]; exact hw.1, va_K.moved hW.alike C.2.2.2.2.2.2.2.2.1, ⟨hw.2.1.1, fun _ _ _ => trivial⟩, C.2.2.2.2.2.2.2.2.2.2.1.moved hW.alike, C.2.2.2.2.2.2.2.2.2.2.2.1.moved hW.alike, C.2.2.2.2.2.2.2.2.2.2.2.2.warm hW⟩, fun k hk => by have := hw.2.1.2 k.toNat (ad k, σ k) (gl_at hk); exact this⟩, hw.2.2.F ht⟩) hw.2.2.2.2 hd C.2.2.2.2.2.1)
end
section
/-! rows over V that read and write the world; calls -/
section HEAP
variable {X : gT} {cc : ByteArray} {nL : Nat} {own : String} {R : Room} {ret : Option FieldType} {kc kn : Nat} {Q : State → Prop} {pc : Nat} {L : List (Option Value)} {st : List Value} {ad : Int → Nat} {N : Int} {σ : Int → va_E}
theorem r_get (C : gOk X cc nL own R ret) {idx ci f n : Nat} {CN : String} {T : u_T} {ty : Nat → FieldType} (fl : gFL own idx ci f CN T n ty) (hd : decode cc pc = .ok (.getfield idx, 3)) {a : Int} (ha : 0 ≤ a ∧ a < N) {fs : List Value} {v : Value} (hσ : σ a = .inr (ci, fs)) (hv : fs[f]? = some v)
    (k : V X kc kn Q (pc + 3) L (v :: st) ad N σ) : V X kc kn Q pc L (.ref (ad a) :: st) ad N σ := fun ls H locs hl hw =>
  va_get C.1 C.2.1 (Ts := WS) C.2.2.2.2.1 fl.1 C.2.2.2.1 C.2.2.2.2.2.2.2.2.1 hw.1 a.toNat (by rw [gl_at ha, hσ]) fl.2.1 f fl.2.2.1 (C.2.2.2.2.1 _ fl.2.2.2.1) (fun _ h => h) hv hd (k ls H locs hl hw)
theorem r_put (C : gOk X cc nL own R ret) {idx ci f n : Nat} {CN : String} {T : u_T} {ty : Nat → FieldType} (fl : gFL own idx ci f CN T n ty) (hd : decode cc pc = .ok (.putfield idx, 3)) {a : Int} (ha : 0 ≤ a ∧ a < N) {fs : List Value} {v : Value} (hσ : σ a = .inr (ci, fs)) (hfin : (T f).2.2.2 = false) (hn : narrow (ty f) v = v) (hfit : fits (ty f) v = true) (hlen : f < fs.length)
    (k : V X kc kn Q (pc + 3) L st ad N (up σ a (.inr (ci, fs.set f v)))) : V X kc kn Q pc L (v :: .ref (ad a) :: st) ad N σ := fun ls H locs hl hw =>
  va_put C.1 C.2.1 (Ts := WS) C.2.2.2.2.1 fl.1 ty fl.2.2.2.2.1 fl.2.2.2.2.2 C.2.2.2.1 C.2.2.2.2.2.2.2.2.1 hw.1 hw.2.1 hw.2.2 a.toNat (by rw [gl_at ha, hσ]) fl.2.1 f fl.2.2.1 (C.2.2.2.2.1 _ fl.2.2.2.1) (fun _ h => h) hfin (fl.2.2.2.2.1 f fl.2.2.1) hn hfit hlen hd
    (fun H1 locs1 hP hD hS => k ls H1 locs1 hl ⟨by rw [gl_set ha] at hP; exact hP, by rw [gl_set ha] at hD; exact hD, hS⟩)
theorem r_putF (C : gOk X cc nL own R ret) (hini : (gme X).name = "<init>") {idx ci f n : Nat} {CN : String} {T : u_T} {ty : Nat → FieldType} (fl : gFL own idx ci f CN T n ty) (hd : decode cc pc = .ok (.putfield idx, 3)) {a : Int} (ha : 0 ≤ a ∧ a < N) {fs : List Value} {v : Value} (hσ : σ a = .inr (ci, fs)) (hfin : (T f).2.2.2 = true) (hdecl : (T f).1 = own) (hn : narrow (ty f) v = v) (hfit : fits (ty f) v = true) (hlen : f < fs.length)
    (k : V X kc kn Q (pc + 3) L st ad N (up σ a (.inr (ci, fs.set f v)))) : V X kc kn Q pc L (v :: .ref (ad a) :: st) ad N σ := fun ls H locs hl hw =>
  va_putF C.1 C.2.1 (Ts := WS) C.2.2.2.2.1 fl.1 ty fl.2.2.2.2.1 fl.2.2.2.2.2 C.2.2.2.1 C.2.2.2.2.2.2.2.2.1 hw.1 hw.2.1 hw.2.2 a.toNat (by rw [gl_at ha, hσ]) fl.2.1 f fl.2.2.1 (C.2.2.2.2.1 _ fl.2.2.2.1) (fun _ h => h) hfin hini hdecl (fl.2.2.2.2.1 f fl.2.2.1) hn hfit hlen hd
    (fun H1 locs1 hP hD hS => k ls H1 locs1 hl ⟨by rw [gl_set ha] at hP; exact hP, by rw [gl_set ha] at hD; exact hD, hS⟩)
/-- an array of ints (chars) that holds g -/
def gAr (c : ClassId) (n : Nat) (g : Int → Int) : va_E := .inl (c, n, .inl (fun j => if j < n then gI (g (j : Int)) else 0))
theorem gAr_ext {c : ClassId} {n : Nat} {g g' : Int → Int} (h : ∀ j : Int, 0 ≤ j → j < n → g j = g' j) : gAr c n g = gAr c n g' := by
  unfold gAr
  have e : (fun j : Nat => if j < n then gI (g (j : Int)) else 0) = (fun j : Nat => if j < n then gI (g' (j : Int)) else 0) := by
    funext j
    by_cases hj : j < n
    · rw [if_pos hj, if_pos hj, h j (by omega) (by omega)]
    · rw [if_neg hj, if_neg hj]
  rw [e]
theorem gAr_at {n : Nat} {g : Int → Int} {i : Int} (hi : 0 ≤ i ∧ i < n) : (if i.toNat < n then gI (g (i.toNat : Int)) else 0) = gI (g i) := by
  rw [if_pos (by omega), Int.toNat_of_nonneg hi.1]
theorem gAr_upd (g : Int → Int) {n : Nat} {i : Int} (hi : 0 ≤ i ∧ i < n) (z : Int) : upd (fun j : Nat => if j < n then gI (g (j : Int)) else 0) i.toNat (gI z) = fun j : Nat => if j < n then gI (up g i z (j : Int)) else 0 := by
  funext j
  unfold upd up
  by_cases h : j = i.toNat
  · rw [if_pos h, if_pos (by omega), if_pos (by omega)]
  · rw [if_neg h, if_neg (show ¬ (j : Int) = i by omega)]
theorem r_iald (C : gOk X cc nL own R ret) (hd : decode cc pc = .ok (.iaload, 1)) {a i : Int} {n : Nat} {g : Int → Int} (ha : 0 ≤ a ∧ a < N) (hσ : σ a = gAr (gty X 0) n g) (hi : 0 ≤ i ∧ i < n) (hn : n < 2147483648)
    (k : V X kc kn Q (pc + 1) L (.int (gI (g i)) :: st) ad N σ) : V X kc kn Q pc L (.int (gI i) :: .ref (ad a) :: st) ad N σ := fun ls H locs hl hw =>
  va_iald C.1 C.2.1 C.2.2.2.2.2.2.2.2.1 hw.1 a.toNat 0 (by rw [gl_at ha, hσ]; rfl) rfl (gI_in hi hn) hd (by rw [gI_clamp (by omega), gAr_at hi]; exact k ls H locs hl hw)
theorem r_iast (C : gOk X cc nL own R ret) (hd : decode cc pc = .ok (.iastore, 1)) {a i z : Int} {n : Nat} {g : Int → Int} (ha : 0 ≤ a ∧ a < N) (hσ : σ a = gAr (gty X 0) n g) (hi : 0 ≤ i ∧ i < n) (hn : n < 2147483648)
    (k : V X kc kn Q (pc + 1) L st ad N (up σ a (gAr (gty X 0) n (up g i z)))) : V X kc kn Q pc L (.int (gI z) :: .int (gI i) :: .ref (ad a) :: st) ad N σ := fun ls H locs hl hw =>
  va_iast C.1 C.2.1 C.2.2.2.2.2.2.2.2.1 hw.1 hw.2.1 hw.2.2 a.toNat 0 (by rw [gl_at ha, hσ]; rfl) rfl (gI_in hi hn) hd (fun H1 locs1 hP hD hS => by
    rw [gI_clamp (by omega), gAr_upd g hi, gl_set ha] at hP hD
    exact k ls H1 locs1 hl ⟨hP, hD, hS⟩)
theorem r_cald (C : gOk X cc nL own R ret) (hd : decode cc pc = .ok (.caload, 1)) {a i : Int} {n : Nat} {g : Int → Int} (ha : 0 ≤ a ∧ a < N) (hσ : σ a = gAr (gty X 1) n g) (hi : 0 ≤ i ∧ i < n) (hn : n < 2147483648)
    (k : V X kc kn Q (pc + 1) L (.int (gI (g i)) :: st) ad N σ) : V X kc kn Q pc L (.int (gI i) :: .ref (ad a) :: st) ad N σ := fun ls H locs hl hw =>
  va_cald C.1 C.2.1 C.2.2.2.2.2.2.2.2.1 hw.1 a.toNat 1 (by rw [gl_at ha, hσ]; rfl) rfl (gI_in hi hn) hd (by rw [gI_clamp (by omega), gAr_at hi]; exact k ls H locs hl hw)
theorem gI_char {z : Int} (h : 0 ≤ z ∧ z < 65536) : ((gI z).toUInt32 % 65536).toInt32 = gI z := lg_i2c_word (by rw [gI_toInt (by omega)]; exact h.1) (by rw [gI_toInt (by omega)]; exact h.2)
theorem gI_nar {z : Int} (h : 0 ≤ z ∧ z < 65536) : vp_nar .char (gI z) = gI z := by
  rw [vp_nar_char, ← lg_i2c_nf, gI_char h]
theorem r_cast (C : gOk X cc nL own R ret) (hd : decode cc pc = .ok (.castore, 1)) {a i z : Int} {n : Nat} {g : Int → Int} (ha : 0 ≤ a ∧ a < N) (hσ : σ a = gAr (gty X 1) n g) (hi : 0 ≤ i ∧ i < n) (hn : n < 2147483648) (hz : 0 ≤ z ∧ z < 65536)
    (k : V X kc kn Q (pc + 1) L st ad N (up σ a (gAr (gty X 1) n (up g i z)))) : V X kc kn Q pc L (.int (gI z) :: .int (gI i) :: .ref (ad a) :: st) ad N σ := fun ls H locs hl hw =>
  va_cast C.1 C.2.1 C.2.2.2.2.2.2.2.2.1 hw.1 hw.2.1 hw.2.2 a.toNat 1 (by rw [gl_at ha, hσ]; rfl) rfl (gI_in hi hn) hd (fun H1 locs1 hP hD hS => by
    rw [gI_nar hz, gI_clamp (by omega), gAr_upd g hi, gl_set ha] at hP hD
    exact k ls H1 locs1 hl ⟨hP, hD, hS⟩)
/-- an array of references -/
def gRA (c : ClassId) (n : Nat) (f : Nat → Option Nat) : va_E := .inl (c, n, .inr (.inr (.inr (.inr f))))
theorem r_aald (C : gOk X cc nL own R ret) (hd : decode cc pc = .ok (.aaload, 1)) {a i : Int} {n t : Nat} {f : Nat → Option Nat} {c : ClassId} {CN : String} {q : Nat} (ha : 0 ≤ a ∧ a < N) (hσ : σ a = gRA c n f) (ht : (gtys (gty X))[t]? = some (c, .object CN)) (hi : 0 ≤ i ∧ i < n) (hn : n < 2147483648) (hf : f i.toNat = some q)
    (k : V X kc kn Q (pc + 1) L (.ref q :: st) ad N σ) : V X kc kn Q pc L (.int (gI i) :: .ref (ad a) :: st) ad N σ := fun ls H locs hl hw =>
  va_aldq C.1 C.2.1 C.2.2.2.2.2.2.2.2.1 hw.1 a.toNat t (by rw [gl_at ha, hσ]; rfl) ht (gI_in hi hn) hd (by rw [gI_clamp (by omega), hf]; exact k ls H locs hl hw)
theorem r_aast (C : gOk X cc nL own R ret) (hd : decode cc pc = .ok (.aastore, 1)) {a b i : Int} {n t ci : Nat} {f : Nat → Option Nat} {c : ClassId} {r : vw_C} {vs : List Value} (ha : 0 ≤ a ∧ a < N) (hσ : σ a = gRA c n f) (ht : (gtys (gty X))[t]? = some (c, .object r.1)) (hi : 0 ≤ i ∧ i < n) (hn : n < 2147483648) (hb : 0 ≤ b ∧ b < N) (hσb : σ b = .inr (ci, vs)) (hci : vwCl[ci]? = some r)
    (k : V X kc kn Q (pc + 1) L st ad N (up σ a (gRA c n (va_up f i.toNat (some (ad b)))))) : V X kc kn Q pc L (.ref (ad b) :: .int (gI i) :: .ref (ad a) :: st) ad N σ := fun ls H locs hl hw =>
  va_astq C.1 C.2.1 C.2.2.2.2.2.2.2.2.1 hw.1 hw.2.1 hw.2.2 a.toNat t b.toNat ci (by rw [gl_at ha, hσ]; rfl) ht (by rw [gl_at hb, hσb]) hci (gI_in hi hn) hd (fun H1 locs1 hP hD hS => by
    rw [gI_clamp (by omega), gl_set ha] at hP hD
    exact k ls H1 locs1 hl ⟨hP, hD, hS⟩)
/-- an array of longs -/
def gLA (c : ClassId) (n : Nat) (f : Nat → Int64) : va_E := .inl (c, n, .inr (.inl f))
theorem r_lald (C : gOk X cc nL own R ret) (hd : decode cc pc = .ok (.laload, 1)) {a i : Int} {n : Nat} {f : Nat → Int64} (ha : 0 ≤ a ∧ a < N) (hσ : σ a = gLA (gty X 2) n f) (hi : 0 ≤ i ∧ i < n) (hn : n < 2147483648)
    (k : V X kc kn Q (pc + 1) L (.long (f i.toNat) :: st) ad N σ) : V X kc kn Q pc L (.int (gI i) :: .ref (ad a) :: st) ad N σ := fun ls H locs hl hw =>
  va_lald C.1 C.2.1 C.2.2.2.2.2.2.2.2.1 hw.1 a.toNat 2 (by rw [gl_at ha, hσ]; rfl) rfl (gI_in hi hn) hd (by rw [gI_clamp (by omega)]; exact k ls H locs hl hw)
theorem r_last (C : gOk X cc nL own R ret) (hd : decode cc pc = .ok (.lastore, 1)) {a i : Int} {z : Int64} {n : Nat} {f : Nat → Int64} (ha : 0 ≤ a ∧ a < N) (hσ : σ a = gLA (gty X 2) n f) (hi : 0 ≤ i ∧ i < n) (hn : n < 2147483648)
    (k : V X kc kn Q (pc + 1) L st ad N (up σ a (gLA (gty X 2) n (vp_updL f i.toNat z)))) : V X kc kn Q pc L (.long z :: .int (gI i) :: .ref (ad a) :: st) ad N σ := fun ls H locs hl hw =>
  va_last C.1 C.2.1 C.2.2.2.2.2.2.2.2.1 hw.1 hw.2.1 hw.2.2 a.toNat 2 (by rw [gl_at ha, hσ]; rfl) rfl (gI_in hi hn) hd (fun H1 locs1 hP hD hS => by
    rw [gI_clamp (by omega), gl_set ha] at hP hD
    exact k ls H1 locs1 hl ⟨hP, hD, hS⟩)
/-- System.arraycopy of ints -/
def gcpy (f g : Int → Int) (sp dp n : Int) : Int → Int := fun j => if dp ≤ j ∧ j < dp + n then f (sp + (j - dp)) else g j
theorem r_copy (C : gOk X cc nL own R ret) {idx : Nat} (hk : Cond.methodLink own idx arraycopyName ∈ WS ∧ Cond.native arraycopyName ∈ WS ∧ Cond.static arraycopyName ∈ WS ∧ Cond.initialized "java/lang/System" ∈ WS) (hd : decode cc pc = .ok (.invokestatic idx, 3)) {a b sp dp m : Int} {n0 n1 : Nat} {f g : Int → Int} (ha : 0 ≤ a ∧ a < N) (hb : 0 ≤ b ∧ b < N) (hσa : σ a = gAr (gty X 0) n0 f) (hσb : σ b = gAr (gty X 0) n1 g) (h1 : 0 ≤ sp) (h2 : 0 ≤ dp) (h3 : 0 ≤ m) (h4 : sp + m ≤ n0) (h5 : dp + m ≤ n1) (hn : n0 < 2147483648 ∧ n1 < 2147483648) (hL : L.length = nL) (hf : 1 ≤ R.frames) (hlo : (st.map fun v => v.category).sum + (nativeFrameWords "java/lang/System" "arraycopy" 5 + 11) ≤ R.locals)
    (k : V X kc kn Q (pc + 3) L st ad N (up σ b (gAr (gty X 0) n1 (gcpy f g sp dp m)))) : V X kc kn Q pc L (.int (gI m) :: .int (gI dp) :: .ref (ad b) :: .int (gI sp) :: .ref (ad a) :: st) ad N σ := fun ls H locs hl hw => by
  have hR := C.2.2.2.2.2.2.2.1
  have e1 := gI_clamp (z := sp) (by omega)
  have e2 := gI_clamp (z := dp) (by omega)
  have e3 := gI_clamp (z := m) (by omega)
  have nn : ∀ z : Int, 0 ≤ z → z < 2147483648 → ¬ gI z < 0 := fun z h h' => by rw [← gI_0, gI_lt (by omega) (by omega)]; omega
  refine va_copyi C.1 C.2.1 (by rw [C.2.2.1, hl.1, hL]) C.2.2.2.1 (C.2.2.2.2.1 _ hk.1) (C.2.2.2.2.1 _ hk.2.1) (C.2.2.2.2.1 _ hk.2.2.1) (C.2.2.2.2.1 _ hk.2.2.2) C.2.2.2.2.2.2.2.2.1 hw.1 hw.2.1 hw.2.2 a.toNat b.toNat 0 0 (by rw [gl_at ha, hσa]; rfl) (by rw [gl_at hb, hσb]; rfl) rfl rfl rfl (nn _ h1 (by omega)) (nn _ h2 (by omega)) (nn _ h3 (by omega)) (by rw [e1, e3]; omega) (by rw [e2, e3]; omega) (fun _ _ => rfl) (by rw [hR]; exact hf) (by rw [hR]; exact hlo) hd (fun H1 locs1 hP hD hS => ?_)
  have e : va_cpy (fun j : Nat => if j < n0 then gI (f (j : Int)) else 0) (fun j : Nat => if j < n1 then gI (g (j : Int)) else 0) (gI sp).toNatClampNeg (gI dp).toNatClampNeg (gI m).toNatClampNeg = fun j : Nat => if j < n1 then gI (gcpy f g sp dp m (j : Int)) else 0 := by
    rw [e1, e2, e3]
    funext j
    unfold va_cpy gcpy
    by_cases h : dp.toNat ≤ j ∧ j < dp.toNat + m.toNat
    · rw [if_pos h]
      show (if sp.toNat + (j - dp.toNat) < n0 then gI (f ((sp.toNat + (j - dp.toNat) : Nat) : Int)) else 0) = _
      rw [if_pos (by omega), if_pos (by omega), if_pos (by omega)]
      rw [show ((sp.toNat + (j - dp.toNat) : Nat) : Int) = sp + ((j : Int) - dp) by omega]
    · rw [if_neg h, if_neg (show ¬ (dp ≤ (j : Int) ∧ (j : Int) < dp + m) by omega)]
  rw [e, gl_set hb] at hP hD
  exact k ls H1 locs1 hl ⟨hP, hD, hS⟩
/-- Math.max, Math.min -/
theorem r_max (C : gOk X cc nL own R ret) {idx : Nat} (hk : Cond.methodLink own idx Lib.Math.max.name ∈ WS ∧ Cond.static Lib.Math.max.name ∈ WS ∧ Cond.initialized "java/lang/Math" ∈ WS ∧ Cond.code Lib.Math.max.name Lib.Math.max.code 2 (some .int) ∈ WS) (hd : decode cc pc = .ok (.invokestatic idx, 3)) {a b : Int} (ha : -2147483648 ≤ a ∧ a < 2147483648) (hb : -2147483648 ≤ b ∧ b < 2147483648) (hL : L.length = nL) (hR : 1 ≤ R.frames ∧ (st.map fun v => v.category).sum + 13 ≤ R.locals) (hc : kc ≤ R.cells ∧ kn ≤ R.slots)
    (k : V X kc kn Q (pc + 3) L (.int (gI (max a b)) :: st) ad N σ) : V X kc kn Q pc L (.int (gI b) :: .int (gI a) :: st) ad N σ := fun ls H locs hl hw => by
  have hR' := C.2.2.2.2.2.2.2.1
  refine va_mmax C.1 C.2.1 (by rw [C.2.2.1, hl.1, hL]) C.2.2.2.1 (C.2.2.2.2.1 _ hk.1) (C.2.2.2.2.1 _ hk.2.1) (C.2.2.2.2.1 _ hk.2.2.1) (C.2.2.2.2.1 _ hk.2.2.2) (by rw [hR']; exact hR.1) (by rw [hR']; exact hR.2) (by rw [hR']; exact hc.1) (by rw [hR']; exact hc.2) hd ?_
  have e : (if gI a < gI b then gI b else gI a) = gI (max a b) := by
    by_cases h : a < b
    · rw [if_pos ((gI_lt ha hb).mpr h), Int.max_eq_right (by omega)]
    · rw [if_neg (mt (gI_lt ha hb).mp h), Int.max_eq_left (by omega)]
  rw [e]
  exact k ls H locs hl hw
theorem r_min (C : gOk X cc nL own R ret) {idx : Nat} (hk : Cond.methodLink own idx Lib.Math.min.name ∈ WS ∧ Cond.static Lib.Math.min.name ∈ WS ∧ Cond.initialized "java/lang/Math" ∈ WS ∧ Cond.code Lib.Math.min.name Lib.Math.min.code 2 (some .int) ∈ WS) (hd : decode cc pc = .ok (.invokestatic idx, 3)) {a b : Int} (ha : -2147483648 ≤ a ∧ a < 2147483648) (hb : -2147483648 ≤ b ∧ b < 2147483648) (hL : L.length = nL) (hR : 1 ≤ R.frames ∧ (st.map fun v => v.category).sum + 13 ≤ R.locals) (hc : kc ≤ R.cells ∧ kn ≤ R.slots)
    (k : V X kc kn Q (pc + 3) L (.int (gI (min a b)) :: st) ad N σ) : V X kc kn Q pc L (.int (gI b) :: .int (gI a) :: st) ad N σ := fun ls H locs hl hw => by
  have hR' := C.2.2.2.2.2.2.2.1
  refine va_mmin C.1 C.2.1 (by rw [C.2.2.1, hl.1, hL]) C.2.2.2.1 (C.2.2.2.2.1 _ hk.1) (C.2.2.2.2.1 _ hk.2.1) (C.2.2.2.2.1 _ hk.2.2.1) (C.2.2.2.2.1 _ hk.2.2.2) (by rw [hR']; exact hR.1) (by rw [hR']; exact hR.2) (by rw [hR']; exact hc.1) (by rw [hR']; exact hc.2) hd ?_
  have e : (if gI b < gI a then gI b else gI a) = gI (min a b) := by
    by_cases h : b < a
    · rw [if_pos ((gI_lt hb ha).mpr h), Int.min_eq_right (by omega)]
    · rw [if_neg (mt (gI_lt hb ha).mp h), Int.min_eq_left (by omega)]
  rw [e]
  exact k ls H locs hl hw
/-- Object.<init> -/
theorem r_objInit (C : gOk X cc nL own R ret) {idx : Nat} (hk : Cond.methodLink own idx objectInit ∈ WS ∧ Cond.instanceMethod objectInit ∈ WS ∧ Cond.code objectInit ⟨#[0xb1]⟩ 1 none ∈ WS) (hd : decode cc pc = .ok (.invokespecial idx, 3)) {q : Nat} (hL : L.length = nL) (hR : 1 ≤ R.frames ∧ (st.map fun v => v.category).sum + 12 ≤ R.locals)
    (k : V X kc kn Q (pc + 3) L st ad N σ) : V X kc kn Q pc L (.ref q :: st) ad N σ := fun ls H locs hl hw => by
  have hR' := C.2.2.2.2.2.2.2.1
  refine W.objInit C.1 C.2.1 C.2.2.2.1 (C.2.2.2.2.1 _ hk.1) (C.2.2.2.2.1 _ hk.2.1) (C.2.2.2.2.1 _ hk.2.2) rfl (by rw [C.2.2.1]; exact hl.1.trans hL) rfl hd (by rw [hR']; exact hR.1) ?_ (k ls H locs hl hw)
  rw [hR', show 2 * (F0 (gmi X) pc ls (.ref q :: st)).monitorRoom = 0 from rfl, Nat.zero_add]
  exact hR.2
/-- behind a call -/
theorem g_back (C : gOk X cc nL own R ret) {post : gPost} {mc ms : Nat} {rest : List Value} {a : Array Value} {ls : Array Slot} {H : Heap} {locs : List Loc}
    (hr : va_Run (gpr X) (gln X) (gev X) (gRm X) (gst X) (gmi X) (gar X) (gbl X) (gme X) (gco X) H locs kc kn mc ms (F0 (gmi X) pc ls st) rest (gQc (gDD X) (gty X) (gA ad N H.size) post a) (gA ad N H.size)) (hl : lv_has ls L.length (lpos 0 L)) (hw : gWd X ad N σ H locs)
    (kk : ∀ (rv : Option Value) (ad' : Int → Nat) (N' : Int) (σ' : Int → va_E), post rv ad' N' σ' → V X (kc + mc) (kn + ms) Q (pc + 3) L (rv.toList ++ rest) ad' N' σ') : gW X H locs kc kn Q (F0 (gmi X) pc ls st) := by
  intro T hT X0
  obtain ⟨v, st₀, t, T', L1, h0, X', hL, e1, e2, ⟨⟨rv, ad', N', σ', hv, hp, hg, hin⟩, hz, hk⟩, stp⟩ := hr T hT X0
  cases hv
  rw [h0] at hz hk
  have hf := gA_free C.2.2.2.2.2.2.2.2.2.1 hw
  obtain ⟨t2, a1, b1⟩ := kk v ad' N' σ' hp ls T'.heap (locs ++ L1) hl
    ⟨by rw [e1]; exact hg.1, ⟨hg.2.2.1.1, fun k q hq => by
      obtain ⟨g1, g2⟩ := gl_of hq
      rw [g2]
      exact hf _ (hin k g1)⟩, ⟨Nat.le_trans hw.2.2.1 (by rw [e1]; exact hz), fun q h1 h2 => by rw [e1, hk q (Nat.lt_of_lt_of_le h1 hw.2.2.1) (fun z => h2 (hf q z))]; exact hw.2.2.2.1 q h1 h2, fun q hq => by
      rcases List.mem_append.mp hq with h | h
      · exact hw.2.2.2.2 q h
      · exact hf _ (hL q h)⟩⟩ T' rfl X'
  exact ⟨t2, stp t2 a1, b1⟩
theorem g_blind {av : List Value} {sz : Nat} {D : va_G} {ty : Nat → ClassId} : FrameBlind (va_Pc av (fun U => U.heap.size = sz ∧ gw D ty ad N σ U)) := fun a U g mk q => by
  obtain ⟨q0, q1, qP, qK, qD, qO, qO3, qN⟩ := q
  exact ⟨q0, q1, qP, va_K.moved (u := U) (U := U.calling g mk a) (Vm.Alike.refl U.vm) qK, qD, qO.moved (U := U.calling g mk a) (Vm.Alike.refl U.vm), qO3.moved (U := U.calling g mk a) (Vm.Alike.refl U.vm), gNs.same (U := U.calling g mk a) rfl qN⟩
theorem g_good {y : MethodName} {b : ByteArray} {n : Nat} {r : Option FieldType} (h : Cond.code y b n r ∈ WS) : GoodIn WS (Cond.code y b n r :: WS) := fun w hw => (List.mem_cons.mp hw).elim (fun e => by subst e; exact WS_good _ h) (WS_good w)
theorem g_pre {s U : State} {D : va_G} {ty : Nat → ClassId} {H : Heap} (hP : va_P D vwCl (gl ad N σ) H) (hD : ∃ A, va_D A (gl ad N σ)) (hK : va_K D vwCl (gtys ty) s) (hO : va_AO RX1 s ∧ va_AO RX3 s ∧ gNs s) (hU : U.heap = H) (hW : s.WarmedH U.vm) : U.heap.size = H.size ∧ gw D ty ad N σ U := by
  obtain ⟨A, hD⟩ := hD
  exact ⟨by rw [hU], by rw [hU]; exact hP, va_K.moved hW.alike hK, ⟨hD.1, fun _ _ _ => trivial⟩, hO.1.moved hW.alike, hO.2.1.moved hW.alike, hO.2.2.warm hW⟩
variable {idx nY np ci f0 lo : Nat} {y : MethodName} {cY : ByteArray} {rY : Option FieldType} {RY : Room} {As rest : List Value} {post : gPost} {fs : List Value}
theorem r_callV (C : gOk X cc nL own R ret) {CY : String} (w : gCV own idx CY y cY nY rY np) {b : Int} (hM : gMet (gln X) y cY nY rY RY (.ref (ad b) :: As) (gDD X) (gty X) ad N σ post) (hd : decode cc pc = .ok (.invokevirtual idx, 3)) (hst : st = As.reverse ++ .ref (ad b) :: rest) (hb : 0 ≤ b ∧ b < N) (hσ : σ b = .inr (ci, fs)) {T : u_T} {n : Nat} (hci : vwCl[ci]? = some (CY, T, n)) (hn : As.length = np) (hL : L.length = nL) (hW : (rest.map fun v => v.category).sum ≤ 8) (hR : RY.frames + 1 ≤ R.frames ∧ 8 + (nY + 11) + RY.locals ≤ R.locals) (hc : kc + RY.cells ≤ R.cells ∧ kn + RY.slots ≤ R.slots)
    (kk : ∀ (rv : Option Value) (ad' : Int → Nat) (N' : Int) (σ' : Int → va_E), post rv ad' N' σ' → V X (kc + RY.cells) (kn + RY.slots) Q (pc + 3) L (rv.toList ++ rest) ad' N' σ') : V X kc kn Q pc L st ad N σ := fun ls H locs hl hw => by
  have hR' := C.2.2.2.2.2.2.2.1
  have hts := C.2.2.2.2.1
  subst hst
  obtain ⟨w1, w2, w3, w4, w5, rfl, w7, w8, w9⟩ := w
  refine g_back C (va_runV (As := As) (rest := rest) ⟨C.1, C.2.1, C.2.2.1, C.2.2.2.1, hts⟩ (hM H.size) ⟨callB_of np hts (g_good w5) rfl rfl rfl (hts _ w4) (hts _ w1) ⟨w7, w8, w9⟩ (by rw [hR']; exact hR), hts _ w2, hts _ w3⟩ ⟨g_blind, ?_, fun U hU hW => ⟨rfl, g_pre hw.1 ⟨_, hw.2.1⟩ C.2.2.2.2.2.2.2.2.1 C.2.2.2.2.2.2.2.2.2.2 hU hW⟩⟩ rfl hn (hl.1.trans hL) rfl (lv_room hW) hd (by rw [hR']; exact hc)) hl hw kk
  exact va_recv (ci := ci) (q0 := b.toNat) C.2.2.2.2.2.2.2.2.1 hw.1 hci (by rw [gl_at hb, hσ])
theorem r_callS (C : gOk X cc nL own R ret) (w : gCS own idx y cY nY rY np) (hM : gMet (gln X) y cY nY rY RY As (gDD X) (gty X) ad N σ post) (hd : decode cc pc = .ok (.invokestatic idx, 3)) (hst : st = As.reverse ++ rest) (hn : As.length = np) (hL : L.length = nL) (hW : (rest.map fun v => v.category).sum ≤ 8) (hR : RY.frames + 1 ≤ R.frames ∧ 8 + (nY + 11) + RY.locals ≤ R.locals) (hc : kc + RY.cells ≤ R.cells ∧ kn + RY.slots ≤ R.slots)
    (kk : ∀ (rv : Option Value) (ad' : Int → Nat) (N' : Int) (σ' : Int → va_E), post rv ad' N' σ' → V X (kc + RY.cells) (kn + RY.slots) Q (pc + 3) L (rv.toList ++ rest) ad' N' σ') : V X kc kn Q pc L st ad N σ := fun ls H locs hl hw => by
  have hR' := C.2.2.2.2.2.2.2.1
  have hts := C.2.2.2.2.1
  subst hst
  obtain ⟨w1, w2, w4, w5, w7, w8, w9⟩ := w
  exact g_back C (va_runS (As := As) (rest := rest) ⟨C.1, C.2.1, C.2.2.1, C.2.2.2.1, hts⟩ (hM H.size) ⟨callB_of np hts (g_good w5) rfl rfl rfl (hts _ w4) (hts _ w1) ⟨w7, w8, w9⟩ (by rw [hR']; exact hR), hts _ w2⟩ ⟨g_blind, fun U hU hW => ⟨rfl, g_pre hw.1 ⟨_, hw.2.1⟩ C.2.2.2.2.2.2.2.2.1 C.2.2.2.2.2.2.2.2.2.2 hU hW⟩⟩ rfl hn (hl.1.trans hL) rfl (lv_room hW) hd (by rw [hR']; exact hc)) hl hw kk
theorem r_callI (C : gOk X cc nL own R ret) (w : gCI own idx y cY nY np) {q : Nat} (hM : gMet (gln X) y cY nY none RY (.ref q :: As) (gDD X) (gty X) ad N σ post) (hd : decode cc pc = .ok (.invokespecial idx, 3)) (hst : st = As.reverse ++ .ref q :: rest) (hn : As.length = np) (hL : L.length = nL) (hW : (rest.map fun v => v.category).sum ≤ 8) (hR : RY.frames + 1 ≤ R.frames ∧ 8 + (nY + 11) + RY.locals ≤ R.locals) (hc : kc + RY.cells ≤ R.cells ∧ kn + RY.slots ≤ R.slots)
    (kk : ∀ (rv : Option Value) (ad' : Int → Nat) (N' : Int) (σ' : Int → va_E), post rv ad' N' σ' → V X (kc + RY.cells) (kn + RY.slots) Q (pc + 3) L (rv.toList ++ rest) ad' N' σ') : V X kc kn Q pc L st ad N σ := fun ls H locs hl hw => by
  have hR' := C.2.2.2.2.2.2.2.1
  have hts := C.2.2.2.2.1
  subst hst
  obtain ⟨w1, w2, w4, w5, w6, w7, w8, w9⟩ := w
  exact g_back C (va_runI (As := As) (rest := rest) ⟨C.1, C.2.1, C.2.2.1, C.2.2.2.1, hts⟩ (hM H.size) ⟨callB_of np hts (g_good w5) rfl rfl rfl (hts _ w4) (hts _ w1) ⟨w7, w8, w9⟩ (by rw [hR']; exact hR), w6, hts _ w2⟩ ⟨g_blind, fun U hU hW => ⟨rfl, g_pre hw.1 ⟨_, hw.2.1⟩ C.2.2.2.2.2.2.2.2.1 C.2.2.2.2.2.2.2.2.2.2 hU hW⟩⟩ rfl hn (hl.1.trans hL) rfl (lv_room hW) hd (by rw [hR']; exact hc)) hl hw kk
/-- calls of methods that make nothing, with one answer -/
theorem r_cV (C : gOk X cc nL own R ret) {CY : String} (w : gCV own idx CY y cY nY rY np) {b : Int} {v : Value} {σ' : Int → va_E} (hM : gM0 (gln X) y cY nY rY f0 lo (.ref (ad b) :: As) (gDD X) (gty X) ad N σ (some v) σ') (hd : decode cc pc = .ok (.invokevirtual idx, 3)) (hst : st = As.reverse ++ .ref (ad b) :: rest) (hb : 0 ≤ b ∧ b < N) (hσ : σ b = .inr (ci, fs)) {T : u_T} {n : Nat} (hci : vwCl[ci]? = some (CY, T, n)) (hn : As.length = np) (hL : L.length = nL) (hW : (rest.map fun v => v.category).sum ≤ 8) (hR : f0 + 1 ≤ R.frames ∧ 8 + (nY + 11) + lo ≤ R.locals) (hc : kc ≤ R.cells ∧ kn ≤ R.slots)
    (k : V X kc kn Q (pc + 3) L (v :: rest) ad N σ') : V X kc kn Q pc L st ad N σ :=
  r_callV C w hM hd hst hb hσ hci hn hL hW hR hc (fun rv ad' N' σ2 h => by obtain ⟨rfl, rfl, rfl, rfl⟩ := h; exact k)
theorem r_cVv (C : gOk X cc nL own R ret) {CY : String} (w : gCV own idx CY y cY nY rY np) {b : Int} {σ' : Int → va_E} (hM : gM0 (gln X) y cY nY rY f0 lo (.ref (ad b) :: As) (gDD X) (gty X) ad N σ none σ') (hd : decode cc pc = .ok (.invokevirtual idx, 3)) (hst : st = As.reverse ++ .ref (ad b) :: rest) (hb : 0 ≤ b ∧ b < N) (hσ : σ b = .inr (ci, fs)) {T : u_T} {n : Nat} (hci : vwCl[ci]? = some (CY, T, n)) (hn : As.length = np) (hL : L.length = nL) (hW : (rest.map fun v => v.category).sum ≤ 8) (hR : f0 + 1 ≤ R.frames ∧ 8 + (nY + 11) + lo ≤ R.locals) (hc : kc ≤ R.cells ∧ kn ≤ R.slots)
    (k : V X kc kn Q (pc + 3) L rest ad N σ') : V X kc kn Q pc L st ad N σ :=
  r_callV C w hM hd hst hb hσ hci hn hL hW hR hc (fun rv ad' N' σ2 h => by obtain ⟨rfl, rfl, rfl, rfl⟩ := h; exact k)
theorem r_cS (C : gOk X cc nL own R ret) (w : gCS own idx y cY nY rY np) {v : Value} {σ' : Int → va_E} (hM : gM0 (gln X) y cY nY rY f0 lo As (gDD X) (gty X) ad N σ (some v) σ') (hd : decode cc pc = .ok (.invokestatic idx, 3)) (hst : st = As.reverse ++ rest) (hn : As.length = np) (hL : L.length = nL) (hW : (rest.map fun v => v.category).sum ≤ 8) (hR : f0 + 1 ≤ R.frames ∧ 8 + (nY + 11) + lo ≤ R.locals) (hc : kc ≤ R.cells ∧ kn ≤ R.slots)
    (k : V X kc kn Q (pc + 3) L (v :: rest) ad N σ') : V X kc kn Q pc L st ad N σ :=
  r_callS C w hM hd hst hn hL hW hR hc (fun rv ad' N' σ2 h => by obtain ⟨rfl, rfl, rfl, rfl⟩ := h; exact k)
theorem r_cSv (C : gOk X cc nL own R ret) (w : gCS own idx y cY nY rY np) {σ' : Int → va_E} (hM : gM0 (gln X) y cY nY rY f0 lo As (gDD X) (gty X) ad N σ none σ') (hd : decode cc pc = .ok (.invokestatic idx, 3)) (hst : st = As.reverse ++ rest) (hn : As.length = np) (hL : L.length = nL) (hW : (rest.map fun v => v.category).sum ≤ 8) (hR : f0 + 1 ≤ R.frames ∧ 8 + (nY + 11) + lo ≤ R.locals) (hc : kc ≤ R.cells ∧ kn ≤ R.slots)
    (k : V X kc kn Q (pc + 3) L rest ad N σ') : V X kc kn Q pc L st ad N σ :=
  r_callS C w hM hd hst hn hL hW hR hc (fun rv ad' N' σ2 h => by obtain ⟨rfl, rfl, rfl, rfl⟩ := h; exact k)
/-- the static method of the nest's host -/
theorem r_cSN (C : gOk X cc nL own R ret) {host : String} (hk : va_Nw (.methodLinkNest own idx y host) (gst X)) (w : Cond.static y ∈ WS ∧ Cond.initialized y.cls ∈ WS ∧ Cond.code y cY nY rY ∈ WS ∧ y.cls ≠ "java/lang/invoke/MethodHandle" ∧ y.cls ≠ "java/lang/invoke/VarHandle" ∧ (parseMethodDescriptor y.desc).map (fun d => d.parameters.length) = some np) {v : Value} {σ' : Int → va_E} (hM : gM0 (gln X) y cY nY rY f0 lo As (gDD X) (gty X) ad N σ (some v) σ') (hd : decode cc pc = .ok (.invokestatic idx, 3)) (hst : st = As.reverse ++ rest) (hn : As.length = np) (hL : L.length = nL) (hW : (rest.map fun v => v.category).sum ≤ 8) (hR : f0 + 1 ≤ R.frames ∧ 8 + (nY + 11) + lo ≤ R.locals) (hc : kc ≤ R.cells ∧ kn ≤ R.slots)
    (k : V X kc kn Q (pc + 3) L (v :: rest) ad N σ') : V X kc kn Q pc L st ad N σ := fun ls H locs hl hw => by
  have hR' := C.2.2.2.2.2.2.2.1
  have hts := C.2.2.2.2.1
  subst hst
  obtain ⟨w2, w4, w5, w7, w8, w9⟩ := w
  exact g_back C (va_runSN (host := host) (As := As) (rest := rest) ⟨C.1, C.2.1, C.2.2.1, C.2.2.2.1, hts⟩ (hM H.size) ⟨va_cnB np hts (g_good w5) rfl rfl rfl hk (hts _ w4) ⟨w7, w8, w9⟩ (by rw [hR']; exact hR), hts _ w2, trivial⟩ ⟨g_blind, fun U hU hW => ⟨rfl, g_pre hw.1 ⟨_, hw.2.1⟩ C.2.2.2.2.2.2.2.2.1 C.2.2.2.2.2.2.2.2.2.2 hU hW⟩⟩ rfl hn (hl.1.trans hL) rfl (lv_room hW) hd (by rw [hR']; exact hc)) hl hw (fun rv ad' N' σ2 h => by obtain ⟨rfl, rfl, rfl, rfl⟩ := h; exact k)
/-- making -/
theorem r_new (C : gOk X cc nL own R ret) {idx ci n : Nat} {CN : String} {T : u_T} {ty : Nat → FieldType} (hin : ∀ w ∈ u_ws CN T n, w ∈ WS) (hty : ∀ k, k < n → parseFieldDescriptor (T k).2.2.1 = some (ty k)) (hk : Cond.classLink own idx CN ∈ WS ∧ Cond.instantiable CN n ∈ WS ∧ Cond.initialized CN ∈ WS) (hci : vwCl[ci]? = some (CN, T, n)) (hd : decode cc pc = .ok (.new idx, 3)) {fs : List Value} (hfs : ∀ j, j < n → defaultValue (ty j) = vp_V fs j) (hN : 0 ≤ N) (hc : kc + 1 ≤ R.cells ∧ kn + n ≤ R.slots)
    (k : ∀ q : Nat, V X (kc + 1) (kn + n) Q (pc + 3) L (.ref q :: st) (up ad N q) (N + 1) (up σ N (.inr (ci, fs)))) : V X kc kn Q pc L st ad N σ := fun ls H locs hl hw => by
  have hR' := C.2.2.2.2.2.2.2.1
  have hts := C.2.2.2.2.1
  refine va_new C.1 C.2.1 (Ts := WS) hts hin ty hty C.2.2.2.1 (hts _ hk.1) (hts _ hk.2.1) (hts _ hk.2.2) C.2.2.2.2.2.2.2.2.1 hw.1 hw.2.1 hw.2.2 C.2.2.2.2.2.2.2.2.2.1 hci hfs (by rw [hR']; exact hc.1) (by rw [hR']; exact hc.2) hd (fun q H1 hP hD hS => ?_)
  rw [gl_push hN] at hP hD
  exact k q ls H1 locs hl ⟨hP, hD, hS⟩
theorem r_newI (C : gOk X cc nL own R ret) (hk : Cond.arrayClass .int ∈ WS) (hd : decode cc pc = .ok (.newarray .int, 2)) {n : Nat} (hn : n < 100000) (hN : 0 ≤ N) (hc : kc + 1 ≤ R.cells ∧ kn + n ≤ R.slots)
    (k : ∀ q : Nat, V X (kc + 1) (kn + n) Q (pc + 2) L (.ref q :: st) (up ad N q) (N + 1) (up σ N (gAr (gty X 0) n (fun _ => 0)))) : V X kc kn Q pc L (.int (gI n) :: st) ad N σ := fun ls H locs hl hw => by
  have hR' := C.2.2.2.2.2.2.2.1
  have hts := C.2.2.2.2.1
  have hK := C.2.2.2.2.2.2.2.2.1
  refine va_newa (atype := .int) (ty := .int) (N' := n) (a0 := (n, .inl (fun j => if j < n then gI 0 else 0))) C.1 C.2.1 (hts _ hk) rfl hK hw.1 hw.2.1 hw.2.2 C.2.2.2.2.2.2.2.2.2.1 (fun cA => by rw [vp_cell_i, gI_0]; simp only [ite_self]; rfl) (by rw [← gI_0, gI_lt (by omega) (by omega)]; omega) (by rw [gI_clamp (by omega)]; rfl) (by show n * 4 ≤ _; omega) (by rw [hR']; exact hc.1) (by rw [hR']; exact hc.2) hd (fun q cA H1 hK1 hP hD hS => ?_)
  have e : cA = gty X 0 := by
    have h1 := (hK.2 0 _ rfl).2
    have h2 := (hK1.2 5 (cA, .int) rfl).2
    exact Option.some.inj (h2.symm.trans h1)
  rw [gl_push hN, e] at hP hD
  exact k q ls H1 locs hl ⟨hP, hD, hS⟩
theorem r_newC (C : gOk X cc nL own R ret) (hk : Cond.arrayClass .char ∈ WS) (hd : decode cc pc = .ok (.newarray .char, 2)) {n : Nat} (hn : n < 100000) (hN : 0 ≤ N) (hc : kc + 1 ≤ R.cells ∧ kn + n ≤ R.slots)
    (k : ∀ q : Nat, V X (kc + 1) (kn + n) Q (pc + 2) L (.ref q :: st) (up ad N q) (N + 1) (up σ N (gAr (gty X 1) n (fun _ => 0)))) : V X kc kn Q pc L (.int (gI n) :: st) ad N σ := fun ls H locs hl hw => by
  have hR' := C.2.2.2.2.2.2.2.1
  have hts := C.2.2.2.2.1
  have hK := C.2.2.2.2.2.2.2.2.1
  refine va_newa (atype := .char) (ty := .char) (N' := n) (a0 := (n, .inl (fun j => if j < n then gI 0 else 0))) C.1 C.2.1 (hts _ hk) rfl hK hw.1 hw.2.1 hw.2.2 C.2.2.2.2.2.2.2.2.2.1 (fun cA => by rw [vp_cell_i, gI_0]; simp only [ite_self]; rfl) (by rw [← gI_0, gI_lt (by omega) (by omega)]; omega) (by rw [gI_clamp (by omega)]; rfl) (by show n * 2 ≤ _; omega) (by rw [hR']; exact hc.1) (by rw [hR']; exact hc.2) hd (fun q cA H1 hK1 hP hD hS => ?_)
  have e : cA = gty X 1 := by
    have h1 := (hK.2 1 _ rfl).2
    have h2 := (hK1.2 5 (cA, .char) rfl).2
    exact Option.some.inj (h2.symm.trans h1)
  rw [gl_push hN, e] at hP hD
  exact k q ls H1 locs hl ⟨hP, hD, hS⟩
theorem r_newL (C : gOk X cc nL own R ret) (hk : Cond.arrayClass .long ∈ WS) (hd : decode cc pc = .ok (.newarray .long, 2)) {n : Nat} (hn : n < 100000) (hN : 0 ≤ N) (hc : kc + 1 ≤ R.cells ∧ kn + n ≤ R.slots)
    (k : ∀ q : Nat, V X (kc + 1) (kn + n) Q (pc + 2) L (.ref q :: st) (up ad N q) (N + 1) (up σ N (gLA (gty X 2) n (fun _ => 0)))) : V X kc kn Q pc L (.int (gI n) :: st) ad N σ := fun ls H locs hl hw => by
  have hR' := C.2.2.2.2.2.2.2.1
  have hts := C.2.2.2.2.1
  have hK := C.2.2.2.2.2.2.2.2.1
  refine va_newa (atype := .long) (ty := .long) (N' := n) (a0 := (n, .inr (.inl (fun _ => 0)))) C.1 C.2.1 (hts _ hk) rfl hK hw.1 hw.2.1 hw.2.2 C.2.2.2.2.2.2.2.2.2.1 (fun cA => by rw [vp_cell_l]; rfl) (by rw [← gI_0, gI_lt (by omega) (by omega)]; omega) (by rw [gI_clamp (by omega)]; rfl) (by show n * 8 ≤ _; omega) (by rw [hR']; exact hc.1) (by rw [hR']; exact hc.2) hd (fun q cA H1 hK1 hP hD hS => ?_)
  have e : cA = gty X 2 := by
    have h1 := (hK.2 2 _ rfl).2
    have h2 := (hK1.2 5 (cA, .long) rfl).2
    exact Option.some.inj (h2.symm.trans h1)
  rw [gl_push hN, e] at hP hD
  exact k q ls H1 locs hl ⟨hP, hD, hS⟩
theorem r_newRooms (C : gOk X cc nL own R ret) {idx : Nat} (hk : Cond.classLink own idx RX1 ∈ WS) (hd : decode cc pc = .ok (.anewarray idx, 3)) {n : Nat} (hn : n < 100000) (hN : 0 ≤ N) (hc : kc + 1 ≤ R.cells ∧ kn + n ≤ R.slots)
    (k : ∀ q : Nat, V X (kc + 1) (kn + n) Q (pc + 3) L (.ref q :: st) (up ad N q) (N + 1) (up σ N (gRA (gty X 3) n (fun _ => none)))) : V X kc kn Q pc L (.int (gI n) :: st) ad N σ := fun ls H locs hl hw => by
  have hR' := C.2.2.2.2.2.2.2.1
  have hts := C.2.2.2.2.1
  have hK := C.2.2.2.2.2.2.2.2.1
  refine va_newq (C := RX1) (N' := n) C.1 C.2.1 C.2.2.2.1 (hts _ hk) C.2.2.2.2.2.2.2.2.2.2.1 hK hw.1 hw.2.1 hw.2.2 C.2.2.2.2.2.2.2.2.2.1 (by rw [← gI_0, gI_lt (by omega) (by omega)]; omega) (by rw [gI_clamp (by omega)]; rfl) (by omega) (by rw [hR']; exact hc.1) (by rw [hR']; exact hc.2) hd (fun q cA H1 hK1 hP hD hS => ?_)
  have e : cA = gty X 3 := by
    obtain ⟨-, -, -, -, -, h1⟩ := (hK.2 3 _ rfl).2
    obtain ⟨-, -, -, -, -, h2⟩ := (hK1.2 5 (cA, .object RX1) rfl).2
    exact Option.some.inj (h2.symm.trans h1)
  rw [gl_push hN, e] at hP hD
  exact k q ls H1 locs hl ⟨hP, hD, hS⟩
theorem r_newStores (C : gOk X cc nL own R ret) {idx : Nat} (hk : Cond.classLink own idx RX3 ∈ WS) (hd : decode cc pc = .ok (.anewarray idx, 3)) {n : Nat} (hn : n < 100000) (hN : 0 ≤ N) (hc : kc + 1 ≤ R.cells ∧ kn + n ≤ R.slots)
    (k : ∀ q : Nat, V X (kc + 1) (kn + n) Q (pc + 3) L (.ref q :: st) (up ad N q) (N + 1) (up σ N (gRA (gty X 4) n (fun _ => none)))) : V X kc kn Q pc L (.int (gI n) :: st) ad N σ := fun ls H locs hl hw => by
  have hR' := C.2.2.2.2.2.2.2.1
  have hts := C.2.2.2.2.1
  have hK := C.2.2.2.2.2.2.2.2.1
  refine va_newq (C := RX3) (N' := n) C.1 C.2.1 C.2.2.2.1 (hts _ hk) C.2.2.2.2.2.2.2.2.2.2.2.1 hK hw.1 hw.2.1 hw.2.2 C.2.2.2.2.2.2.2.2.2.1 (by rw [← gI_0, gI_lt (by omega) (by omega)]; omega) (by rw [gI_clamp (by omega)]; rfl) (by omega) (by rw [hR']; exact hc.1) (by rw [hR']; exact hc.2) hd (fun q cA H1 hK1 hP hD hS => ?_)
  have e : cA = gty X 4 := by
    obtain ⟨-, -, -, -, -, h1⟩ := (hK.2 4 _ rfl).2
    obtain ⟨-, -, -, -, -, h2⟩ := (hK1.2 5 (cA, .object RX3) rfl).2
    exact Option.some.inj (h2.symm.trans h1)
  rw [gl_push hN, e] at hP hD
  exact k q ls H1 locs hl ⟨hP, hD, hS⟩
end HEAP
end
section
/-! the worlds of the two systems: a room, a store, an array of the reference -/
def rF (ad : Int → Nat) (k : Int) (ρ : Int → Int) : List Value := [.ref (ad (k + 1)), .ref (ad (k + 2)), .int (gI (ρ 6)), .int (gI (ρ 0)), .int (gI (ρ 1)), .int (gI (ρ 2)), .int (gI (ρ 3)), .int (gI (ρ 5)), .int (gI (ρ 4))]
/-- a room at k, its keys at k + 1, its things' beats at k + 2 -/
def rput (ad : Int → Nat) (ty : Nat → ClassId) (σ : Int → va_E) (k : Int) (ρ : Int → Int) : Int → va_E := fun q =>
  if q = k then .inr (1, rF ad k ρ) else if q = k + 1 then gAr (ty 0) 4 (fun i => ρ (7 + i)) else if q = k + 2 then gAr (ty 0) 4 (fun i => ρ (11 + i)) else σ q
/-- which of a room's numbers a field is -/
def rj : Nat → Int
  | 2 => 6
  | 3 => 0
  | 4 => 1
  | 5 => 2
  | 6 => 3
  | 7 => 5
  | _ => 4
section TYPED
variable {ad : Int → Nat} {ty : Nat → ClassId} {σ : Int → va_E} {k b : Int} {ρ s : Int → Int}
theorem rput_0 : rput ad ty σ k ρ k = .inr (1, rF ad k ρ) := if_pos rfl
theorem rput_1 : rput ad ty σ k ρ (k + 1) = gAr (ty 0) 4 (fun i => ρ (7 + i)) := by
  unfold rput; rw [if_neg (by omega), if_pos rfl]
theorem rput_2 : rput ad ty σ k ρ (k + 2) = gAr (ty 0) 4 (fun i => ρ (11 + i)) := by
  unfold rput; rw [if_neg (by omega), if_neg (by omega), if_pos rfl]
theorem rput_x {q : Int} (h : q < k ∨ k + 2 < q) : rput ad ty σ k ρ q = σ q := by
  unfold rput; rw [if_neg (by omega), if_neg (by omega), if_neg (by omega)]
/-- two rooms that hold the same -/
theorem rput_ext {ρ' : Int → Int} (h : ∀ j : Int, 0 ≤ j → j < 15 → ρ j = ρ' j) : rput ad ty σ k ρ = rput ad ty σ k ρ' := by
  funext q
  unfold rput
  split
  · unfold rF; rw [h 6 (by omega) (by omega), h 0 (by omega) (by omega), h 1 (by omega) (by omega), h 2 (by omega) (by omega), h 3 (by omega) (by omega), h 5 (by omega) (by omega), h 4 (by omega) (by omega)]
  · split
    · exact gAr_ext fun j h1 h2 => h _ (by omega) (by omega)
    · split
      · exact gAr_ext fun j h1 h2 => h _ (by omega) (by omega)
      · rfl
theorem rput_up (f : Nat) (hf : 2 ≤ f ∧ f < 9) (z : Int) : up (rput ad ty σ k ρ) k (.inr (1, (rF ad k ρ).set f (.int (gI z)))) = rput ad ty σ k (up ρ (rj f) z) := by
  have hj : rj f < 7 := by
    obtain ⟨h1, h2⟩ := hf
    rcases (show f = 2 ∨ f = 3 ∨ f = 4 ∨ f = 5 ∨ f = 6 ∨ f = 7 ∨ f = 8 by omega) with rfl | rfl | rfl | rfl | rfl | rfl | rfl <;> decide
  funext q
  by_cases h0 : q = k
  · subst h0
    rw [up_s, rput_0]
    obtain ⟨h1, h2⟩ := hf
    rcases (show f = 2 ∨ f = 3 ∨ f = 4 ∨ f = 5 ∨ f = 6 ∨ f = 7 ∨ f = 8 by omega) with rfl | rfl | rfl | rfl | rfl | rfl | rfl <;> simp [rF, rj, up]
  · rw [up_n h0]
    unfold rput
    rw [if_neg h0, if_neg h0]
    split
    · exact gAr_ext fun j h1 h2 => (up_n (by omega)).symm
    · split
      · exact gAr_ext fun j h1 h2 => (up_n (by omega)).symm
      · rfl
theorem rput_u1 {i : Int} (hi : 0 ≤ i ∧ i < 4) (z : Int) : up (rput ad ty σ k ρ) (k + 1) (gAr (ty 0) 4 (up (fun i => ρ (7 + i)) i z)) = rput ad ty σ k (up ρ (7 + i) z) := by
  funext q
  by_cases h1 : q = k + 1
  · subst h1
    rw [up_s, rput_1]
    refine gAr_ext fun j h1 h2 => ?_
    unfold up
    by_cases h : j = i
    · rw [if_pos h, if_pos (by omega)]
    · rw [if_neg h, if_neg (by omega)]
  · rw [up_n h1]
    unfold rput
    rw [if_neg h1, if_neg h1]
    split
    · unfold rF
      repeat rw [up_n (by omega)]
    · split
      · exact gAr_ext fun j h1 h2 => (up_n (by omega)).symm
      · rfl
theorem rput_u2 {i : Int} (hi : 0 ≤ i ∧ i < 4) (z : Int) : up (rput ad ty σ k ρ) (k + 2) (gAr (ty 0) 4 (up (fun i => ρ (11 + i)) i z)) = rput ad ty σ k (up ρ (11 + i) z) := by
  funext q
  by_cases h1 : q = k + 2
  · subst h1
    rw [up_s, rput_2]
    refine gAr_ext fun j h1 h2 => ?_
    unfold up
    by_cases h : j = i
    · rw [if_pos h, if_pos (by omega)]
    · rw [if_neg h, if_neg (by omega)]
  · rw [up_n h1]
    unfold rput
    rw [if_neg h1, if_neg h1]
    split
    · unfold rF
      repeat rw [up_n (by omega)]
    · split
      · exact gAr_ext fun j h1 h2 => (up_n (by omega)).symm
      · rfl
theorem rput_rput {ρ' : Int → Int} : rput ad ty (rput ad ty σ k ρ) k ρ' = rput ad ty σ k ρ' := by
  funext q
  unfold rput
  split
  · rfl
  · split
    · rfl
    · split <;> rfl
end TYPED
section TYPEDROWS
variable {X : gT} {cc : ByteArray} {nL : Nat} {own : String} {R : Room} {ret : Option FieldType} {kc kn : Nat} {Q : State → Prop} {pc : Nat} {L : List (Option Value)} {st : List Value} {ad : Int → Nat} {N : Int} {σ : Int → va_E} {k i z : Int} {ρ s : Int → Int} {idx f : Nat}
theorem rr_get (C : gOk X cc nL own R ret) (fl : gFL own idx 1 f RX1 TX1 9 tyX1) (hd : decode cc pc = .ok (.getfield idx, 3)) (hk : 0 ≤ k ∧ k + 3 ≤ N) {v : Value} (hv : (rF ad k ρ)[f]? = some v)
    (kk : V X kc kn Q (pc + 3) L (v :: st) ad N (rput ad (gty X) σ k ρ)) : V X kc kn Q pc L (.ref (ad k) :: st) ad N (rput ad (gty X) σ k ρ) := r_get C fl hd (by omega) rput_0 hv kk
theorem rr_put (C : gOk X cc nL own R ret) (fl : gFL own idx 1 f RX1 TX1 9 tyX1) (hd : decode cc pc = .ok (.putfield idx, 3)) {j : Int} (hk : 0 ≤ k ∧ k + 3 ≤ N) (hf : 2 ≤ f ∧ f < 9) (hj : rj f = j) (hfin : (TX1 f).2.2.2 = false) (hn : narrow (tyX1 f) (.int (gI z)) = .int (gI z)) (hfit : fits (tyX1 f) (.int (gI z)) = true)
    (kk : V X kc kn Q (pc + 3) L st ad N (rput ad (gty X) σ k (up ρ j z))) : V X kc kn Q pc L (.int (gI z) :: .ref (ad k) :: st) ad N (rput ad (gty X) σ k ρ) := r_put C fl hd (by omega) rput_0 hfin hn hfit hf.2 (by rw [rput_up f hf, hj]; exact kk)
theorem rr_kld (C : gOk X cc nL own R ret) (hd : decode cc pc = .ok (.iaload, 1)) (hk : 0 ≤ k ∧ k + 3 ≤ N) (hi : 0 ≤ i ∧ i < 4)
    (kk : V X kc kn Q (pc + 1) L (.int (gI (ρ (7 + i))) :: st) ad N (rput ad (gty X) σ k ρ)) : V X kc kn Q pc L (.int (gI i) :: .ref (ad (k + 1)) :: st) ad N (rput ad (gty X) σ k ρ) := r_iald C hd (by omega) rput_1 hi (by omega) kk
theorem rr_dld (C : gOk X cc nL own R ret) (hd : decode cc pc = .ok (.iaload, 1)) (hk : 0 ≤ k ∧ k + 3 ≤ N) (hi : 0 ≤ i ∧ i < 4)
    (kk : V X kc kn Q (pc + 1) L (.int (gI (ρ (11 + i))) :: st) ad N (rput ad (gty X) σ k ρ)) : V X kc kn Q pc L (.int (gI i) :: .ref (ad (k + 2)) :: st) ad N (rput ad (gty X) σ k ρ) := r_iald C hd (by omega) rput_2 hi (by omega) kk
theorem rr_kst (C : gOk X cc nL own R ret) (hd : decode cc pc = .ok (.iastore, 1)) (hk : 0 ≤ k ∧ k + 3 ≤ N) (hi : 0 ≤ i ∧ i < 4)
    (kk : V X kc kn Q (pc + 1) L st ad N (rput ad (gty X) σ k (up ρ (7 + i) z))) : V X kc kn Q pc L (.int (gI z) :: .int (gI i) :: .ref (ad (k + 1)) :: st) ad N (rput ad (gty X) σ k ρ) := r_iast C hd (by omega) rput_1 hi (by omega) (by rw [rput_u1 hi]; exact kk)
theorem rr_dst (C : gOk X cc nL own R ret) (hd : decode cc pc = .ok (.iastore, 1)) (hk : 0 ≤ k ∧ k + 3 ≤ N) (hi : 0 ≤ i ∧ i < 4)
    (kk : V X kc kn Q (pc + 1) L st ad N (rput ad (gty X) σ k (up ρ (11 + i) z))) : V X kc kn Q pc L (.int (gI z) :: .int (gI i) :: .ref (ad (k + 2)) :: st) ad N (rput ad (gty X) σ k ρ) := r_iast C hd (by omega) rput_2 hi (by omega) (by rw [rput_u2 hi]; exact kk)
theorem up_ap {α : Type} (f : Int → α) (k : Int) (v : α) (j : Int) : up f k v j = if j = k then v else f j := rfl
theorem gI_z {z : Int} (h : z = 0 ∨ z = 1) : narrow .boolean (.int (gI z)) = .int (gI z) := by rcases h with h | h <;> subst h <;> rfl
/-- the ends of contracts with one answer -/
theorem r_iretD {z0 : Int} {σ' : Int → va_E} (C : gOk X cc nL own R (some .int)) (hd : decode cc pc = .ok (.ireturn, 1)) (e : z = z0) (es : σ = σ') : V X 0 0 (gQ X (gD (some (.int (gI z0))) ad N σ') 0 0) pc L [.int (gI z)] ad N σ := r_iret C hd ⟨by rw [e], rfl, rfl, es⟩ (Nat.le_refl _) (Nat.le_refl _)
theorem r_zretD {z0 : Int} {σ' : Int → va_E} (C : gOk X cc nL own R (some .boolean)) (hd : decode cc pc = .ok (.ireturn, 1)) (hz : z = 0 ∨ z = 1) (e : z = z0) (es : σ = σ') : V X 0 0 (gQ X (gD (some (.int (gI z0))) ad N σ') 0 0) pc L [.int (gI z)] ad N σ := r_zret C hd hz ⟨by rw [e], rfl, rfl, es⟩ (Nat.le_refl _) (Nat.le_refl _)
theorem r_vretD {σ' : Int → va_E} (C : gOk X cc nL own R none) (hd : decode cc pc = .ok (.return_, 1)) (es : σ = σ') : V X 0 0 (gQ X (gD none ad N σ') 0 0) pc L [] ad N σ := r_vret C hd ⟨rfl, rfl, rfl, es⟩ (Nat.le_refl _) (Nat.le_refl _)
theorem r_lretD {x x0 : Int64} {σ' : Int → va_E} (C : gOk X cc nL own R (some .long)) (hd : decode cc pc = .ok (.lreturn, 1)) (e : x = x0) (es : σ = σ') : V X 0 0 (gQ X (gD (some (.long x0)) ad N σ') 0 0) pc L [.long x] ad N σ := r_lret C hd ⟨by rw [e], rfl, rfl, es⟩ (Nat.le_refl _) (Nat.le_refl _)
theorem r_dretD {x x0 : UInt64} {σ' : Int → va_E} (C : gOk X cc nL own R (some .double)) (hd : decode cc pc = .ok (.dreturn, 1)) (e : x = x0) (es : σ = σ') : V X 0 0 (gQ X (gD (some (.double x0)) ad N σ') 0 0) pc L [.double x] ad N σ := r_dret C hd ⟨by rw [e], rfl, rfl, es⟩ (Nat.le_refl _) (Nat.le_refl _)
theorem r_aretD {x x0 : Nat} {rc : String} {σ' : Int → va_E} (C : gOk X cc nL own R (some (.object rc))) (hd : decode cc pc = .ok (.areturn, 1)) (e : x = x0) (es : σ = σ') : V X 0 0 (gQ X (gD (some (.ref x0)) ad N σ') 0 0) pc L [.ref x] ad N σ := r_aret C hd ⟨by rw [e], rfl, rfl, es⟩ (Nat.le_refl _) (Nat.le_refl _)
end TYPEDROWS
end
section
/-! words: Object.<init>, arraycopy, makings, constants (printed by program) -/
theorem knX2_9 : Cond.classLink RX2 9 RX3 ∈ WS ∧ Cond.instantiable RX3 10 ∈ WS ∧ Cond.initialized RX3 ∈ WS := ⟨gws 145 (by decide +kernel) (by decide +kernel), gws 49 (by decide +kernel) (by decide +kernel), kiRX3⟩
theorem knX3_9 : Cond.classLink RX3 9 RX1 ∈ WS ∧ Cond.instantiable RX1 9 ∈ WS ∧ Cond.initialized RX1 ∈ WS := ⟨gws 54 (by decide +kernel) (by decide +kernel), gws 56 (by decide +kernel) (by decide +kernel), kiRX1⟩
theorem knX4_16 : Cond.classLink RX4 16 RX2 ∈ WS ∧ Cond.instantiable RX2 2 ∈ WS ∧ Cond.initialized RX2 ∈ WS := ⟨gws 139 (by decide +kernel) (by decide +kernel), gws 140 (by decide +kernel) (by decide +kernel), kiRX2⟩
theorem knX4_23 : Cond.classLink RX4 23 RX0 ∈ WS ∧ Cond.instantiable RX0 2 ∈ WS ∧ Cond.initialized RX0 ∈ WS := ⟨gws 156 (by decide +kernel) (by decide +kernel), gws 157 (by decide +kernel) (by decide +kernel), kiRX0⟩
theorem knX4_7 : Cond.classLink RX4 7 RX3 ∈ WS ∧ Cond.instantiable RX3 10 ∈ WS ∧ Cond.initialized RX3 ∈ WS := ⟨gws 48 (by decide +kernel) (by decide +kernel), gws 49 (by decide +kernel) (by decide +kernel), kiRX3⟩
theorem knL_77 : Cond.classLink RL 77 RX5 ∈ WS ∧ Cond.instantiable RX5 11 ∈ WS ∧ Cond.initialized RX5 ∈ WS := ⟨gws 770 (by decide +kernel) (by decide +kernel), gws 771 (by decide +kernel) (by decide +kernel), kiRX5⟩
theorem knL_8 : Cond.classLink RL 8 RX4 ∈ WS ∧ Cond.instantiable RX4 3 ∈ WS ∧ Cond.initialized RX4 ∈ WS := ⟨gws 40 (by decide +kernel) (by decide +kernel), gws 41 (by decide +kernel) (by decide +kernel), kiRX4⟩
theorem koX0_3 : Cond.methodLink RX0 3 objectInit ∈ WS ∧ Cond.instanceMethod objectInit ∈ WS ∧ Cond.code objectInit ⟨#[0xb1]⟩ 1 none ∈ WS := ⟨gws 161 (by decide +kernel) (by decide +kernel), gws 46 (by decide +kernel) (by decide +kernel), gws 47 (by decide +kernel) (by decide +kernel)⟩
theorem kaX1_26 : Cond.methodLink RX1 26 arraycopyName ∈ WS ∧ Cond.native arraycopyName ∈ WS ∧ Cond.static arraycopyName ∈ WS ∧ Cond.initialized "java/lang/System" ∈ WS := ⟨gws 464 (by decide +kernel) (by decide +kernel), gws 466 (by decide +kernel) (by decide +kernel), gws 465 (by decide +kernel) (by decide +kernel), kiSystem⟩
theorem koX1_3 : Cond.methodLink RX1 3 objectInit ∈ WS ∧ Cond.instanceMethod objectInit ∈ WS ∧ Cond.code objectInit ⟨#[0xb1]⟩ 1 none ∈ WS := ⟨gws 60 (by decide +kernel) (by decide +kernel), gws 46 (by decide +kernel) (by decide +kernel), gws 47 (by decide +kernel) (by decide +kernel)⟩
theorem koX2_3 : Cond.methodLink RX2 3 objectInit ∈ WS ∧ Cond.instanceMethod objectInit ∈ WS ∧ Cond.code objectInit ⟨#[0xb1]⟩ 1 none ∈ WS := ⟨gws 144 (by decide +kernel) (by decide +kernel), gws 46 (by decide +kernel) (by decide +kernel), gws 47 (by decide +kernel) (by decide +kernel)⟩
theorem koX3_3 : Cond.methodLink RX3 3 objectInit ∈ WS ∧ Cond.instanceMethod objectInit ∈ WS ∧ Cond.code objectInit ⟨#[0xb1]⟩ 1 none ∈ WS := ⟨gws 53 (by decide +kernel) (by decide +kernel), gws 46 (by decide +kernel) (by decide +kernel), gws 47 (by decide +kernel) (by decide +kernel)⟩
theorem koX4_1 : Cond.methodLink RX4 1 objectInit ∈ WS ∧ Cond.instanceMethod objectInit ∈ WS ∧ Cond.code objectInit ⟨#[0xb1]⟩ 1 none ∈ WS := ⟨gws 45 (by decide +kernel) (by decide +kernel), gws 46 (by decide +kernel) (by decide +kernel), gws 47 (by decide +kernel) (by decide +kernel)⟩
theorem koX5_1 : Cond.methodLink RX5 1 objectInit ∈ WS ∧ Cond.instanceMethod objectInit ∈ WS ∧ Cond.code objectInit ⟨#[0xb1]⟩ 1 none ∈ WS := ⟨gws 775 (by decide +kernel) (by decide +kernel), gws 46 (by decide +kernel) (by decide +kernel), gws 47 (by decide +kernel) (by decide +kernel)⟩
theorem kar_int : Cond.arrayClass .int ∈ WS := gws 98 (by decide +kernel) (by decide +kernel)
theorem kar_char : Cond.arrayClass .char ∈ WS := gws 170 (by decide +kernel) (by decide +kernel)
theorem kar_long : Cond.arrayClass .long ∈ WS := gws 1062 (by decide +kernel) (by decide +kernel)
theorem kkX4_194 : Cond.constantLong RX4 194 (3499) ∈ WS := gws 286 (by decide +kernel) (by decide +kernel)
theorem kkX4_279 : Cond.constantLong RX4 279 (31) ∈ WS := gws 300 (by decide +kernel) (by decide +kernel)
theorem kkX4_290 : Cond.constantLong RX4 290 (1023) ∈ WS := gws 341 (by decide +kernel) (by decide +kernel)
theorem kkX4_292 : Cond.constantDouble RX4 292 (4611686018427387904) ∈ WS := gws 342 (by decide +kernel) (by decide +kernel)
theorem kkX4_294 : Cond.constantDouble RX4 294 (4841369599423283200) ∈ WS := gws 343 (by decide +kernel) (by decide +kernel)
theorem kkX5_180 : Cond.constantLong RX5 180 (3499) ∈ WS := gws 1050 (by decide +kernel) (by decide +kernel)
theorem kkX5_182 : Cond.constantLong RX5 182 (31) ∈ WS := gws 1051 (by decide +kernel) (by decide +kernel)
theorem kkJxe99ae_137 : Cond.constantLong RJxe99ae 137 (9221120237041090560) ∈ WS := gws 1061 (by decide +kernel) (by decide +kernel)
theorem kasn : Cond.static yX4_asNumber ∈ WS ∧ Cond.initialized yX4_asNumber.cls ∈ WS ∧ Cond.code yX4_asNumber cX4_asNumber 1 (some .int) ∈ WS ∧ yX4_asNumber.cls ≠ "java/lang/invoke/MethodHandle" ∧ yX4_asNumber.cls ≠ "java/lang/invoke/VarHandle" ∧ (parseMethodDescriptor yX4_asNumber.desc).map (fun d => d.parameters.length) = some 1 := ⟨gws 245 (by decide +kernel) (by decide +kernel), kiRX4, kcX4_asNumber, by decide +kernel, by decide +kernel, by decide +kernel⟩
end
section
/-! the JDK methods that are walked: contracts -/
set_option maxRecDepth 100000 in
set_option maxHeartbeats 4000000 in
theorem c_J9_max_7cf53 {l : Launch} {D : va_G} {ty : Nat → ClassId} {ad : Int → Nat} {N : Int} {σ : Int → va_E} {a b : Int} (ha : -2147483648 ≤ a ∧ a < 2147483648) (hb : -2147483648 ≤ b ∧ b < 2147483648) : gM0 l yJ9_max_7cf53 cJ9_max_7cf53 2 (some .int) 0 0 [.int (gI a), .int (gI b)] D ty ad N (σ) (some (.int (gI (max a b)))) (σ) := by
  refine gMet_of [some (.int (gI a)), some (.int (gI b))] (by decide +kernel) rfl (Nat.le_of_ble_eq_true rfl) rfl ?_
  intro X hl hD hty C hini
  subst hl hD hty
  refine r_iload_n C dJ9_max_7cf53_0 rfl rfl ?_
  refine r_iload_n C dJ9_max_7cf53_1 rfl rfl ?_
  refine r_icmp_lt (tgt := 9) C dJ9_max_7cf53_2 (by decide) ha hb (fun h2 => ?_) (fun h2 => ?_)
  · refine r_iload_n C dJ9_max_7cf53_9 rfl rfl ?_
    exact r_iretD C dJ9_max_7cf53_10 (by omega) rfl
  · refine r_iload_n C dJ9_max_7cf53_5 rfl rfl ?_
    refine r_goto (tgt := 10) C dJ9_max_7cf53_6 (by decide) ?_
    exact r_iretD C dJ9_max_7cf53_10 (by omega) rfl

set_option maxRecDepth 100000 in
set_option maxHeartbeats 4000000 in
theorem c_J9_min_7cf53 {l : Launch} {D : va_G} {ty : Nat → ClassId} {ad : Int → Nat} {N : Int} {σ : Int → va_E} {a b : Int} (ha : -2147483648 ≤ a ∧ a < 2147483648) (hb : -2147483648 ≤ b ∧ b < 2147483648) : gM0 l yJ9_min_7cf53 cJ9_min_7cf53 2 (some .int) 0 0 [.int (gI a), .int (gI b)] D ty ad N (σ) (some (.int (gI (min a b)))) (σ) := by
  refine gMet_of [some (.int (gI a)), some (.int (gI b))] (by decide +kernel) rfl (Nat.le_of_ble_eq_true rfl) rfl ?_
  intro X hl hD hty C hini
  subst hl hD hty
  refine r_iload_n C dJ9_min_7cf53_0 rfl rfl ?_
  refine r_iload_n C dJ9_min_7cf53_1 rfl rfl ?_
  refine r_icmp_gt (tgt := 9) C dJ9_min_7cf53_2 (by decide) ha hb (fun h2 => ?_) (fun h2 => ?_)
  · refine r_iload_n C dJ9_min_7cf53_9 rfl rfl ?_
    exact r_iretD C dJ9_min_7cf53_10 (by omega) rfl
  · refine r_iload_n C dJ9_min_7cf53_5 rfl rfl ?_
    refine r_goto (tgt := 10) C dJ9_min_7cf53_6 (by decide) ?_
    exact r_iretD C dJ9_min_7cf53_10 (by omega) rfl

theorem gI_rem0 {a b : Int} (ha : -2147483648 ≤ a ∧ a < 2147483648) (hb : 0 < b ∧ b < 2147483648) : gI a - gI a / gI b * gI b = gI (a.tmod b) := by
  have e : gI a / gI b = gI (a.tdiv b) := by
    apply Int32.toInt_inj.mp
    have h1 : gI b ≠ -1 := by
      intro h
      have h2 : (gI b).toInt = (-1 : Int32).toInt := by rw [h]
      rw [gI_toInt (by omega)] at h2
      have h3 : (-1 : Int32).toInt = -1 := by decide
      omega
    have h5 : -2147483648 ≤ a.tdiv b ∧ a.tdiv b < 2147483648 := by
      have h1 := Int.natAbs_tdiv_le_natAbs a b
      rcases Int.lt_or_le a 0 with h | h
      · have h2 := Int.tdiv_nonneg (a := -a) (b := b) (by omega) (by omega)
        rw [Int.neg_tdiv] at h2
        omega
      · have h2 := Int.tdiv_nonneg (a := a) (b := b) (by omega) (by omega)
        omega
    rw [Int32.toInt_div_of_ne_right _ _ h1, gI_toInt ha, gI_toInt (by omega), gI_toInt h5]
  rw [e, gI_mul, gI_sub]
  congr 1
  have := Int.tmod_add_tdiv_mul a b
  omega
theorem r_irem0 {X : gT} {cc : ByteArray} {nL : Nat} {own : String} {R : Room} {ret : Option FieldType} {kc kn : Nat} {Q : State → Prop} {pc : Nat} {L : List (Option Value)} {st : List Value} {ad : Int → Nat} {N : Int} {σ : Int → va_E} (C : gOk X cc nL own R ret) {a b : Int} (hd : decode cc pc = .ok (.irem, 1)) (ha : -2147483648 ≤ a ∧ a < 2147483648) (hb : 0 < b ∧ b < 2147483648) (k : V X kc kn Q (pc + 1) L (.int (gI (a.tmod b)) :: st) ad N σ) : V X kc kn Q pc L (.int (gI b) :: .int (gI a) :: st) ad N σ := fun ls H locs hl hw => lv_irem C.1 C.2.1 hd (fun h => by rw [← gI_0, gI_eq (by omega) (by omega)] at h; omega) (by rw [gI_rem0 ha hb]; exact k ls H locs hl hw)
theorem gI_xor_neg {a b : Int} (ha : -2147483648 ≤ a ∧ a < 2147483648) (hb : 0 ≤ b ∧ b < 2147483648) : (gI a ^^^ gI b) < 0 ↔ a < 0 := by
  have h1 : ∀ x : Int32, x < 0 ↔ x.toBitVec.msb = true := fun x => by
    rw [Int32.lt_iff_toInt_lt, Int32.toInt_zero]
    show x.toBitVec.toInt < 0 ↔ _
    rw [BitVec.msb_eq_toInt]
    simp
  rw [h1, Int32.toBitVec_xor, BitVec.msb_xor]
  have e1 : (gI a).toBitVec.msb = decide (a < 0) := by
    rw [BitVec.msb_eq_toInt]
    show decide ((gI a).toInt < 0) = _
    rw [gI_toInt ha]
  have e2 : (gI b).toBitVec.msb = false := by
    rw [BitVec.msb_eq_toInt]
    show decide ((gI b).toInt < 0) = _
    rw [gI_toInt (by omega)]
    exact decide_eq_false (by omega)
  rw [e1, e2]
  simp
theorem r_ixor {X : gT} {cc : ByteArray} {nL : Nat} {own : String} {R : Room} {ret : Option FieldType} {kc kn : Nat} {Q : State → Prop} {pc : Nat} {L : List (Option Value)} {st : List Value} {ad : Int → Nat} {N : Int} {σ : Int → va_E} (C : gOk X cc nL own R ret) {a b : Int32} (hd : decode cc pc = .ok (.ixor, 1)) (k : V X kc kn Q (pc + 1) L (.int (a ^^^ b) :: st) ad N σ) : V X kc kn Q pc L (.int b :: .int a :: st) ad N σ := fun ls H locs hl hw => lv_ixor C.1 C.2.1 hd (k ls H locs hl hw)
theorem r_ge32 {X : gT} {cc : ByteArray} {nL : Nat} {own : String} {R : Room} {ret : Option FieldType} {kc kn : Nat} {Q : State → Prop} {pc : Nat} {L : List (Option Value)} {st : List Value} {ad : Int → Nat} {N : Int} {σ : Int → va_E} (C : gOk X cc nL own R ret) {x : Int32} {off : Int} {tgt : Nat} (hd : decode cc pc = .ok (.ifCond .ge off, 3)) (ht : (pc : Int) + off = (tgt : Int)) (kt : ¬ x < 0 → V X kc kn Q tgt L st ad N σ) (kf : x < 0 → V X kc kn Q (pc + 3) L st ad N σ) : V X kc kn Q pc L (.int x :: st) ad N σ := fun ls H locs hl hw => lv_if_ge C.1 C.2.1 hd ht (fun h => kt (by rw [Int32.lt_iff_toInt_lt]; rw [Int32.le_iff_toInt_le] at h; omega) ls H locs hl hw) (fun h => kf (by rw [Int32.lt_iff_toInt_lt]; rw [Int32.le_iff_toInt_le] at h; omega) ls H locs hl hw)
theorem fmod_pos {a b : Int} (hb : 0 < b) (ha : a < 0) : (a.tmod b = 0 → a % b = a.tmod b) ∧ (a.tmod b ≠ 0 → a % b = a.tmod b + b) := by
  have h := Int.emod_eq_tmod (a := a) (b := b)
  have hn : ((b.natAbs : Nat) : Int) = b := by omega
  have hd : b ∣ a ↔ a.tmod b = 0 := Int.dvd_iff_tmod_eq_zero
  refine ⟨fun e => ?_, fun e => ?_⟩
  · rw [if_pos (Or.inr (hd.mpr e))] at h
    omega
  · rw [if_neg (fun q => q.elim (fun q => by omega) (fun q => e (hd.mp q)))] at h
    omega

set_option maxRecDepth 100000 in
set_option maxHeartbeats 4000000 in
/-- floorMod with a divisor above 0 -/
theorem c_J9_floorMod_7cf53 {l : Launch} {D : va_G} {ty : Nat → ClassId} {ad : Int → Nat} {N : Int} {σ : Int → va_E} {a b : Int} (ha : -2147483648 ≤ a ∧ a < 2147483648) (hb : 0 < b ∧ b < 2147483648) : gM0 l yJ9_floorMod_7cf53 cJ9_floorMod_7cf53 3 (some .int) 0 0 [.int (gI a), .int (gI b)] D ty ad N (σ) (some (.int (gI (a % b)))) (σ) := by
  refine gMet_of [some (.int (gI a)), some (.int (gI b)), none] (by decide +kernel) rfl (Nat.le_of_ble_eq_true rfl) rfl ?_
  intro X hl hD hty C hini
  subst hl hD hty
  have hx := gI_xor_neg (a := a) (b := b) ha (by omega)
  have hm := Int.emod_nonneg a (show b ≠ 0 by omega)
  have hm2 := Int.emod_lt_of_pos a hb.1
  have ht : a.tmod b = a % b ∨ a.tmod b = a % b - b := by
    rcases Int.lt_or_le a 0 with h | h
    · by_cases e : a.tmod b = 0
      · exact Or.inl ((fmod_pos hb.1 h).1 e).symm
      · have := (fmod_pos hb.1 h).2 e
        exact Or.inr (by omega)
    · exact Or.inl (Int.tmod_eq_emod_of_nonneg h)
  refine r_iload_n C dJ9_floorMod_7cf53_0 rfl rfl ?_
  refine r_iload_n C dJ9_floorMod_7cf53_1 rfl rfl ?_
  refine r_irem0 C dJ9_floorMod_7cf53_2 ha hb ?_
  refine r_istore_n C dJ9_floorMod_7cf53_3 rfl (Nat.le_of_ble_eq_true rfl) rfl ?_
  dsimp only [List.set]
  refine r_iload_n C dJ9_floorMod_7cf53_4 rfl rfl ?_
  refine r_iload_n C dJ9_floorMod_7cf53_5 rfl rfl ?_
  refine r_ixor C dJ9_floorMod_7cf53_6 ?_
  refine r_ge32 (tgt := 18) C dJ9_floorMod_7cf53_7 (by decide) (fun h7 => ?_) (fun h7 => ?_)
  · have h7 := mt hx.mpr h7
    have e := Int.tmod_eq_emod_of_nonneg (a := a) (b := b) (by omega)
    refine r_iload_n C dJ9_floorMod_7cf53_18 rfl rfl ?_
    exact r_iretD C dJ9_floorMod_7cf53_19 (by omega) rfl
  · have h7 := hx.mp h7
    have e := fmod_pos (a := a) hb.1 h7
    refine r_iload_n C dJ9_floorMod_7cf53_10 rfl rfl ?_
    refine r_if_eq (tgt := 18) C dJ9_floorMod_7cf53_11 (by decide) (by omega) (fun h11 => ?_) (fun h11 => ?_)
    · have e2 := e.1 h11
      refine r_iload_n C dJ9_floorMod_7cf53_18 rfl rfl ?_
      exact r_iretD C dJ9_floorMod_7cf53_19 (by omega) rfl
    · have e2 := e.2 h11
      refine r_iload_n C dJ9_floorMod_7cf53_14 rfl rfl ?_
      refine r_iload_n C dJ9_floorMod_7cf53_15 rfl rfl ?_
      refine r_iadd C dJ9_floorMod_7cf53_16 ?_
      exact r_iretD C dJ9_floorMod_7cf53_17 (by omega) rfl
end
section
/-! Room, Math, asNumber: contracts -/

def keyR (ρ : Int → Int) (p : Int) : Int := if 0 ≤ p ∧ p < ρ 6 then ρ (7 + p) else -1
def darkR (ρ : Int → Int) (p : Int) : Int := if 0 ≤ p ∧ p < ρ 6 then ρ (11 + p) else -1
def numR (ρ : Int → Int) (w : Int) : Int := if w = 0 then ρ 0 else if w = 1 then ρ 1 else if w = 2 then ρ 2 else if w = 3 then ρ 3 else if w = 4 then ρ 6 else if w = 5 then ρ 5 else if w = 6 then ρ 4 else keyR ρ 0
/-- how much shorter in a beat -/
def lessR (w : Int) : Int := 1 + (if 3 ≤ w then 1 else 0) + (if 6 ≤ w then 1 else 0)
theorem lessR_rng (w : Int) : 1 ≤ lessR w ∧ lessR w ≤ 3 := by unfold lessR; split <;> split <;> omega
def plcR (ρ : Int → Int) (key : Int) : Nat → Int → Int
  | 0, _ => -1
  | n + 1, p => if ρ (7 + p) = key then p else plcR ρ key n (p + 1)
/-- the place of a key in a room -/
def plc (ρ : Int → Int) (key : Int) : Int := plcR ρ key (ρ 6).toNat 0
theorem plcR_rng (ρ : Int → Int) (key : Int) : ∀ (n : Nat) (p : Int), plcR ρ key n p = -1 ∨ (p ≤ plcR ρ key n p ∧ plcR ρ key n p < p + n)
  | 0, p => Or.inl rfl
  | n + 1, p => by
    unfold plcR
    split
    · right; omega
    · rcases plcR_rng ρ key n (p + 1) with h | h
      · exact Or.inl h
      · right; omega
def addR (ρ : Int → Int) (key : Int) : Int → Int := up (up (up ρ (7 + ρ 6) key) (11 + ρ 6) 0) 6 (ρ 6 + 1)
def newR (ρ : Int → Int) : Int → Int := up (up (up ρ 0 20) 2 0) 1 0
def burnR (ρ : Int → Int) : Int → Int := if ρ 1 = 0 then ρ else
  if 0 < max 0 (ρ 0 - lessR (ρ 2)) then up (up (up (up ρ 4 (ρ 4 + 1)) 0 (max 0 (ρ 0 - lessR (ρ 2)))) 1 1) 2 (min 9 (ρ 2 + 1)) else up (up (up ρ 4 (ρ 4 + 1)) 0 (max 0 (ρ 0 - lessR (ρ 2)))) 1 0
/-- beats until it is burnt -/
def untr : Nat → Int → Int → Int
  | 0, _, _ => 0
  | n + 1, l, t => if l ≤ 0 then 0 else 1 + untr n (l - lessR t) (min 9 (t + 1))
theorem untr_rng : ∀ (n : Nat) (l t : Int), 0 ≤ untr n l t ∧ untr n l t ≤ n
  | 0, l, t => by unfold untr; omega
  | n + 1, l, t => by
    unfold untr
    have := untr_rng n (l - lessR t) (min 9 (t + 1))
    split <;> omega
def savR (ρ : Int → Int) : Int := if ρ 1 = 0 then 0 else ρ 0 - untr 60 (ρ 0) (ρ 2)
/-- things grow older: n more from place p, q stay so far -/
def ageL (set : Int) : Nat → Int → Int → (Int → Int) → (Int → Int) × Int
  | 0, _, q, ρ => (ρ, q)
  | n + 1, p, q, ρ => if (if ρ 1 = 0 then ρ (11 + p) + 1 else 0) < set then ageL set n (p + 1) (q + 1) (up (up ρ (7 + q) (ρ (7 + p))) (11 + q) (if ρ 1 = 0 then ρ (11 + p) + 1 else 0)) else ageL set n (p + 1) q ρ
def ageQ (ρ : Int → Int) (set : Int) : Int := (ageL set (ρ 6).toNat 0 0 ρ).2
def ageR (ρ : Int → Int) (set : Int) : Int → Int := up (ageL set (ρ 6).toNat 0 0 ρ).1 6 (ageQ ρ set)
def maxD (ρ : Int → Int) : Nat → Int → Int → Int
  | 0, _, a => a
  | n + 1, p, a => maxD ρ n (p + 1) (max a (ρ (11 + p)))
def ffR (ρ : Int → Int) (bl set : Int) : Int := if 1 < bl then bl + set - 1 else max 1 (set - maxD ρ (ρ 6).toNat 0 0)

set_option maxRecDepth 100000 in
set_option maxHeartbeats 4000000 in
theorem c_X4_asNumber {l : Launch} {D : va_G} {ty : Nat → ClassId} {ad : Int → Nat} {N : Int} {σ : Int → va_E} {z : Int} (hz : z = 0 ∨ z = 1) : gM0 l yX4_asNumber cX4_asNumber 1 (some .int) 0 0 [.int (gI z)] D ty ad N (σ) (some (.int (gI z))) (σ) := by
  refine gMet_of [some (.int (gI z))] (by decide +kernel) rfl (Nat.le_of_ble_eq_true rfl) rfl ?_
  intro X hl hD hty C hini
  subst hl hD hty
  refine r_iload_n C dX4_asNumber_0 rfl rfl ?_
  refine r_if_eq (tgt := 8) C dX4_asNumber_1 (by decide) (by omega) (fun h1 => ?_) (fun h1 => ?_)
  · refine r_iconst C dX4_asNumber_8 ?_
    exact r_iretD C dX4_asNumber_9 (by omega) rfl
  · refine r_iconst C dX4_asNumber_4 ?_
    refine r_goto (tgt := 9) C dX4_asNumber_5 (by decide) ?_
    exact r_iretD C dX4_asNumber_9 (by omega) rfl

set_option maxRecDepth 100000 in
set_option maxHeartbeats 4000000 in
theorem c_X1_keyAt {l : Launch} {D : va_G} {ty : Nat → ClassId} {ad : Int → Nat} {N : Int} {σ : Int → va_E} {k p : Int} {ρ : Int → Int} (hk : 0 ≤ k ∧ k + 3 ≤ N) (hp : -2147483648 ≤ p ∧ p < 2147483648) (hm : 0 ≤ ρ 6 ∧ ρ 6 ≤ 4) : gM0 l yX1_keyAt cX1_keyAt 2 (some .int) 0 0 [.ref (ad k), .int (gI p)] D ty ad N (rput ad ty σ k ρ) (some (.int (gI (keyR ρ p)))) (rput ad ty σ k ρ) := by
  refine gMet_of [some (.ref (ad k)), some (.int (gI p))] (by decide +kernel) rfl (Nat.le_of_ble_eq_true rfl) rfl ?_
  intro X hl hD hty C hini
  subst hl hD hty
  refine r_iload_n C dX1_keyAt_0 rfl rfl ?_
  refine r_if_lt (tgt := 21) C dX1_keyAt_1 (by decide) (by omega) (fun h1 => ?_) (fun h1 => ?_)
  · refine r_iconst C dX1_keyAt_21 ?_
    exact r_iretD C dX1_keyAt_22 (by unfold keyR; first | rw [if_pos (by omega)] | rw [if_neg (by omega)]) rfl
  · refine r_iload_n C dX1_keyAt_4 rfl rfl ?_
    refine r_aload_n C dX1_keyAt_5 rfl rfl ?_
    refine rr_get C flX1_32 dX1_keyAt_6 hk rfl ?_
    refine r_icmp_ge (tgt := 21) C dX1_keyAt_9 (by decide) (by omega) (by omega) (fun h9 => ?_) (fun h9 => ?_)
    · refine r_iconst C dX1_keyAt_21 ?_
      exact r_iretD C dX1_keyAt_22 (by unfold keyR; first | rw [if_pos (by omega)] | rw [if_neg (by omega)]) rfl
    · refine r_aload_n C dX1_keyAt_12 rfl rfl ?_
      refine rr_get C flX1_9 dX1_keyAt_13 hk rfl ?_
      refine r_iload_n C dX1_keyAt_16 rfl rfl ?_
      first | refine rr_kld C dX1_keyAt_17 hk (by omega) ?_ | refine rr_dld C dX1_keyAt_17 hk (by omega) ?_
      refine r_goto (tgt := 22) C dX1_keyAt_18 (by decide) ?_
      exact r_iretD C dX1_keyAt_22 (by unfold keyR; first | rw [if_pos (by omega)] | rw [if_neg (by omega)]) rfl

set_option maxRecDepth 100000 in
set_option maxHeartbeats 4000000 in
theorem c_X1_darkAt {l : Launch} {D : va_G} {ty : Nat → ClassId} {ad : Int → Nat} {N : Int} {σ : Int → va_E} {k p : Int} {ρ : Int → Int} (hk : 0 ≤ k ∧ k + 3 ≤ N) (hp : -2147483648 ≤ p ∧ p < 2147483648) (hm : 0 ≤ ρ 6 ∧ ρ 6 ≤ 4) : gM0 l yX1_darkAt cX1_darkAt 2 (some .int) 0 0 [.ref (ad k), .int (gI p)] D ty ad N (rput ad ty σ k ρ) (some (.int (gI (darkR ρ p)))) (rput ad ty σ k ρ) := by
  refine gMet_of [some (.ref (ad k)), some (.int (gI p))] (by decide +kernel) rfl (Nat.le_of_ble_eq_true rfl) rfl ?_
  intro X hl hD hty C hini
  subst hl hD hty
  refine r_iload_n C dX1_darkAt_0 rfl rfl ?_
  refine r_if_lt (tgt := 21) C dX1_darkAt_1 (by decide) (by omega) (fun h1 => ?_) (fun h1 => ?_)
  · refine r_iconst C dX1_darkAt_21 ?_
    exact r_iretD C dX1_darkAt_22 (by unfold darkR; first | rw [if_pos (by omega)] | rw [if_neg (by omega)]) rfl
  · refine r_iload_n C dX1_darkAt_4 rfl rfl ?_
    refine r_aload_n C dX1_darkAt_5 rfl rfl ?_
    refine rr_get C flX1_32 dX1_darkAt_6 hk rfl ?_
    refine r_icmp_ge (tgt := 21) C dX1_darkAt_9 (by decide) (by omega) (by omega) (fun h9 => ?_) (fun h9 => ?_)
    · refine r_iconst C dX1_darkAt_21 ?_
      exact r_iretD C dX1_darkAt_22 (by unfold darkR; first | rw [if_pos (by omega)] | rw [if_neg (by omega)]) rfl
    · refine r_aload_n C dX1_darkAt_12 rfl rfl ?_
      refine rr_get C flX1_15 dX1_darkAt_13 hk rfl ?_
      refine r_iload_n C dX1_darkAt_16 rfl rfl ?_
      first | refine rr_kld C dX1_darkAt_17 hk (by omega) ?_ | refine rr_dld C dX1_darkAt_17 hk (by omega) ?_
      refine r_goto (tgt := 22) C dX1_darkAt_18 (by decide) ?_
      exact r_iretD C dX1_darkAt_22 (by unfold darkR; first | rw [if_pos (by omega)] | rw [if_neg (by omega)]) rfl

set_option maxRecDepth 100000 in
set_option maxHeartbeats 4000000 in
theorem c_X1_number {l : Launch} {D : va_G} {ty : Nat → ClassId} {ad : Int → Nat} {N : Int} {σ : Int → va_E} {k w : Int} {ρ : Int → Int} (hk : 0 ≤ k ∧ k + 3 ≤ N) (hw0 : 0 ≤ w ∧ w < 8) (hm : 0 ≤ ρ 6 ∧ ρ 6 ≤ 4) (hz1 : ρ 1 = 0 ∨ ρ 1 = 1) (hz3 : ρ 3 = 0 ∨ ρ 3 = 1) (hz5 : ρ 5 = 0 ∨ ρ 5 = 1) : gM0 l yX1_number cX1_number 2 (some .int) 1 21 [.ref (ad k), .int (gI w)] D ty ad N (rput ad ty σ k ρ) (some (.int (gI (numR ρ w)))) (rput ad ty σ k ρ) := by
  refine gMet_of [some (.ref (ad k)), some (.int (gI w))] (by decide +kernel) rfl (Nat.le_of_ble_eq_true rfl) rfl ?_
  intro X hl hD hty C hini
  subst hl hD hty
  refine r_iload_n C dX1_number_0 rfl rfl ?_
  rcases (show (w = 0 ∨ w = 1 ∨ w = 2 ∨ w = 3 ∨ w = 4 ∨ w = 5 ∨ w = 6) ∨ (w < 0 ∨ 6 < w) by omega) with (hw | hw | hw | hw | hw | hw | hw) | hw
  · refine r_tabIn (tgt := 44) C dX1_number_1 (by omega) (by omega) (by omega) (by rw [hw]; rfl) (by decide) ?_
    refine r_aload_n C dX1_number_44 rfl rfl ?_
    refine rr_get C flX1_18 dX1_number_45 hk rfl ?_
    exact r_iretD C dX1_number_48 (by unfold numR; first | (subst hw; rfl) | (rw [show w = 7 by omega]; rfl)) rfl
  · refine r_tabIn (tgt := 49) C dX1_number_1 (by omega) (by omega) (by omega) (by rw [hw]; rfl) (by decide) ?_
    refine r_aload_n C dX1_number_49 rfl rfl ?_
    refine rr_get C flX1_35 dX1_number_50 hk rfl ?_
    refine r_cSN C C.2.2.2.2.2.2.2.2.2.2.2.2.1 kasn (c_X4_asNumber (by omega)) dX1_number_53 rfl rfl rfl (Nat.le_of_ble_eq_true rfl) ⟨Nat.le_of_ble_eq_true rfl, Nat.le_of_ble_eq_true rfl⟩ ⟨Nat.le_of_ble_eq_true rfl, Nat.le_of_ble_eq_true rfl⟩ ?_
    exact r_iretD C dX1_number_56 (by unfold numR; first | (subst hw; rfl) | (rw [show w = 7 by omega]; rfl)) rfl
  · refine r_tabIn (tgt := 57) C dX1_number_1 (by omega) (by omega) (by omega) (by rw [hw]; rfl) (by decide) ?_
    refine r_aload_n C dX1_number_57 rfl rfl ?_
    refine rr_get C flX1_38 dX1_number_58 hk rfl ?_
    exact r_iretD C dX1_number_61 (by unfold numR; first | (subst hw; rfl) | (rw [show w = 7 by omega]; rfl)) rfl
  · refine r_tabIn (tgt := 62) C dX1_number_1 (by omega) (by omega) (by omega) (by rw [hw]; rfl) (by decide) ?_
    refine r_aload_n C dX1_number_62 rfl rfl ?_
    refine rr_get C flX1_41 dX1_number_63 hk rfl ?_
    refine r_cSN C C.2.2.2.2.2.2.2.2.2.2.2.2.1 kasn (c_X4_asNumber (by omega)) dX1_number_66 rfl rfl rfl (Nat.le_of_ble_eq_true rfl) ⟨Nat.le_of_ble_eq_true rfl, Nat.le_of_ble_eq_true rfl⟩ ⟨Nat.le_of_ble_eq_true rfl, Nat.le_of_ble_eq_true rfl⟩ ?_
    exact r_iretD C dX1_number_69 (by unfold numR; first | (subst hw; rfl) | (rw [show w = 7 by omega]; rfl)) rfl
  · refine r_tabIn (tgt := 70) C dX1_number_1 (by omega) (by omega) (by omega) (by rw [hw]; rfl) (by decide) ?_
    refine r_aload_n C dX1_number_70 rfl rfl ?_
    refine rr_get C flX1_32 dX1_number_71 hk rfl ?_
    exact r_iretD C dX1_number_74 (by unfold numR; first | (subst hw; rfl) | (rw [show w = 7 by omega]; rfl)) rfl
  · refine r_tabIn (tgt := 75) C dX1_number_1 (by omega) (by omega) (by omega) (by rw [hw]; rfl) (by decide) ?_
    refine r_aload_n C dX1_number_75 rfl rfl ?_
    refine rr_get C flX1_22 dX1_number_76 hk rfl ?_
    refine r_cSN C C.2.2.2.2.2.2.2.2.2.2.2.2.1 kasn (c_X4_asNumber (by omega)) dX1_number_79 rfl rfl rfl (Nat.le_of_ble_eq_true rfl) ⟨Nat.le_of_ble_eq_true rfl, Nat.le_of_ble_eq_true rfl⟩ ⟨Nat.le_of_ble_eq_true rfl, Nat.le_of_ble_eq_true rfl⟩ ?_
    exact r_iretD C dX1_number_82 (by unfold numR; first | (subst hw; rfl) | (rw [show w = 7 by omega]; rfl)) rfl
  · refine r_tabIn (tgt := 83) C dX1_number_1 (by omega) (by omega) (by omega) (by rw [hw]; rfl) (by decide) ?_
    refine r_aload_n C dX1_number_83 rfl rfl ?_
    refine rr_get C flX1_44 dX1_number_84 hk rfl ?_
    exact r_iretD C dX1_number_87 (by unfold numR; first | (subst hw; rfl) | (rw [show w = 7 by omega]; rfl)) rfl
  · refine r_tabOut (tgt := 88) C dX1_number_1 (by omega) hw (by decide) ?_
    refine r_aload_n C dX1_number_88 rfl rfl ?_
    refine r_iconst C dX1_number_89 ?_
    refine r_cV C cwX1_51 (c_X1_keyAt hk (by omega) hm) dX1_number_90 rfl (by omega) rput_0 rfl rfl rfl (Nat.le_of_ble_eq_true rfl) ⟨Nat.le_of_ble_eq_true rfl, Nat.le_of_ble_eq_true rfl⟩ ⟨Nat.le_of_ble_eq_true rfl, Nat.le_of_ble_eq_true rfl⟩ ?_
    exact r_iretD C dX1_number_93 (by unfold numR; first | (subst hw; rfl) | (rw [show w = 7 by omega]; rfl)) rfl

set_option maxRecDepth 100000 in
set_option maxHeartbeats 4000000 in
theorem c_X1_placeOf {l : Launch} {D : va_G} {ty : Nat → ClassId} {ad : Int → Nat} {N : Int} {σ : Int → va_E} {k key : Int} {ρ : Int → Int} (hk : 0 ≤ k ∧ k + 3 ≤ N) (hkey : -2147483648 ≤ key ∧ key < 2147483648) (hm : 0 ≤ ρ 6 ∧ ρ 6 ≤ 4) (hkr : ∀ i, 0 ≤ i → i < 4 → -2147483648 ≤ ρ (7 + i) ∧ ρ (7 + i) < 2147483648) : gM0 l yX1_placeOf cX1_placeOf 3 (some .int) 0 0 [.ref (ad k), .int (gI key)] D ty ad N (rput ad ty σ k ρ) (some (.int (gI (plc ρ key)))) (rput ad ty σ k ρ) := by
  refine gMet_of [some (.ref (ad k)), some (.int (gI key)), none] (by decide +kernel) rfl (Nat.le_of_ble_eq_true rfl) rfl ?_
  intro X hl hD hty C hini
  subst hl hD hty
  refine r_iconst C dX1_placeOf_0 ?_
  refine r_istore_n C dX1_placeOf_1 rfl (Nat.le_of_ble_eq_true rfl) rfl ?_
  dsimp only [List.set]
  have lp : ∀ (n : Nat) (p : Int), (0 ≤ p) → (p + n = ρ 6) → (plcR ρ key n p = plc ρ key) → V X 0 0 (gQ X (gD (some (.int (gI (plc ρ key)))) ad N (rput ad (gty X) σ k ρ)) 0 0) 2 [some (.ref (ad k)), some (.int (gI key)), some (.int (gI p))] [] ad N (rput ad (gty X) σ k ρ) := by
    intro n
    induction n with
    | zero =>
      intro p hp hpn e
      refine r_iload_n C dX1_placeOf_2 rfl rfl ?_
      refine r_aload_n C dX1_placeOf_3 rfl rfl ?_
      refine rr_get C flX1_32 dX1_placeOf_4 hk rfl ?_
      refine r_icmp_ge (tgt := 28) C dX1_placeOf_7 (by decide) (by omega) (by omega) (fun h7 => ?_) (fun h7 => ?_)
      · refine r_iconst C dX1_placeOf_28 ?_
        exact r_iretD C dX1_placeOf_29 (by rw [← e]; rfl) rfl
      · exact absurd h7 (by omega)
    | succ n ih =>
      intro p hp hpn e
      refine r_iload_n C dX1_placeOf_2 rfl rfl ?_
      refine r_aload_n C dX1_placeOf_3 rfl rfl ?_
      refine rr_get C flX1_32 dX1_placeOf_4 hk rfl ?_
      refine r_icmp_ge (tgt := 28) C dX1_placeOf_7 (by decide) (by omega) (by omega) (fun h7 => ?_) (fun h7 => ?_)
      · exact absurd h7 (by omega)
      · refine r_aload_n C dX1_placeOf_10 rfl rfl ?_
        refine rr_get C flX1_9 dX1_placeOf_11 hk rfl ?_
        refine r_iload_n C dX1_placeOf_14 rfl rfl ?_
        first | refine rr_kld C dX1_placeOf_15 hk (by omega) ?_ | refine rr_dld C dX1_placeOf_15 hk (by omega) ?_
        refine r_iload_n C dX1_placeOf_16 rfl rfl ?_
        refine r_icmp_ne (tgt := 22) C dX1_placeOf_17 (by decide) (hkr _ hp (by omega)) hkey (fun h17 => ?_) (fun h17 => ?_)
        · refine r_iinc C dX1_placeOf_22 rfl rfl ?_
          dsimp only [List.set]
          refine r_goto (tgt := 2) C dX1_placeOf_25 (by decide) ?_
          exact ih (p + 1) (by omega) (by omega) (by rw [← e]; exact (if_neg h17).symm)
        · refine r_iload_n C dX1_placeOf_20 rfl rfl ?_
          exact r_iretD C dX1_placeOf_21 (by rw [← e]; exact (if_pos (by omega)).symm) rfl
  exact lp (ρ 6).toNat 0 (by omega) (by omega) rfl

set_option maxRecDepth 100000 in
set_option maxHeartbeats 4000000 in
theorem c_X1_addThing {l : Launch} {D : va_G} {ty : Nat → ClassId} {ad : Int → Nat} {N : Int} {σ : Int → va_E} {k key : Int} {ρ : Int → Int} (hk : 0 ≤ k ∧ k + 3 ≤ N) (hm : 0 ≤ ρ 6 ∧ ρ 6 < 4) : gM0 l yX1_addThing cX1_addThing 2 none 0 0 [.ref (ad k), .int (gI key)] D ty ad N (rput ad ty σ k ρ) (none) (rput ad ty σ k (addR ρ key)) := by
  refine gMet_of [some (.ref (ad k)), some (.int (gI key))] (by decide +kernel) rfl (Nat.le_of_ble_eq_true rfl) rfl ?_
  intro X hl hD hty C hini
  subst hl hD hty
  refine r_aload_n C dX1_addThing_0 rfl rfl ?_
  refine rr_get C flX1_32 dX1_addThing_1 hk rfl ?_
  refine r_iconst C dX1_addThing_4 ?_
  refine r_icmp_ge (tgt := 38) C dX1_addThing_5 (by decide) (by omega) (by omega) (fun h5 => ?_) (fun h5 => ?_)
  · exact absurd h5 (by omega)
  · refine r_aload_n C dX1_addThing_8 rfl rfl ?_
    refine rr_get C flX1_9 dX1_addThing_9 hk rfl ?_
    refine r_aload_n C dX1_addThing_12 rfl rfl ?_
    refine rr_get C flX1_32 dX1_addThing_13 hk rfl ?_
    refine r_iload_n C dX1_addThing_16 rfl rfl ?_
    first | refine rr_kst C dX1_addThing_17 hk (by omega) ?_ | refine rr_dst C dX1_addThing_17 hk (by omega) ?_
    refine r_aload_n C dX1_addThing_18 rfl rfl ?_
    refine rr_get C flX1_15 dX1_addThing_19 hk rfl ?_
    refine r_aload_n C dX1_addThing_22 rfl rfl ?_
    refine rr_get C flX1_32 dX1_addThing_23 hk rfl ?_
    rw [up_n (show (6 : Int) ≠ 7 + ρ 6 by omega)]
    refine r_iconst C dX1_addThing_26 ?_
    first | refine rr_kst C dX1_addThing_27 hk (by omega) ?_ | refine rr_dst C dX1_addThing_27 hk (by omega) ?_
    refine r_aload_n C dX1_addThing_28 rfl rfl ?_
    refine r_dup C dX1_addThing_29 rfl ?_
    refine rr_get C flX1_32 dX1_addThing_30 hk rfl ?_
    rw [up_n (show (6 : Int) ≠ 11 + ρ 6 by omega), up_n (show (6 : Int) ≠ 7 + ρ 6 by omega)]
    refine r_iconst C dX1_addThing_33 ?_
    refine r_iadd C dX1_addThing_34 ?_
    refine rr_put (j := 6) C flX1_32 dX1_addThing_35 hk (by decide) rfl rfl rfl rfl ?_
    exact r_vretD C dX1_addThing_38 rfl

set_option maxRecDepth 100000 in
set_option maxHeartbeats 4000000 in
theorem c_X1_takeNewCandle {l : Launch} {D : va_G} {ty : Nat → ClassId} {ad : Int → Nat} {N : Int} {σ : Int → va_E} {k : Int} {ρ : Int → Int} (hk : 0 ≤ k ∧ k + 3 ≤ N) : gM0 l yX1_takeNewCandle cX1_takeNewCandle 1 none 0 0 [.ref (ad k)] D ty ad N (rput ad ty σ k ρ) (none) (rput ad ty σ k (newR ρ)) := by
  refine gMet_of [some (.ref (ad k))] (by decide +kernel) rfl (Nat.le_of_ble_eq_true rfl) rfl ?_
  intro X hl hD hty C hini
  subst hl hD hty
  refine r_aload_n C dX1_takeNewCandle_0 rfl rfl ?_
  refine r_bipush C dX1_takeNewCandle_1 (by decide) ?_
  refine rr_put (j := 0) C flX1_18 dX1_takeNewCandle_3 hk (by decide) rfl rfl rfl rfl ?_
  refine r_aload_n C dX1_takeNewCandle_6 rfl rfl ?_
  refine r_iconst C dX1_takeNewCandle_7 ?_
  refine rr_put (j := 2) C flX1_38 dX1_takeNewCandle_8 hk (by decide) rfl rfl rfl rfl ?_
  refine r_aload_n C dX1_takeNewCandle_11 rfl rfl ?_
  refine r_iconst C dX1_takeNewCandle_12 ?_
  refine rr_put (j := 1) C flX1_35 dX1_takeNewCandle_13 hk (by decide) rfl rfl (gI_z (by omega)) rfl ?_
  exact r_vretD C dX1_takeNewCandle_16 rfl

set_option maxRecDepth 100000 in
set_option maxHeartbeats 4000000 in
theorem c_X1_burntInBeat {l : Launch} {D : va_G} {ty : Nat → ClassId} {ad : Int → Nat} {N : Int} {σ : Int → va_E} {w : Int} (hw : -2147483648 ≤ w ∧ w < 2147483648) : gM0 l yX1_burntInBeat cX1_burntInBeat 1 (some .int) 1 20 [.int (gI w)] D ty ad N (σ) (some (.int (gI (lessR w)))) (σ) := by
  refine gMet_of [some (.int (gI w))] (by decide +kernel) rfl (Nat.le_of_ble_eq_true rfl) rfl ?_
  intro X hl hD hty C hini
  subst hl hD hty
  refine r_iconst C dX1_burntInBeat_0 ?_
  refine r_iload_n C dX1_burntInBeat_1 rfl rfl ?_
  refine r_iconst C dX1_burntInBeat_2 ?_
  refine r_icmp_lt (tgt := 10) C dX1_burntInBeat_3 (by decide) (by omega) (by omega) (fun h3 => ?_) (fun h3 => ?_)
  · refine r_iconst C dX1_burntInBeat_10 ?_
    refine r_cSN C C.2.2.2.2.2.2.2.2.2.2.2.2.1 kasn (c_X4_asNumber (by omega)) dX1_burntInBeat_11 rfl rfl rfl (Nat.le_of_ble_eq_true rfl) ⟨Nat.le_of_ble_eq_true rfl, Nat.le_of_ble_eq_true rfl⟩ ⟨Nat.le_of_ble_eq_true rfl, Nat.le_of_ble_eq_true rfl⟩ ?_
    refine r_iadd C dX1_burntInBeat_14 ?_
    refine r_iload_n C dX1_burntInBeat_15 rfl rfl ?_
    refine r_bipush C dX1_burntInBeat_16 (by decide) ?_
    refine r_icmp_lt (tgt := 25) C dX1_burntInBeat_18 (by decide) (by omega) (by omega) (fun h18 => ?_) (fun h18 => ?_)
    · refine r_iconst C dX1_burntInBeat_25 ?_
      refine r_cSN C C.2.2.2.2.2.2.2.2.2.2.2.2.1 kasn (c_X4_asNumber (by omega)) dX1_burntInBeat_26 rfl rfl rfl (Nat.le_of_ble_eq_true rfl) ⟨Nat.le_of_ble_eq_true rfl, Nat.le_of_ble_eq_true rfl⟩ ⟨Nat.le_of_ble_eq_true rfl, Nat.le_of_ble_eq_true rfl⟩ ?_
      refine r_iadd C dX1_burntInBeat_29 ?_
      exact r_iretD C dX1_burntInBeat_30 (by unfold lessR; (repeat' split) <;> omega) rfl
    · refine r_iconst C dX1_burntInBeat_21 ?_
      refine r_goto (tgt := 26) C dX1_burntInBeat_22 (by decide) ?_
      refine r_cSN C C.2.2.2.2.2.2.2.2.2.2.2.2.1 kasn (c_X4_asNumber (by omega)) dX1_burntInBeat_26 rfl rfl rfl (Nat.le_of_ble_eq_true rfl) ⟨Nat.le_of_ble_eq_true rfl, Nat.le_of_ble_eq_true rfl⟩ ⟨Nat.le_of_ble_eq_true rfl, Nat.le_of_ble_eq_true rfl⟩ ?_
      refine r_iadd C dX1_burntInBeat_29 ?_
      exact r_iretD C dX1_burntInBeat_30 (by unfold lessR; (repeat' split) <;> omega) rfl
  · refine r_iconst C dX1_burntInBeat_6 ?_
    refine r_goto (tgt := 11) C dX1_burntInBeat_7 (by decide) ?_
    refine r_cSN C C.2.2.2.2.2.2.2.2.2.2.2.2.1 kasn (c_X4_asNumber (by omega)) dX1_burntInBeat_11 rfl rfl rfl (Nat.le_of_ble_eq_true rfl) ⟨Nat.le_of_ble_eq_true rfl, Nat.le_of_ble_eq_true rfl⟩ ⟨Nat.le_of_ble_eq_true rfl, Nat.le_of_ble_eq_true rfl⟩ ?_
    refine r_iadd C dX1_burntInBeat_14 ?_
    refine r_iload_n C dX1_burntInBeat_15 rfl rfl ?_
    refine r_bipush C dX1_burntInBeat_16 (by decide) ?_
    refine r_icmp_lt (tgt := 25) C dX1_burntInBeat_18 (by decide) (by omega) (by omega) (fun h18 => ?_) (fun h18 => ?_)
    · refine r_iconst C dX1_burntInBeat_25 ?_
      refine r_cSN C C.2.2.2.2.2.2.2.2.2.2.2.2.1 kasn (c_X4_asNumber (by omega)) dX1_burntInBeat_26 rfl rfl rfl (Nat.le_of_ble_eq_true rfl) ⟨Nat.le_of_ble_eq_true rfl, Nat.le_of_ble_eq_true rfl⟩ ⟨Nat.le_of_ble_eq_true rfl, Nat.le_of_ble_eq_true rfl⟩ ?_
      refine r_iadd C dX1_burntInBeat_29 ?_
      exact r_iretD C dX1_burntInBeat_30 (by unfold lessR; (repeat' split) <;> omega) rfl
    · refine r_iconst C dX1_burntInBeat_21 ?_
      refine r_goto (tgt := 26) C dX1_burntInBeat_22 (by decide) ?_
      refine r_cSN C C.2.2.2.2.2.2.2.2.2.2.2.2.1 kasn (c_X4_asNumber (by omega)) dX1_burntInBeat_26 rfl rfl rfl (Nat.le_of_ble_eq_true rfl) ⟨Nat.le_of_ble_eq_true rfl, Nat.le_of_ble_eq_true rfl⟩ ⟨Nat.le_of_ble_eq_true rfl, Nat.le_of_ble_eq_true rfl⟩ ?_
      refine r_iadd C dX1_burntInBeat_29 ?_
      exact r_iretD C dX1_burntInBeat_30 (by unfold lessR; (repeat' split) <;> omega) rfl

set_option maxRecDepth 100000 in
set_option maxHeartbeats 4000000 in
theorem c_X1_burnForBeat {l : Launch} {D : va_G} {ty : Nat → ClassId} {ad : Int → Nat} {N : Int} {σ : Int → va_E} {k : Int} {ρ : Int → Int} (hk : 0 ≤ k ∧ k + 3 ≤ N) (hl : 0 ≤ ρ 0 ∧ ρ 0 ≤ 60) (hb : ρ 1 = 0 ∨ ρ 1 = 1) (hwk : 0 ≤ ρ 2 ∧ ρ 2 ≤ 9) : gM0 l yX1_burnForBeat cX1_burnForBeat 1 none 2 40 [.ref (ad k)] D ty ad N (rput ad ty σ k ρ) (none) (rput ad ty σ k (burnR ρ)) := by
  refine gMet_of [some (.ref (ad k))] (by decide +kernel) rfl (Nat.le_of_ble_eq_true rfl) rfl ?_
  intro X hl hD hty C hini
  subst hl hD hty
  have hr := lessR_rng (ρ 2)
  refine r_aload_n C dX1_burnForBeat_0 rfl rfl ?_
  refine rr_get C flX1_35 dX1_burnForBeat_1 hk rfl ?_
  refine r_if_ne (tgt := 8) C dX1_burnForBeat_4 (by decide) (by omega) (fun h4 => ?_) (fun h4 => ?_)
  · refine r_aload_n C dX1_burnForBeat_8 rfl rfl ?_
    refine r_dup C dX1_burnForBeat_9 rfl ?_
    refine rr_get C flX1_44 dX1_burnForBeat_10 hk rfl ?_
    refine r_iconst C dX1_burnForBeat_13 ?_
    refine r_iadd C dX1_burnForBeat_14 ?_
    refine rr_put (j := 4) C flX1_44 dX1_burnForBeat_15 hk (by decide) rfl rfl rfl rfl ?_
    refine r_aload_n C dX1_burnForBeat_18 rfl rfl ?_
    refine r_iconst C dX1_burnForBeat_19 ?_
    refine r_aload_n C dX1_burnForBeat_20 rfl rfl ?_
    refine rr_get C flX1_18 dX1_burnForBeat_21 hk rfl ?_
    simp only [up_ap, Int.reduceEq, reduceIte]
    refine r_aload_n C dX1_burnForBeat_24 rfl rfl ?_
    refine rr_get C flX1_38 dX1_burnForBeat_25 hk rfl ?_
    simp only [up_ap, Int.reduceEq, reduceIte]
    refine r_cS C cwX1_55 (c_X1_burntInBeat (by omega)) dX1_burnForBeat_28 rfl rfl rfl (Nat.le_of_ble_eq_true rfl) ⟨Nat.le_of_ble_eq_true rfl, Nat.le_of_ble_eq_true rfl⟩ ⟨Nat.le_of_ble_eq_true rfl, Nat.le_of_ble_eq_true rfl⟩ ?_
    refine r_isub C dX1_burnForBeat_31 ?_
    refine r_cS C cwX1_58 (c_J9_max_7cf53 (by omega) (by omega)) dX1_burnForBeat_32 rfl rfl rfl (Nat.le_of_ble_eq_true rfl) ⟨Nat.le_of_ble_eq_true rfl, Nat.le_of_ble_eq_true rfl⟩ ⟨Nat.le_of_ble_eq_true rfl, Nat.le_of_ble_eq_true rfl⟩ ?_
    refine rr_put (j := 0) C flX1_18 dX1_burnForBeat_35 hk (by decide) rfl rfl rfl rfl ?_
    refine r_aload_n C dX1_burnForBeat_38 rfl rfl ?_
    refine r_aload_n C dX1_burnForBeat_39 rfl rfl ?_
    refine rr_get C flX1_18 dX1_burnForBeat_40 hk rfl ?_
    simp only [up_ap, Int.reduceEq, reduceIte]
    refine r_if_le (tgt := 50) C dX1_burnForBeat_43 (by decide) (by omega) (fun h43 => ?_) (fun h43 => ?_)
    · refine r_iconst C dX1_burnForBeat_50 ?_
      refine rr_put (j := 1) C flX1_35 dX1_burnForBeat_51 hk (by decide) rfl rfl (gI_z (by omega)) rfl ?_
      refine r_aload_n C dX1_burnForBeat_54 rfl rfl ?_
      refine rr_get C flX1_35 dX1_burnForBeat_55 hk rfl ?_
      simp only [up_ap, Int.reduceEq, reduceIte]
      refine r_if_eq (tgt := 76) C dX1_burnForBeat_58 (by decide) (by omega) (fun h58 => ?_) (fun h58 => ?_)
      · first
        | exact absurd h58 (by decide)
        | exact r_vretD C dX1_burnForBeat_76 (by unfold burnR; first | rw [if_neg (by omega), if_pos (by omega)] | rw [if_neg (by omega), if_neg (by omega)])
      · first
        | exact absurd h58 (by decide)
        | refine r_aload_n C dX1_burnForBeat_61 rfl rfl ?_
          refine r_bipush C dX1_burnForBeat_62 (by decide) ?_
          refine r_aload_n C dX1_burnForBeat_64 rfl rfl ?_
          refine rr_get C flX1_38 dX1_burnForBeat_65 hk rfl ?_
          simp only [up_ap, Int.reduceEq, reduceIte]
          refine r_iconst C dX1_burnForBeat_68 ?_
          refine r_iadd C dX1_burnForBeat_69 ?_
          refine r_cS C cwX1_64 (c_J9_min_7cf53 (by omega) (by omega)) dX1_burnForBeat_70 rfl rfl rfl (Nat.le_of_ble_eq_true rfl) ⟨Nat.le_of_ble_eq_true rfl, Nat.le_of_ble_eq_true rfl⟩ ⟨Nat.le_of_ble_eq_true rfl, Nat.le_of_ble_eq_true rfl⟩ ?_
          refine rr_put (j := 2) C flX1_38 dX1_burnForBeat_73 hk (by decide) rfl rfl rfl rfl ?_
          exact r_vretD C dX1_burnForBeat_76 (by unfold burnR; first | rw [if_neg (by omega), if_pos (by omega)] | rw [if_neg (by omega), if_neg (by omega)])
    · refine r_iconst C dX1_burnForBeat_46 ?_
      refine r_goto (tgt := 51) C dX1_burnForBeat_47 (by decide) ?_
      refine rr_put (j := 1) C flX1_35 dX1_burnForBeat_51 hk (by decide) rfl rfl (gI_z (by omega)) rfl ?_
      refine r_aload_n C dX1_burnForBeat_54 rfl rfl ?_
      refine rr_get C flX1_35 dX1_burnForBeat_55 hk rfl ?_
      simp only [up_ap, Int.reduceEq, reduceIte]
      refine r_if_eq (tgt := 76) C dX1_burnForBeat_58 (by decide) (by omega) (fun h58 => ?_) (fun h58 => ?_)
      · first
        | exact absurd h58 (by decide)
        | exact r_vretD C dX1_burnForBeat_76 (by unfold burnR; first | rw [if_neg (by omega), if_pos (by omega)] | rw [if_neg (by omega), if_neg (by omega)])
      · first
        | exact absurd h58 (by decide)
        | refine r_aload_n C dX1_burnForBeat_61 rfl rfl ?_
          refine r_bipush C dX1_burnForBeat_62 (by decide) ?_
          refine r_aload_n C dX1_burnForBeat_64 rfl rfl ?_
          refine rr_get C flX1_38 dX1_burnForBeat_65 hk rfl ?_
          simp only [up_ap, Int.reduceEq, reduceIte]
          refine r_iconst C dX1_burnForBeat_68 ?_
          refine r_iadd C dX1_burnForBeat_69 ?_
          refine r_cS C cwX1_64 (c_J9_min_7cf53 (by omega) (by omega)) dX1_burnForBeat_70 rfl rfl rfl (Nat.le_of_ble_eq_true rfl) ⟨Nat.le_of_ble_eq_true rfl, Nat.le_of_ble_eq_true rfl⟩ ⟨Nat.le_of_ble_eq_true rfl, Nat.le_of_ble_eq_true rfl⟩ ?_
          refine rr_put (j := 2) C flX1_38 dX1_burnForBeat_73 hk (by decide) rfl rfl rfl rfl ?_
          exact r_vretD C dX1_burnForBeat_76 (by unfold burnR; first | rw [if_neg (by omega), if_pos (by omega)] | rw [if_neg (by omega), if_neg (by omega)])
  · exact r_vretD C dX1_burnForBeat_7 (by unfold burnR; rw [if_pos (by omega)])

set_option maxRecDepth 100000 in
set_option maxHeartbeats 4000000 in
theorem c_X1_beatsUntrimmed {l : Launch} {D : va_G} {ty : Nat → ClassId} {ad : Int → Nat} {N : Int} {σ : Int → va_E} {k : Int} {ρ : Int → Int} (hk : 0 ≤ k ∧ k + 3 ≤ N) (hl : 0 ≤ ρ 0 ∧ ρ 0 ≤ 60) (hwk : 0 ≤ ρ 2 ∧ ρ 2 ≤ 9) : gM0 l yX1_beatsUntrimmed cX1_beatsUntrimmed 4 (some .int) 2 40 [.ref (ad k)] D ty ad N (rput ad ty σ k ρ) (some (.int (gI (untr 60 (ρ 0) (ρ 2))))) (rput ad ty σ k ρ) := by
  refine gMet_of [some (.ref (ad k)), none, none, none] (by decide +kernel) rfl (Nat.le_of_ble_eq_true rfl) rfl ?_
  intro X hl hD hty C hini
  subst hl hD hty
  refine r_aload_n C dX1_beatsUntrimmed_0 rfl rfl ?_
  refine rr_get C flX1_18 dX1_beatsUntrimmed_1 hk rfl ?_
  refine r_istore_n C dX1_beatsUntrimmed_4 rfl (Nat.le_of_ble_eq_true rfl) rfl ?_
  dsimp only [List.set]
  refine r_aload_n C dX1_beatsUntrimmed_5 rfl rfl ?_
  refine rr_get C flX1_38 dX1_beatsUntrimmed_6 hk rfl ?_
  refine r_istore_n C dX1_beatsUntrimmed_9 rfl (Nat.le_of_ble_eq_true rfl) rfl ?_
  dsimp only [List.set]
  refine r_iconst C dX1_beatsUntrimmed_10 ?_
  refine r_istore_n C dX1_beatsUntrimmed_11 rfl (Nat.le_of_ble_eq_true rfl) rfl ?_
  dsimp only [List.set]
  have lp : ∀ (n : Nat) (l t b : Int), (-3 ≤ l ∧ l ≤ 60) → (0 ≤ t ∧ t ≤ 9) → (0 ≤ b) → (b + n = 60) → (b + untr n l t = untr 60 (ρ 0) (ρ 2)) → V X 0 0 (gQ X (gD (some (.int (gI (untr 60 (ρ 0) (ρ 2))))) ad N (rput ad (gty X) σ k ρ)) 0 0) 12 [some (.ref (ad k)), some (.int (gI l)), some (.int (gI t)), some (.int (gI b))] [] ad N (rput ad (gty X) σ k ρ) := by
    intro n
    induction n with
    | zero =>
      intro l t b hl2 ht2 hb2 hbn e
      refine r_iload_n C dX1_beatsUntrimmed_12 rfl rfl ?_
      refine r_bipush C dX1_beatsUntrimmed_13 (by decide) ?_
      refine r_icmp_ge (tgt := 46) C dX1_beatsUntrimmed_15 (by decide) (by omega) (by omega) (fun h15 => ?_) (fun h15 => ?_)
      · refine r_bipush C dX1_beatsUntrimmed_46 (by decide) ?_
        exact r_iretD C dX1_beatsUntrimmed_48 (by rw [← e]; simp only [untr]; omega) rfl
      · exact absurd h15 (by omega)
    | succ n ih =>
      intro l t b hl2 ht2 hb2 hbn e
      have hr := lessR_rng t
      refine r_iload_n C dX1_beatsUntrimmed_12 rfl rfl ?_
      refine r_bipush C dX1_beatsUntrimmed_13 (by decide) ?_
      refine r_icmp_ge (tgt := 46) C dX1_beatsUntrimmed_15 (by decide) (by omega) (by omega) (fun h15 => ?_) (fun h15 => ?_)
      · exact absurd h15 (by omega)
      · refine r_iload_n C dX1_beatsUntrimmed_18 rfl rfl ?_
        refine r_if_gt (tgt := 24) C dX1_beatsUntrimmed_19 (by decide) (by omega) (fun h19 => ?_) (fun h19 => ?_)
        · refine r_iload_n C dX1_beatsUntrimmed_24 rfl rfl ?_
          refine r_iload_n C dX1_beatsUntrimmed_25 rfl rfl ?_
          refine r_cS C cwX1_55 (c_X1_burntInBeat (by omega)) dX1_beatsUntrimmed_26 rfl rfl rfl (Nat.le_of_ble_eq_true rfl) ⟨Nat.le_of_ble_eq_true rfl, Nat.le_of_ble_eq_true rfl⟩ ⟨Nat.le_of_ble_eq_true rfl, Nat.le_of_ble_eq_true rfl⟩ ?_
          refine r_isub C dX1_beatsUntrimmed_29 ?_
          refine r_istore_n C dX1_beatsUntrimmed_30 rfl (Nat.le_of_ble_eq_true rfl) rfl ?_
          dsimp only [List.set]
          refine r_bipush C dX1_beatsUntrimmed_31 (by decide) ?_
          refine r_iload_n C dX1_beatsUntrimmed_33 rfl rfl ?_
          refine r_iconst C dX1_beatsUntrimmed_34 ?_
          refine r_iadd C dX1_beatsUntrimmed_35 ?_
          refine r_cS C cwX1_64 (c_J9_min_7cf53 (by omega) (by omega)) dX1_beatsUntrimmed_36 rfl rfl rfl (Nat.le_of_ble_eq_true rfl) ⟨Nat.le_of_ble_eq_true rfl, Nat.le_of_ble_eq_true rfl⟩ ⟨Nat.le_of_ble_eq_true rfl, Nat.le_of_ble_eq_true rfl⟩ ?_
          refine r_istore_n C dX1_beatsUntrimmed_39 rfl (Nat.le_of_ble_eq_true rfl) rfl ?_
          dsimp only [List.set]
          refine r_iinc C dX1_beatsUntrimmed_40 rfl rfl ?_
          dsimp only [List.set]
          refine r_goto (tgt := 12) C dX1_beatsUntrimmed_43 (by decide) ?_
          exact ih _ _ (b + 1) (by omega) (by omega) (by omega) (by omega) (by rw [← e, untr, if_neg (by omega)]; omega)
        · refine r_iload_n C dX1_beatsUntrimmed_22 rfl rfl ?_
          exact r_iretD C dX1_beatsUntrimmed_23 (by rw [← e, untr, if_pos (by omega)]; omega) rfl
  exact lp 60 (ρ 0) (ρ 2) 0 (by omega) (by omega) (by omega) (by omega) (by omega)

set_option maxRecDepth 100000 in
set_option maxHeartbeats 4000000 in
theorem c_X1_beatsSaved {l : Launch} {D : va_G} {ty : Nat → ClassId} {ad : Int → Nat} {N : Int} {σ : Int → va_E} {k : Int} {ρ : Int → Int} (hk : 0 ≤ k ∧ k + 3 ≤ N) (hl : 0 ≤ ρ 0 ∧ ρ 0 ≤ 60) (hb : ρ 1 = 0 ∨ ρ 1 = 1) (hwk : 0 ≤ ρ 2 ∧ ρ 2 ≤ 9) : gM0 l yX1_beatsSaved cX1_beatsSaved 1 (some .int) 3 63 [.ref (ad k)] D ty ad N (rput ad ty σ k ρ) (some (.int (gI (savR ρ)))) (rput ad ty σ k ρ) := by
  refine gMet_of [some (.ref (ad k))] (by decide +kernel) rfl (Nat.le_of_ble_eq_true rfl) rfl ?_
  intro X hl hD hty C hini
  subst hl hD hty
  refine r_aload_n C dX1_beatsSaved_0 rfl rfl ?_
  refine rr_get C flX1_35 dX1_beatsSaved_1 hk rfl ?_
  refine r_if_eq (tgt := 19) C dX1_beatsSaved_4 (by decide) (by omega) (fun h4 => ?_) (fun h4 => ?_)
  · refine r_iconst C dX1_beatsSaved_19 ?_
    exact r_iretD C dX1_beatsSaved_20 (by unfold savR; first | rw [if_pos (by omega)] | rw [if_neg (by omega)]) rfl
  · refine r_aload_n C dX1_beatsSaved_7 rfl rfl ?_
    refine rr_get C flX1_18 dX1_beatsSaved_8 hk rfl ?_
    refine r_aload_n C dX1_beatsSaved_11 rfl rfl ?_
    refine r_cV C cwX1_67 (c_X1_beatsUntrimmed hk hl hwk) dX1_beatsSaved_12 rfl (by omega) rput_0 rfl rfl rfl (Nat.le_of_ble_eq_true rfl) ⟨Nat.le_of_ble_eq_true rfl, Nat.le_of_ble_eq_true rfl⟩ ⟨Nat.le_of_ble_eq_true rfl, Nat.le_of_ble_eq_true rfl⟩ ?_
    refine r_isub C dX1_beatsSaved_15 ?_
    refine r_goto (tgt := 20) C dX1_beatsSaved_16 (by decide) ?_
    exact r_iretD C dX1_beatsSaved_20 (by unfold savR; first | rw [if_pos (by omega)] | rw [if_neg (by omega)]) rfl

set_option maxRecDepth 100000 in
set_option maxHeartbeats 4000000 in
theorem c_X1_ageThings {l : Launch} {D : va_G} {ty : Nat → ClassId} {ad : Int → Nat} {N : Int} {σ : Int → va_E} {k set : Int} {ρ : Int → Int} (hk : 0 ≤ k ∧ k + 3 ≤ N) (hm : 0 ≤ ρ 6 ∧ ρ 6 ≤ 4) (hb : ρ 1 = 0 ∨ ρ 1 = 1) (hset : 1 ≤ set ∧ set ≤ 50) (hd0 : ∀ i, 0 ≤ i → i < 4 → 0 ≤ ρ (11 + i) ∧ ρ (11 + i) ≤ 100) : gM0 l yX1_ageThings cX1_ageThings 5 (some .int) 0 0 [.ref (ad k), .int (gI set)] D ty ad N (rput ad ty σ k ρ) (some (.int (gI (ρ 6 - ageQ ρ set)))) (rput ad ty σ k (ageR ρ set)) := by
  refine gMet_of [some (.ref (ad k)), some (.int (gI set)), none, none, none] (by decide +kernel) rfl (Nat.le_of_ble_eq_true rfl) rfl ?_
  intro X hl hD hty C hini
  subst hl hD hty
  refine r_iconst C dX1_ageThings_0 ?_
  refine r_istore_n C dX1_ageThings_1 rfl (Nat.le_of_ble_eq_true rfl) rfl ?_
  dsimp only [List.set]
  refine r_iconst C dX1_ageThings_2 ?_
  refine r_istore_n C dX1_ageThings_3 rfl (Nat.le_of_ble_eq_true rfl) rfl ?_
  dsimp only [List.set]
  have lp : ∀ (n : Nat) (p q : Int) (r : Int → Int), (0 ≤ q ∧ q ≤ p) → (p + n = ρ 6) → (r 1 = 0 ∨ r 1 = 1) → (r 6 = ρ 6) → (r 1 = ρ 1) → (∀ i, 0 ≤ i → i < 4 → 0 ≤ r (11 + i) ∧ r (11 + i) ≤ 100) → (ageL set n p q r = ageL set (ρ 6).toNat 0 0 ρ) → V X 0 0 (gQ X (gD (some (.int (gI (ρ 6 - ageQ ρ set)))) ad N (rput ad (gty X) σ k (ageR ρ set))) 0 0) 4 [some (.ref (ad k)), some (.int (gI set)), some (.int (gI q)), some (.int (gI p)), none] [] ad N (rput ad (gty X) σ k r) := by
    intro n
    induction n with
    | zero =>
      intro p q r hp hpn hb2 h6 hb1 hd2 e
      refine r_iload_n C dX1_ageThings_4 rfl rfl ?_
      refine r_aload_n C dX1_ageThings_5 rfl rfl ?_
      refine rr_get C flX1_32 dX1_ageThings_6 hk rfl ?_
      refine r_icmp_ge (tgt := 68) C dX1_ageThings_9 (by decide) (by omega) (by omega) (fun h9 => ?_) (fun h9 => ?_)
      · refine r_aload_n C dX1_ageThings_68 rfl rfl ?_
        refine rr_get C flX1_32 dX1_ageThings_69 hk rfl ?_
        refine r_iload_n C dX1_ageThings_72 rfl rfl ?_
        refine r_isub C dX1_ageThings_73 ?_
        refine r_istore_n C dX1_ageThings_74 rfl (Nat.le_of_ble_eq_true rfl) rfl ?_
        dsimp only [List.set]
        refine r_aload_n C dX1_ageThings_75 rfl rfl ?_
        refine r_iload_n C dX1_ageThings_76 rfl rfl ?_
        refine rr_put (j := 6) C flX1_32 dX1_ageThings_77 hk (by decide) rfl rfl rfl rfl ?_
        refine r_iload_n C dX1_ageThings_80 rfl rfl ?_
        exact r_iretD C dX1_ageThings_81 (by unfold ageQ; rw [← e, h6]; rfl) (by unfold ageR ageQ; rw [← e]; rfl)
      · exact absurd h9 (by omega)
    | succ n ih =>
      intro p q r hp hpn hb2 h6 hb1 hd2 e
      have hdp := hd2 p (by omega)
      refine r_iload_n C dX1_ageThings_4 rfl rfl ?_
      refine r_aload_n C dX1_ageThings_5 rfl rfl ?_
      refine rr_get C flX1_32 dX1_ageThings_6 hk rfl ?_
      refine r_icmp_ge (tgt := 68) C dX1_ageThings_9 (by decide) (by omega) (by omega) (fun h9 => ?_) (fun h9 => ?_)
      · exact absurd h9 (by omega)
      · refine r_aload_n C dX1_ageThings_12 rfl rfl ?_
        refine rr_get C flX1_35 dX1_ageThings_13 hk rfl ?_
        refine r_if_eq (tgt := 23) C dX1_ageThings_16 (by decide) (by omega) (fun h16 => ?_) (fun h16 => ?_)
        · have hdp := hdp (by omega)
          refine r_aload_n C dX1_ageThings_23 rfl rfl ?_
          refine rr_get C flX1_15 dX1_ageThings_24 hk rfl ?_
          refine r_iload_n C dX1_ageThings_27 rfl rfl ?_
          first | refine rr_kld C dX1_ageThings_28 hk (by omega) ?_ | refine rr_dld C dX1_ageThings_28 hk (by omega) ?_
          refine r_iconst C dX1_ageThings_29 ?_
          refine r_iadd C dX1_ageThings_30 ?_
          refine r_istore C dX1_ageThings_31 (Nat.le_of_ble_eq_true rfl) rfl ?_
          dsimp only [List.set]
          refine r_iload C dX1_ageThings_33 rfl ?_
          refine r_iload_n C dX1_ageThings_35 rfl rfl ?_
          refine r_icmp_ge (tgt := 62) C dX1_ageThings_36 (by decide) (by omega) (by omega) (fun h36 => ?_) (fun h36 => ?_)
          · refine r_iinc C dX1_ageThings_62 rfl rfl ?_
            dsimp only [List.set]
            refine r_goto (tgt := 4) C dX1_ageThings_65 (by decide) ?_
            first
            | (refine V_sub (L' := [some (.ref (ad k)), some (.int (gI set)), some (.int (gI (q + 1))), some (.int (gI (p + 1))), none]) rfl (fun i v hv => by match i, hv with | 0, hv => exact hv | 1, hv => exact hv | 2, hv => exact hv | 3, hv => exact hv | 4, hv => simp at hv | i + 5, hv => simp at hv) ?_; exact ih _ (q + 1) _ (by omega) (by omega) (by rw [up_n (by omega), up_n (by omega)]; exact hb2) (by rw [up_n (by omega), up_n (by omega)]; exact h6) (by rw [up_n (by omega), up_n (by omega)]; exact hb1) (fun i h1 h2 => if hi : i = q then (by rw [hi, up_s]; omega) else (by rw [up_n (by omega), up_n (by omega)]; exact hd2 i h1 h2)) ((show _ = ageL set (n + 1) p q r by simp only [ageL, h16, h36, Int.reduceEq, reduceIte]).trans e))
            | (refine V_sub (L' := [some (.ref (ad k)), some (.int (gI set)), some (.int (gI q)), some (.int (gI (p + 1))), none]) rfl (fun i v hv => by match i, hv with | 0, hv => exact hv | 1, hv => exact hv | 2, hv => exact hv | 3, hv => exact hv | 4, hv => simp at hv | i + 5, hv => simp at hv) ?_; exact ih _ q _ (by omega) (by omega) hb2 h6 hb1 hd2 ((show _ = ageL set (n + 1) p q r by simp only [ageL, h16, Int.not_lt.mpr h36, reduceIte]).trans e))
          · refine r_aload_n C dX1_ageThings_39 rfl rfl ?_
            refine rr_get C flX1_9 dX1_ageThings_40 hk rfl ?_
            refine r_iload_n C dX1_ageThings_43 rfl rfl ?_
            refine r_aload_n C dX1_ageThings_44 rfl rfl ?_
            refine rr_get C flX1_9 dX1_ageThings_45 hk rfl ?_
            refine r_iload_n C dX1_ageThings_48 rfl rfl ?_
            first | refine rr_kld C dX1_ageThings_49 hk (by omega) ?_ | refine rr_dld C dX1_ageThings_49 hk (by omega) ?_
            first | refine rr_kst C dX1_ageThings_50 hk (by omega) ?_ | refine rr_dst C dX1_ageThings_50 hk (by omega) ?_
            refine r_aload_n C dX1_ageThings_51 rfl rfl ?_
            refine rr_get C flX1_15 dX1_ageThings_52 hk rfl ?_
            refine r_iload_n C dX1_ageThings_55 rfl rfl ?_
            refine r_iload C dX1_ageThings_56 rfl ?_
            first | refine rr_kst C dX1_ageThings_58 hk (by omega) ?_ | refine rr_dst C dX1_ageThings_58 hk (by omega) ?_
            refine r_iinc C dX1_ageThings_59 rfl rfl ?_
            dsimp only [List.set]
            refine r_iinc C dX1_ageThings_62 rfl rfl ?_
            dsimp only [List.set]
            refine r_goto (tgt := 4) C dX1_ageThings_65 (by decide) ?_
            first
            | (refine V_sub (L' := [some (.ref (ad k)), some (.int (gI set)), some (.int (gI (q + 1))), some (.int (gI (p + 1))), none]) rfl (fun i v hv => by match i, hv with | 0, hv => exact hv | 1, hv => exact hv | 2, hv => exact hv | 3, hv => exact hv | 4, hv => simp at hv | i + 5, hv => simp at hv) ?_; exact ih _ (q + 1) _ (by omega) (by omega) (by rw [up_n (by omega), up_n (by omega)]; exact hb2) (by rw [up_n (by omega), up_n (by omega)]; exact h6) (by rw [up_n (by omega), up_n (by omega)]; exact hb1) (fun i h1 h2 => if hi : i = q then (by rw [hi, up_s]; omega) else (by rw [up_n (by omega), up_n (by omega)]; exact hd2 i h1 h2)) ((show _ = ageL set (n + 1) p q r by simp only [ageL, h16, h36, Int.reduceEq, reduceIte]).trans e))
            | (refine V_sub (L' := [some (.ref (ad k)), some (.int (gI set)), some (.int (gI q)), some (.int (gI (p + 1))), none]) rfl (fun i v hv => by match i, hv with | 0, hv => exact hv | 1, hv => exact hv | 2, hv => exact hv | 3, hv => exact hv | 4, hv => simp at hv | i + 5, hv => simp at hv) ?_; exact ih _ q _ (by omega) (by omega) hb2 h6 hb1 hd2 ((show _ = ageL set (n + 1) p q r by simp only [ageL, h16, Int.not_lt.mpr h36, reduceIte]).trans e))
        · have hdp := hdp (by omega)
          refine r_iconst C dX1_ageThings_19 ?_
          refine r_goto (tgt := 31) C dX1_ageThings_20 (by decide) ?_
          refine r_istore C dX1_ageThings_31 (Nat.le_of_ble_eq_true rfl) rfl ?_
          dsimp only [List.set]
          refine r_iload C dX1_ageThings_33 rfl ?_
          refine r_iload_n C dX1_ageThings_35 rfl rfl ?_
          refine r_icmp_ge (tgt := 62) C dX1_ageThings_36 (by decide) (by omega) (by omega) (fun h36 => ?_) (fun h36 => ?_)
          · refine r_iinc C dX1_ageThings_62 rfl rfl ?_
            dsimp only [List.set]
            refine r_goto (tgt := 4) C dX1_ageThings_65 (by decide) ?_
            first
            | (refine V_sub (L' := [some (.ref (ad k)), some (.int (gI set)), some (.int (gI (q + 1))), some (.int (gI (p + 1))), none]) rfl (fun i v hv => by match i, hv with | 0, hv => exact hv | 1, hv => exact hv | 2, hv => exact hv | 3, hv => exact hv | 4, hv => simp at hv | i + 5, hv => simp at hv) ?_; exact ih _ (q + 1) _ (by omega) (by omega) (by rw [up_n (by omega), up_n (by omega)]; exact hb2) (by rw [up_n (by omega), up_n (by omega)]; exact h6) (by rw [up_n (by omega), up_n (by omega)]; exact hb1) (fun i h1 h2 => if hi : i = q then (by rw [hi, up_s]; omega) else (by rw [up_n (by omega), up_n (by omega)]; exact hd2 i h1 h2)) ((show _ = ageL set (n + 1) p q r by simp only [ageL, h16, h36, Int.reduceEq, reduceIte]).trans e))
            | (refine V_sub (L' := [some (.ref (ad k)), some (.int (gI set)), some (.int (gI q)), some (.int (gI (p + 1))), none]) rfl (fun i v hv => by match i, hv with | 0, hv => exact hv | 1, hv => exact hv | 2, hv => exact hv | 3, hv => exact hv | 4, hv => simp at hv | i + 5, hv => simp at hv) ?_; exact ih _ q _ (by omega) (by omega) hb2 h6 hb1 hd2 ((show _ = ageL set (n + 1) p q r by simp only [ageL, h16, Int.not_lt.mpr h36, reduceIte]).trans e))
          · refine r_aload_n C dX1_ageThings_39 rfl rfl ?_
            refine rr_get C flX1_9 dX1_ageThings_40 hk rfl ?_
            refine r_iload_n C dX1_ageThings_43 rfl rfl ?_
            refine r_aload_n C dX1_ageThings_44 rfl rfl ?_
            refine rr_get C flX1_9 dX1_ageThings_45 hk rfl ?_
            refine r_iload_n C dX1_ageThings_48 rfl rfl ?_
            first | refine rr_kld C dX1_ageThings_49 hk (by omega) ?_ | refine rr_dld C dX1_ageThings_49 hk (by omega) ?_
            first | refine rr_kst C dX1_ageThings_50 hk (by omega) ?_ | refine rr_dst C dX1_ageThings_50 hk (by omega) ?_
            refine r_aload_n C dX1_ageThings_51 rfl rfl ?_
            refine rr_get C flX1_15 dX1_ageThings_52 hk rfl ?_
            refine r_iload_n C dX1_ageThings_55 rfl rfl ?_
            refine r_iload C dX1_ageThings_56 rfl ?_
            first | refine rr_kst C dX1_ageThings_58 hk (by omega) ?_ | refine rr_dst C dX1_ageThings_58 hk (by omega) ?_
            refine r_iinc C dX1_ageThings_59 rfl rfl ?_
            dsimp only [List.set]
            refine r_iinc C dX1_ageThings_62 rfl rfl ?_
            dsimp only [List.set]
            refine r_goto (tgt := 4) C dX1_ageThings_65 (by decide) ?_
            first
            | (refine V_sub (L' := [some (.ref (ad k)), some (.int (gI set)), some (.int (gI (q + 1))), some (.int (gI (p + 1))), none]) rfl (fun i v hv => by match i, hv with | 0, hv => exact hv | 1, hv => exact hv | 2, hv => exact hv | 3, hv => exact hv | 4, hv => simp at hv | i + 5, hv => simp at hv) ?_; exact ih _ (q + 1) _ (by omega) (by omega) (by rw [up_n (by omega), up_n (by omega)]; exact hb2) (by rw [up_n (by omega), up_n (by omega)]; exact h6) (by rw [up_n (by omega), up_n (by omega)]; exact hb1) (fun i h1 h2 => if hi : i = q then (by rw [hi, up_s]; omega) else (by rw [up_n (by omega), up_n (by omega)]; exact hd2 i h1 h2)) ((show _ = ageL set (n + 1) p q r by simp only [ageL, h16, h36, Int.reduceEq, reduceIte]).trans e))
            | (refine V_sub (L' := [some (.ref (ad k)), some (.int (gI set)), some (.int (gI q)), some (.int (gI (p + 1))), none]) rfl (fun i v hv => by match i, hv with | 0, hv => exact hv | 1, hv => exact hv | 2, hv => exact hv | 3, hv => exact hv | 4, hv => simp at hv | i + 5, hv => simp at hv) ?_; exact ih _ q _ (by omega) (by omega) hb2 h6 hb1 hd2 ((show _ = ageL set (n + 1) p q r by simp only [ageL, h16, Int.not_lt.mpr h36, reduceIte]).trans e))
  exact lp (ρ 6).toNat 0 0 ρ (by omega) (by omega) hb rfl rfl hd0 rfl

set_option maxRecDepth 100000 in
set_option maxHeartbeats 4000000 in
theorem c_X1_beatsToFirstForgotten {l : Launch} {D : va_G} {ty : Nat → ClassId} {ad : Int → Nat} {N : Int} {σ : Int → va_E} {k bl set : Int} {ρ : Int → Int} (hk : 0 ≤ k ∧ k + 3 ≤ N) (hm : 0 ≤ ρ 6 ∧ ρ 6 ≤ 4) (hbl : 0 ≤ bl ∧ bl ≤ 100) (hset : 1 ≤ set ∧ set ≤ 50) (hd0 : ∀ i, 0 ≤ i → i < 4 → 0 ≤ ρ (11 + i) ∧ ρ (11 + i) ≤ 100) : gM0 l yX1_beatsToFirstForgotten cX1_beatsToFirstForgotten 5 (some .int) 1 21 [.ref (ad k), .int (gI bl), .int (gI set)] D ty ad N (rput ad ty σ k ρ) (some (.int (gI (ffR ρ bl set)))) (rput ad ty σ k ρ) := by
  refine gMet_of [some (.ref (ad k)), some (.int (gI bl)), some (.int (gI set)), none, none] (by decide +kernel) rfl (Nat.le_of_ble_eq_true rfl) rfl ?_
  intro X hl hD hty C hini
  subst hl hD hty
  refine r_iload_n C dX1_beatsToFirstForgotten_0 rfl rfl ?_
  refine r_iconst C dX1_beatsToFirstForgotten_1 ?_
  refine r_icmp_le (tgt := 11) C dX1_beatsToFirstForgotten_2 (by decide) (by omega) (by omega) (fun h2 => ?_) (fun h2 => ?_)
  · refine r_iconst C dX1_beatsToFirstForgotten_11 ?_
    refine r_istore_n C dX1_beatsToFirstForgotten_12 rfl (Nat.le_of_ble_eq_true rfl) rfl ?_
    dsimp only [List.set]
    refine r_iconst C dX1_beatsToFirstForgotten_13 ?_
    refine r_istore C dX1_beatsToFirstForgotten_14 (Nat.le_of_ble_eq_true rfl) rfl ?_
    dsimp only [List.set]
    have lp : ∀ (n : Nat) (p a : Int), (0 ≤ p) → (p + n = ρ 6) → (0 ≤ a ∧ a ≤ 100) → (maxD ρ n p a = maxD ρ (ρ 6).toNat 0 0) → V X 0 0 (gQ X (gD (some (.int (gI (ffR ρ bl set)))) ad N (rput ad (gty X) σ k ρ)) 0 0) 16 [some (.ref (ad k)), some (.int (gI bl)), some (.int (gI set)), some (.int (gI a)), some (.int (gI p))] [] ad N (rput ad (gty X) σ k ρ) := by
      intro n
      induction n with
      | zero =>
        intro p a hp hpn ha e
        refine r_iload C dX1_beatsToFirstForgotten_16 rfl ?_
        refine r_aload_n C dX1_beatsToFirstForgotten_18 rfl rfl ?_
        refine rr_get C flX1_32 dX1_beatsToFirstForgotten_19 hk rfl ?_
        refine r_icmp_ge (tgt := 43) C dX1_beatsToFirstForgotten_22 (by decide) (by omega) (by omega) (fun h22 => ?_) (fun h22 => ?_)
        · refine r_iconst C dX1_beatsToFirstForgotten_43 ?_
          refine r_iload_n C dX1_beatsToFirstForgotten_44 rfl rfl ?_
          refine r_iload_n C dX1_beatsToFirstForgotten_45 rfl rfl ?_
          refine r_isub C dX1_beatsToFirstForgotten_46 ?_
          refine r_cS C cwX1_58 (c_J9_max_7cf53 (by omega) (by omega)) dX1_beatsToFirstForgotten_47 rfl rfl rfl (Nat.le_of_ble_eq_true rfl) ⟨Nat.le_of_ble_eq_true rfl, Nat.le_of_ble_eq_true rfl⟩ ⟨Nat.le_of_ble_eq_true rfl, Nat.le_of_ble_eq_true rfl⟩ ?_
          exact r_iretD C dX1_beatsToFirstForgotten_50 (by unfold ffR; rw [if_neg (by omega), ← e]; rfl) rfl
        · exact absurd h22 (by omega)
      | succ n ih =>
        intro p a hp hpn ha e
        have hdp := hd0 p (by omega) (by omega)
        refine r_iload C dX1_beatsToFirstForgotten_16 rfl ?_
        refine r_aload_n C dX1_beatsToFirstForgotten_18 rfl rfl ?_
        refine rr_get C flX1_32 dX1_beatsToFirstForgotten_19 hk rfl ?_
        refine r_icmp_ge (tgt := 43) C dX1_beatsToFirstForgotten_22 (by decide) (by omega) (by omega) (fun h22 => ?_) (fun h22 => ?_)
        · exact absurd h22 (by omega)
        · refine r_iload_n C dX1_beatsToFirstForgotten_25 rfl rfl ?_
          refine r_aload_n C dX1_beatsToFirstForgotten_26 rfl rfl ?_
          refine rr_get C flX1_15 dX1_beatsToFirstForgotten_27 hk rfl ?_
          refine r_iload C dX1_beatsToFirstForgotten_30 rfl ?_
          first | refine rr_kld C dX1_beatsToFirstForgotten_32 hk (by omega) ?_ | refine rr_dld C dX1_beatsToFirstForgotten_32 hk (by omega) ?_
          refine r_cS C cwX1_58 (c_J9_max_7cf53 (by omega) (by omega)) dX1_beatsToFirstForgotten_33 rfl rfl rfl (Nat.le_of_ble_eq_true rfl) ⟨Nat.le_of_ble_eq_true rfl, Nat.le_of_ble_eq_true rfl⟩ ⟨Nat.le_of_ble_eq_true rfl, Nat.le_of_ble_eq_true rfl⟩ ?_
          refine r_istore_n C dX1_beatsToFirstForgotten_36 rfl (Nat.le_of_ble_eq_true rfl) rfl ?_
          dsimp only [List.set]
          refine r_iinc C dX1_beatsToFirstForgotten_37 rfl rfl ?_
          dsimp only [List.set]
          refine r_goto (tgt := 16) C dX1_beatsToFirstForgotten_40 (by decide) ?_
          exact ih _ _ (by omega) (by omega) (by omega) e
    exact lp (ρ 6).toNat 0 0 (by omega) (by omega) (by omega) rfl
  · refine r_iload_n C dX1_beatsToFirstForgotten_5 rfl rfl ?_
    refine r_iload_n C dX1_beatsToFirstForgotten_6 rfl rfl ?_
    refine r_iadd C dX1_beatsToFirstForgotten_7 ?_
    refine r_iconst C dX1_beatsToFirstForgotten_8 ?_
    refine r_isub C dX1_beatsToFirstForgotten_9 ?_
    exact r_iretD C dX1_beatsToFirstForgotten_10 (by unfold ffR; rw [if_pos (by omega)]) rfl
end
