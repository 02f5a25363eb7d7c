section
/-! the tables' words, the rows on exceptions (out of the skeleton and the printed names) -/
-- ===== PART A: goes FIRST, ahead of the names: the tables' words, and 'selects' of the private methods out of them =====
/-- a private method of a class that the tables say can be made, by its rows of tables_1 -/
def lw_okq (q : MethodName × Nat) : Prop := (q.1.cls ≠ "java/lang/invoke/MethodHandle" ∧ q.1.cls ≠ "java/lang/invoke/VarHandle") ∧ Cond.instantiable q.1.cls q.2 ∈ tables_1 ∧ Cond.privateMethod q.1 ∈ tables_1 ∧ Cond.instanceMethod q.1 ∈ tables_1
theorem lw_p0 : lw_okq (⟨"CandleRooms", "countNumber", "(I)I"⟩, 3) := ⟨⟨by decide +kernel, by decide +kernel⟩, List.mem_of_getElem? (i := 17) (by decide +kernel), List.mem_of_getElem? (i := 264) (by decide +kernel), List.mem_of_getElem? (i := 265) (by decide +kernel)⟩
theorem lw_p1 : lw_okq (⟨"CandleRooms", "mixRoom", "(JI)J"⟩, 3) := ⟨⟨by decide +kernel, by decide +kernel⟩, List.mem_of_getElem? (i := 17) (by decide +kernel), List.mem_of_getElem? (i := 278) (by decide +kernel), List.mem_of_getElem? (i := 279) (by decide +kernel)⟩
theorem lw_p2 : lw_okq (⟨"java/lang/Throwable", "fillInStackTrace", "(I)Ljava/lang/Throwable;"⟩, 6) := ⟨⟨by decide +kernel, by decide +kernel⟩, List.mem_of_getElem? (i := 375) (by decide +kernel), List.mem_of_getElem? (i := 373) (by decide +kernel), List.mem_of_getElem? (i := 374) (by decide +kernel)⟩
theorem lw_p3 : lw_okq (⟨"CandleRooms", "playDeeds", "()I"⟩, 3) := ⟨⟨by decide +kernel, by decide +kernel⟩, List.mem_of_getElem? (i := 17) (by decide +kernel), List.mem_of_getElem? (i := 638) (by decide +kernel), List.mem_of_getElem? (i := 639) (by decide +kernel)⟩
theorem lw_p4 : lw_okq (⟨"CandleRooms", "playDeed", "(I)Z"⟩, 3) := ⟨⟨by decide +kernel, by decide +kernel⟩, List.mem_of_getElem? (i := 17) (by decide +kernel), List.mem_of_getElem? (i := 646) (by decide +kernel), List.mem_of_getElem? (i := 647) (by decide +kernel)⟩
theorem lw_p5 : lw_okq (⟨"CandleRoomsModel", "fails", "(I)I"⟩, 11) := ⟨⟨by decide +kernel, by decide +kernel⟩, List.mem_of_getElem? (i := 747) (by decide +kernel), List.mem_of_getElem? (i := 795) (by decide +kernel), List.mem_of_getElem? (i := 796) (by decide +kernel)⟩
theorem lw_p6 : lw_okq (⟨"CandleRoomsModel", "keepsState", "()V"⟩, 11) := ⟨⟨by decide +kernel, by decide +kernel⟩, List.mem_of_getElem? (i := 747) (by decide +kernel), List.mem_of_getElem? (i := 821) (by decide +kernel), List.mem_of_getElem? (i := 822) (by decide +kernel)⟩
theorem lw_p7 : lw_okq (⟨"CandleRoomsModel", "switches", "(IIZ)I"⟩, 11) := ⟨⟨by decide +kernel, by decide +kernel⟩, List.mem_of_getElem? (i := 747) (by decide +kernel), List.mem_of_getElem? (i := 852) (by decide +kernel), List.mem_of_getElem? (i := 853) (by decide +kernel)⟩
theorem lw_p8 : lw_okq (⟨"CandleRoomsModel", "isText", "()Z"⟩, 11) := ⟨⟨by decide +kernel, by decide +kernel⟩, List.mem_of_getElem? (i := 747) (by decide +kernel), List.mem_of_getElem? (i := 919) (by decide +kernel), List.mem_of_getElem? (i := 920) (by decide +kernel)⟩
theorem lw_p9 : lw_okq (⟨"CandleRoomsModel", "isPart", "()Z"⟩, 11) := ⟨⟨by decide +kernel, by decide +kernel⟩, List.mem_of_getElem? (i := 747) (by decide +kernel), List.mem_of_getElem? (i := 923) (by decide +kernel), List.mem_of_getElem? (i := 924) (by decide +kernel)⟩
theorem lw_p10 : lw_okq (⟨"CandleRoomsModel", "isAt", "(II)Z"⟩, 11) := ⟨⟨by decide +kernel, by decide +kernel⟩, List.mem_of_getElem? (i := 747) (by decide +kernel), List.mem_of_getElem? (i := 927) (by decide +kernel), List.mem_of_getElem? (i := 928) (by decide +kernel)⟩
theorem lw_p11 : lw_okq (⟨"CandleRoomsModel", "stops", "()Z"⟩, 11) := ⟨⟨by decide +kernel, by decide +kernel⟩, List.mem_of_getElem? (i := 747) (by decide +kernel), List.mem_of_getElem? (i := 931) (by decide +kernel), List.mem_of_getElem? (i := 932) (by decide +kernel)⟩
theorem lw_p12 : lw_okq (⟨"CandleRoomsModel", "isNumber", "(IIZ)Z"⟩, 11) := ⟨⟨by decide +kernel, by decide +kernel⟩, List.mem_of_getElem? (i := 747) (by decide +kernel), List.mem_of_getElem? (i := 935) (by decide +kernel), List.mem_of_getElem? (i := 936) (by decide +kernel)⟩
theorem lw_p13 : lw_okq (⟨"CandleRoomsModel", "does", "(I)Z"⟩, 11) := ⟨⟨by decide +kernel, by decide +kernel⟩, List.mem_of_getElem? (i := 747) (by decide +kernel), List.mem_of_getElem? (i := 943) (by decide +kernel), List.mem_of_getElem? (i := 944) (by decide +kernel)⟩
theorem lw_p14 : lw_okq (⟨"CandleRoomsModel", "ofRoom", "(II)I"⟩, 11) := ⟨⟨by decide +kernel, by decide +kernel⟩, List.mem_of_getElem? (i := 747) (by decide +kernel), List.mem_of_getElem? (i := 951) (by decide +kernel), List.mem_of_getElem? (i := 952) (by decide +kernel)⟩
theorem lw_p15 : lw_okq (⟨"CandleRoomsModel", "counted", "(I)I"⟩, 11) := ⟨⟨by decide +kernel, by decide +kernel⟩, List.mem_of_getElem? (i := 747) (by decide +kernel), List.mem_of_getElem? (i := 963) (by decide +kernel), List.mem_of_getElem? (i := 964) (by decide +kernel)⟩
def lw_privs_1 : List (MethodName × Nat) := [(⟨"CandleRooms", "countNumber", "(I)I"⟩, 3), (⟨"CandleRooms", "mixRoom", "(JI)J"⟩, 3), (⟨"java/lang/Throwable", "fillInStackTrace", "(I)Ljava/lang/Throwable;"⟩, 6), (⟨"CandleRooms", "playDeeds", "()I"⟩, 3), (⟨"CandleRooms", "playDeed", "(I)Z"⟩, 3), (⟨"CandleRoomsModel", "fails", "(I)I"⟩, 11), (⟨"CandleRoomsModel", "keepsState", "()V"⟩, 11), (⟨"CandleRoomsModel", "switches", "(IIZ)I"⟩, 11), (⟨"CandleRoomsModel", "isText", "()Z"⟩, 11), (⟨"CandleRoomsModel", "isPart", "()Z"⟩, 11), (⟨"CandleRoomsModel", "isAt", "(II)Z"⟩, 11), (⟨"CandleRoomsModel", "stops", "()Z"⟩, 11), (⟨"CandleRoomsModel", "isNumber", "(IIZ)Z"⟩, 11), (⟨"CandleRoomsModel", "does", "(I)Z"⟩, 11), (⟨"CandleRoomsModel", "ofRoom", "(II)I"⟩, 11), (⟨"CandleRoomsModel", "counted", "(I)I"⟩, 11)]
theorem lw_r1 : ∀ q ∈ lw_privs_1, lw_okq q := List.forall_mem_cons.mpr ⟨lw_p0, List.forall_mem_cons.mpr ⟨lw_p1, List.forall_mem_cons.mpr ⟨lw_p2, List.forall_mem_cons.mpr ⟨lw_p3, List.forall_mem_cons.mpr ⟨lw_p4, List.forall_mem_cons.mpr ⟨lw_p5, List.forall_mem_cons.mpr ⟨lw_p6, List.forall_mem_cons.mpr ⟨lw_p7, List.forall_mem_cons.mpr ⟨lw_p8, List.forall_mem_cons.mpr ⟨lw_p9, List.forall_mem_cons.mpr ⟨lw_p10, List.forall_mem_cons.mpr ⟨lw_p11, List.forall_mem_cons.mpr ⟨lw_p12, List.forall_mem_cons.mpr ⟨lw_p13, List.forall_mem_cons.mpr ⟨lw_p14, List.forall_mem_cons.mpr ⟨lw_p15, fun _ h => absurd h List.not_mem_nil⟩⟩⟩⟩⟩⟩⟩⟩⟩⟩⟩⟩⟩⟩⟩⟩
theorem lw_p16 : lw_okq (⟨"CandleRoomsModel", "things", "()I"⟩, 11) := ⟨⟨by decide +kernel, by decide +kernel⟩, List.mem_of_getElem? (i := 747) (by decide +kernel), List.mem_of_getElem? (i := 967) (by decide +kernel), List.mem_of_getElem? (i := 968) (by decide +kernel)⟩
theorem lw_p17 : lw_okq (⟨"CandleRoomsModel", "stays", "(I)I"⟩, 11) := ⟨⟨by decide +kernel, by decide +kernel⟩, List.mem_of_getElem? (i := 747) (by decide +kernel), List.mem_of_getElem? (i := 975) (by decide +kernel), List.mem_of_getElem? (i := 976) (by decide +kernel)⟩
theorem lw_p18 : lw_okq (⟨"CandleRoomsModel", "firstForgotten", "()I"⟩, 11) := ⟨⟨by decide +kernel, by decide +kernel⟩, List.mem_of_getElem? (i := 747) (by decide +kernel), List.mem_of_getElem? (i := 983) (by decide +kernel), List.mem_of_getElem? (i := 984) (by decide +kernel)⟩
theorem lw_p19 : lw_okq (⟨"CandleRoomsModel", "fewest", "(I)I"⟩, 11) := ⟨⟨by decide +kernel, by decide +kernel⟩, List.mem_of_getElem? (i := 747) (by decide +kernel), List.mem_of_getElem? (i := 991) (by decide +kernel), List.mem_of_getElem? (i := 992) (by decide +kernel)⟩
theorem lw_p20 : lw_okq (⟨"CandleRoomsModel", "way", "(II)I"⟩, 11) := ⟨⟨by decide +kernel, by decide +kernel⟩, List.mem_of_getElem? (i := 747) (by decide +kernel), List.mem_of_getElem? (i := 995) (by decide +kernel), List.mem_of_getElem? (i := 996) (by decide +kernel)⟩
theorem lw_p21 : lw_okq (⟨"CandleRoomsModel", "neediest", "()I"⟩, 11) := ⟨⟨by decide +kernel, by decide +kernel⟩, List.mem_of_getElem? (i := 747) (by decide +kernel), List.mem_of_getElem? (i := 1003) (by decide +kernel), List.mem_of_getElem? (i := 1004) (by decide +kernel)⟩
theorem lw_p22 : lw_okq (⟨"CandleRoomsModel", "saved", "(I)I"⟩, 11) := ⟨⟨by decide +kernel, by decide +kernel⟩, List.mem_of_getElem? (i := 747) (by decide +kernel), List.mem_of_getElem? (i := 1011) (by decide +kernel), List.mem_of_getElem? (i := 1012) (by decide +kernel)⟩
theorem lw_p23 : lw_okq (⟨"CandleRoomsModel", "share", "()D"⟩, 11) := ⟨⟨by decide +kernel, by decide +kernel⟩, List.mem_of_getElem? (i := 747) (by decide +kernel), List.mem_of_getElem? (i := 1019) (by decide +kernel), List.mem_of_getElem? (i := 1020) (by decide +kernel)⟩
def lw_privs_2 : List (MethodName × Nat) := [(⟨"CandleRoomsModel", "things", "()I"⟩, 11), (⟨"CandleRoomsModel", "stays", "(I)I"⟩, 11), (⟨"CandleRoomsModel", "firstForgotten", "()I"⟩, 11), (⟨"CandleRoomsModel", "fewest", "(I)I"⟩, 11), (⟨"CandleRoomsModel", "way", "(II)I"⟩, 11), (⟨"CandleRoomsModel", "neediest", "()I"⟩, 11), (⟨"CandleRoomsModel", "saved", "(I)I"⟩, 11), (⟨"CandleRoomsModel", "share", "()D"⟩, 11)]
theorem lw_r2 : ∀ q ∈ lw_privs_2, lw_okq q := List.forall_mem_cons.mpr ⟨lw_p16, List.forall_mem_cons.mpr ⟨lw_p17, List.forall_mem_cons.mpr ⟨lw_p18, List.forall_mem_cons.mpr ⟨lw_p19, List.forall_mem_cons.mpr ⟨lw_p20, List.forall_mem_cons.mpr ⟨lw_p21, List.forall_mem_cons.mpr ⟨lw_p22, List.forall_mem_cons.mpr ⟨lw_p23, fun _ h => absurd h List.not_mem_nil⟩⟩⟩⟩⟩⟩⟩⟩
def lw_privs : List (MethodName × Nat) := lw_privs_1 ++ (lw_privs_2)
def lw_tbl : List Cond := k2_sels lw_privs ++ tables_1
theorem lw_privs_ok : ∀ q ∈ lw_privs, lw_okq q := by
  show ∀ q ∈ lw_privs_1 ++ (lw_privs_2), lw_okq q
  exact List.forall_mem_append.mpr ⟨lw_r1, lw_r2⟩
/-- the streams that the claim lets the run draw from -/
abbrev lw_cs : List Choice := [Jvm.Choice.named "NaN.bits"]
theorem lw_bits : nanBits ∈ lw_cs := by first | decide | exact List.mem_cons_self | simp [lw_cs, nanBits]
-- ===== end of PART A; then your names; then what follows =====
/-! ===== BEGIN words of one list among another's, by their places ===== -/
theorem goodIn_r {big : List Cond} (ws : List Cond) (ps : List Nat) (hp : ws = ps.filterMap (fun i => big[i]?)) (h : ws.all goodWord = true) : GoodIn big ws := by
  intro w hw
  have h1 := List.all_eq_true.mp h w hw
  rw [hp] at hw
  obtain ⟨i, -, hi⟩ := List.mem_filterMap.mp hw
  have hm : w ∈ big := by first | exact List.mem_of_getElem? hi | exact List.getElem?_mem hi
  exact ⟨hm, good_of_word h1⟩
theorem goodIn_app {big a b : List Cond} (ha : GoodIn big a) (hb : GoodIn big b) : GoodIn big (a ++ b) := fun w h => (List.mem_append.mp h).elim (ha w) (hb w)
theorem goodIn_ca {big a b : List Cond} {c : Cond} (ha : GoodIn big (c :: a)) (hb : GoodIn big b) : GoodIn big (c :: (a ++ b)) := fun w h => (List.mem_cons.mp h).elim (fun e => ha w (List.mem_cons.mpr (Or.inl e))) (fun h => (List.mem_append.mp h).elim (fun h => ha w (List.mem_cons.mpr (Or.inr h))) (hb w))
theorem goodIn_sub {big ws : List Cond} (hm : ∀ w ∈ ws, w ∈ big) (h : ws.all goodWord = true) : GoodIn big ws := fun w hw => ⟨hm w hw, good_of_word (List.all_eq_true.mp h w hw)⟩
/-! ===== END ===== -/

/-! ===== BEGIN exceptions that leave a method, and their catching by the caller (launches without stack traces) ===== -/
section VXA
/-! The laws vx_back, vx_callV, vx_callS, vx_callSW, vx_throw0, vx_throwS follow proofs of the library, with one case more: JvmDerived/Free/Laws.lean (Back.of_free), Shelf42/LK1.lean (callV, callS), Shelf/KitTraced.lean (throwNew0V, throwNewS). -/
/-- where a method has thrown q: the class by its name, the cell, what was written, the world -/
def vx_T (XC : String → State → State → Prop) (st : State) (q : Addr) (t : State) (mc ms : Nat) (free : Addr → Prop) : Prop :=
  ∃ (E : String) (ce : Cell) (L : List Loc), XC E st t ∧ t.heap[q]? = some ce ∧ ce.vm = .none ∧ st.vm.findClass E = some ce.cls ∧ st.WarmedH t.vm ∧ st.sameButNew ({ t with vm := st.vm } : State) L mc ms ∧ ∀ z ∈ L, free z.base
def vx_Q (Qc : Array Value → State → Outcome → State → Prop) (XC : String → State → State → Prop) (mc ms : Nat) (free : Addr → Prop) : Array Value → State → Outcome → State → Prop := fun a st o t =>
  (Qc a st o t ∧ ∃ L, FrameEnd st o t L mc ms ∧ ∀ q ∈ L, free q.base) ∨ ∃ q, o = .threw q ∧ vx_T XC st q t mc ms free
/-- a callee that returns or throws -/
def vx_Met (l : Launch) (y : MethodName) (ws : List Cond) (rm : Room) (Pc : Array Value → State → Prop) (Qc : Array Value → State → Outcome → State → Prop) (XC : String → State → State → Prop) (mc ms : Nat) (free : Addr → Prop) : Prop :=
  MetFree l y (headSpec ws rm) Pc (fun _ _ _ _ _ => True) (vx_Q Qc XC mc ms free)
def vx_Post (XC : String → State → State → Prop) (mc ms : Nat) (free : Addr → Prop) : Pt → Array Value → Addr → Pt → Prop := fun A a q B =>
  ∃ (g : JFrame) (mk : MethodId) (t : State) (L : List Loc) (E : String) (ce : Cell), B.U.heap = t.heap ∧ B.U.vm = t.vm ∧ XC E (A.U.calling g mk a) t ∧ t.heap[q]? = some ce ∧ ce.vm = .none ∧ A.U.vm.findClass E = some ce.cls ∧ B.locs = A.locs ++ L ∧ (∀ z ∈ L, free z.base) ∧ B.cells = A.cells + mc ∧ B.slots = A.slots + ms
def vx_Back (l : Launch) (R : Room) (p : Program) (e : Env) (below : List Frame) (s : State) (sargs : Array Value) (y : MethodName) (len W9 : Nat)
    (Pre : Pt → Array Value → Prop) (Post : Pt → Array Value → Option Value → Pt → Prop) (PostX : Pt → Array Value → Addr → Pt → Prop) : Prop :=
  ∀ (m : MethodId) (meth : Method) (c : Code) (A : Pt) (g : JFrame) (ig : Instr) (mk : MethodId) (a : Array Value),
    Stand p l e R s m sargs below meth c A.U A.locs A.cells A.slots → g.method = m → g.locals.size = c.maxLocals → decode c.code g.pc = .ok (ig, len) →
    2 * g.monitorRoom + (g.stack.map fun v => v.category).sum ≤ W9 → A.U.methodNamed? y = some mk → Pre A a →
    (∃ (v : Option Value) (B : Pt), Stand p l e R s m sargs below meth c B.U B.locs B.cells B.slots ∧ Post A a v B ∧
      Steps p.tables e below (doInvoke e (A.U.setTop g) [] mk a).1 (B.U.setTop { g with pc := g.pc + len, stack := v.toList ++ g.stack })) ∨
    (∃ (q : Addr) (B : Pt), Stand p l e R s m sargs below meth c B.U B.locs B.cells B.slots ∧ PostX A a q B ∧
      Steps p.tables e below (doInvoke e (A.U.setTop g) [] mk a).1 ((B.U.setTop g).pushFrame (.throwing q)))
section Payer
variable {l : Launch} {R : Room} {p : Program} {e : Env} {below : List Frame} {s : State} {sargs : Array Value} {y : MethodName} {len W9 : Nat}
theorem vx_back {ws : List Cond} {rm : Room} {Pc : Array Value → State → Prop} {Qc : Array Value → State → Outcome → State → Prop} {XC : String → State → State → Prop} {mc ms : Nat} {free : Addr → Prop} {bytes : ByteArray} {maxL : Nat} {ret : Option FieldType}
    (hM : vx_Met l y ws rm Pc Qc XC mc ms free) (hblind : FrameBlind Pc) (hrc : rm.cells = mc) (hrs : rm.slots = ms)
    (hframes : rm.frames + 1 ≤ R.frames) (hlocals : W9 + (maxL + 11) + rm.locals ≤ R.locals)
    (hws : ∀ w ∈ ws, ∀ a' U, s.WarmedH U.vm → w.before a' U = true) (hcode : Cond.code y bytes maxL ret ∈ ws) (hinit : ∀ a' U, s.WarmedH U.vm → (Cond.initialized y.cls).before a' U = true) :
    vx_Back l R p e below s sargs y len W9 (PreOf R mc ms Pc) (PostOf Qc mc ms free) (vx_Post XC mc ms free) := by
  intro m meth c A g ig mk a X hg hsize hdg hW hn hp
  have h1 : (headSpec ws rm).pre.before a A.U = true := atoms_intro fun w hw => hws w hw _ _ X.warmed
  have h2 : (Cond.code y bytes maxL ret).before a A.U = true := hws _ hcode _ _ X.warmed
  have h3 : (Cond.initialized y.cls).before a A.U = true := hinit _ _ X.warmed
  have h4 : A.cells + (headSpec ws rm).room.cells ≤ R.cells := by rw [show (headSpec ws rm).room.cells = mc from hrc]; exact hp.1
  have h5 : A.slots + (headSpec ws rm).room.slots ≤ R.slots := by rw [show (headSpec ws rm).room.slots = ms from hrs]; exact hp.2.1
  have hPc : Pc a (A.U.calling g mk a) := hblind _ _ _ _ hp.2.2
  obtain ⟨U, Ls, c0, s0⟩ := A
  dsimp only [Pt.U, Pt.locs, Pt.cells, Pt.slots] at h1 h2 h3 h4 h5 X hn hPc ⊢
  obtain ⟨methY, cY, hmY, hcY, -, hlY, -, -, -, -⟩ := Cond.code_spec hn h2
  obtain ⟨kY, hkY, -⟩ := className_of_methodNamed hn
  have hinitY : kY.init = .initialized := Cond.initialized_spec (findClass_of_methodNamed hn) hkY h3
  have h : At U g.method c below := by rw [hg]; exact X.here
  have hlocals9 : W9 + (maxL + 11) + (headSpec ws rm).room.locals ≤ R.locals := hlocals
  have happ : (headSpec ws rm).appliesLoose y e.platform (U.calling g mk a) = true :=
    Spec.appliesLoose_calling (g := g) h hdg hn hkY hinitY
      (X.room_calling (g := g) (R' := (headSpec ws rm).room) hsize hmY hcY hframes (by rw [hlY]; omega) h4 h5) h1
  obtain ⟨mid, hmid⟩ := h.above
  have hfr : (U.setTop g).frames = (.java g :: mid) ++ below := by rw [State.frames_setTop' g h.top, hmid]; rfl
  obtain ⟨o, s₂, hsteps, -, hend, hq⟩ := Steps.callFree hM p X.admits X.cas X.clock (acts := []) hfr happ hPc trivial
  have hq' : vx_Q Qc XC mc ms free a (U.calling g mk a) o s₂ := hq
  rw [State.frames_setTop' g h.top] at hend
  obtain ⟨g₀, hg0⟩ := Option.isSome_iff_exists.mp h.top
  obtain ⟨r, hr⟩ := State.topJava?_eq_some.mp hg0
  have hr' : (({ U with heap := s₂.heap, slotsUsed := s₂.slotsUsed } : State).setVm s₂.vm).frames = .java g₀ :: r := hr
  rcases hq' with ⟨hqc, L, hfe, hL⟩ | ⟨q, rfl, E, ce, L, hx, hce, hcv, hcl, hW₂, hsm, hL⟩
  · obtain ⟨⟨v, rfl⟩, hW₂, e2, q2, q3, q4, q5, q6⟩ := id hfe
    have e3 : s₂ = ({ (U.calling g mk a).setFrames s₂.frames with heap := s₂.heap, slotsUsed := s₂.slotsUsed } : State).setVm s₂.vm := by
      have : s₂ = ({ s₂ with vm := (U.calling g mk a).vm } : State).setVm s₂.vm := rfl
      rw [e2] at this
      exact this
    obtain ⟨c₂, i₂, len₂, hc₂, hd₂, hf₂⟩ := hend
    have hW' : U.WarmedH s₂.vm := hW₂
    have hcc : c₂ = c := by
      have h1 : s₂.code? g.method = U.code? g.method := by
        rw [State.code?_eq, State.code?_eq, hW'.alike.method?]
      exact Option.some.inj (hc₂.symm.trans (h1.trans h.code))
    subst hcc
    have hlen : len₂ = len := by rw [hdg] at hd₂; cases hd₂; rfl
    subst hlen
    have hs₂ : s₂ = (({ U with heap := s₂.heap, slotsUsed := s₂.slotsUsed } : State).setVm s₂.vm).setTop { g with pc := g.pc + len₂, stack := v.toList ++ g.stack } := by
      refine e3.trans ?_
      rw [hf₂, State.calling_eq h.top, State.setFrames_setFrames, State.setTop_of_frames _ hr', hr]
      rfl
    have hsame : U.sameButNew ({ U with heap := s₂.heap, slotsUsed := s₂.slotsUsed } : State) L mc ms := by
      refine ⟨?_, q2, q3, q4, q5, q6⟩
      obtain ⟨t, ht, -⟩ := State.frames_cons hr
      show ({ U with heap := s₂.heap, slotsUsed := s₂.slotsUsed } : State) = { U.setFrames U.frames with heap := s₂.heap, slotsUsed := s₂.slotsUsed }
      rw [State.setFrames_self ht]
    subst hg
    refine Or.inl ⟨v, ⟨(({ U with heap := s₂.heap, slotsUsed := s₂.slotsUsed } : State).setVm s₂.vm), Ls ++ L, c0 + mc, s0 + ms⟩,
      ⟨X.admits, X.cas, X.clock, X.frames, X.room, X.hears, X.method, X.code, (X.here.setHeapUsed s₂.heap s₂.slotsUsed).setVm hW'.alike, X.tail, State.WarmedH.trans X.warmed hW', X.limits, X.bytes, X.same.trans (hsame.setVm s.vm)⟩,
      ⟨g, mk, s₂, L, rfl, rfl, hqc, rfl, hL, rfl, rfl⟩, ?_⟩
    show Steps p.tables e below _ ((({ U with heap := s₂.heap, slotsUsed := s₂.slotsUsed } : State).setVm s₂.vm).setTop { g with pc := g.pc + len₂, stack := v.toList ++ g.stack })
    rw [← hs₂]
    exact hsteps
  · obtain ⟨e2, q2, q3, q4, q5, q6⟩ := id hsm
    have e3 : s₂ = ({ (U.calling g mk a).setFrames s₂.frames with heap := s₂.heap, slotsUsed := s₂.slotsUsed } : State).setVm s₂.vm := by
      have : s₂ = ({ s₂ with vm := (U.calling g mk a).vm } : State).setVm s₂.vm := rfl
      rw [e2] at this
      exact this
    have hf₂ : s₂.frames = .throwing q :: .java g :: U.frames.tail := hend
    have hW' : U.WarmedH s₂.vm := hW₂
    have hs₂ : s₂ = ((({ U with heap := s₂.heap, slotsUsed := s₂.slotsUsed } : State).setVm s₂.vm).setTop g).pushFrame (.throwing q) := by
      refine e3.trans ?_
      rw [hf₂, State.calling_eq h.top, State.setFrames_setFrames, State.pushFrame, State.frames_setTop _ hr', State.setTop_of_frames _ hr', State.setFrames_setFrames, hr]
      rfl
    have hsame : U.sameButNew ({ U with heap := s₂.heap, slotsUsed := s₂.slotsUsed } : State) L mc ms := by
      refine ⟨?_, q2, q3, q4, q5, q6⟩
      obtain ⟨t, ht, -⟩ := State.frames_cons hr
      show ({ U with heap := s₂.heap, slotsUsed := s₂.slotsUsed } : State) = { U.setFrames U.frames with heap := s₂.heap, slotsUsed := s₂.slotsUsed }
      rw [State.setFrames_self ht]
    subst hg
    refine Or.inr ⟨q, ⟨(({ U with heap := s₂.heap, slotsUsed := s₂.slotsUsed } : State).setVm s₂.vm), Ls ++ L, c0 + mc, s0 + ms⟩,
      ⟨X.admits, X.cas, X.clock, X.frames, X.room, X.hears, X.method, X.code, (X.here.setHeapUsed s₂.heap s₂.slotsUsed).setVm hW'.alike, X.tail, State.WarmedH.trans X.warmed hW', X.limits, X.bytes, X.same.trans (hsame.setVm s.vm)⟩,
      ⟨g, mk, s₂, L, E, ce, rfl, rfl, hx, hce, hcv, hcl, rfl, hL, rfl, rfl⟩, ?_⟩
    show Steps p.tables e below _ (((({ U with heap := s₂.heap, slotsUsed := s₂.slotsUsed } : State).setVm s₂.vm).setTop g).pushFrame (.throwing q))
    rw [← hs₂]
    exact hsteps
end Payer
section Calls
variable {p : Program} {l : Launch} {e : Env} {R : Room} {s : State} {m : MethodId} {args : Array Value} {below : List Frame} {meth : Method} {c : Code} {T : State} {locs : List Loc} {cells slots : Nat}
theorem vx_callV (X : Stand p l e R s m args below meth c T locs cells slots) (hexec : p.tables.exec = Jvm.exec) {own C : String} {index : Nat} {y : MethodName} {bytes : ByteArray} {maxL : Nat} {ret : Option FieldType}
    (hown : s.vm.findClass own = some m.cls) (hlink : (Cond.methodLink own index y).before args s = true) (hinst : (Cond.instanceMethod y).before args s = true) (hsel : (Cond.selects C y y).before args s = true)
    (hcode : (Cond.code y bytes maxL ret).before args s = true) (hy : y.cls ≠ "java/lang/invoke/MethodHandle" ∧ y.cls ≠ "java/lang/invoke/VarHandle")
    {W9 : Nat} {Pre : Pt → Array Value → Prop} {Post : Pt → Array Value → Option Value → Pt → Prop} {PostX : Pt → Array Value → Addr → Pt → Prop} (hK : vx_Back l R p e below s args y 3 W9 Pre Post PostX)
    {b : Addr} {cellB : Cell} (hcell : T.heap[b]? = some cellB) (hobj : cellB.vm.isStatics = false) (hcls : s.vm.findClass C = some cellB.cls)
    {g : JFrame} (hg : g.method = m) (hsize : g.locals.size = c.maxLocals) {argsL rest : List Value} (hlen : ∀ sig, parseMethodDescriptor y.desc = some sig → argsL.length = sig.parameters.length)
    (hstack : g.stack = argsL.reverse ++ .ref b :: rest) (hW : 2 * g.monitorRoom + (rest.map fun v => v.category).sum ≤ W9) (hdg : decode c.code g.pc = .ok (.invokevirtual index, 3))
    (hpre : ∀ vm₁, s.WarmedH vm₁ → Pre ⟨T.setVm vm₁, locs, cells, slots⟩ (Value.ref b :: argsL).toArray) :
    (∃ (v : Option Value) (vm₁ : Vm) (B : Pt), s.WarmedH vm₁ ∧ Stand p l e R s m args below meth c B.U B.locs B.cells B.slots ∧ Post ⟨T.setVm vm₁, locs, cells, slots⟩ (Value.ref b :: argsL).toArray v B ∧
      ∀ target, Steps p.tables e below (B.U.setTop { g with pc := g.pc + 3, stack := v.toList ++ rest }) target → Steps p.tables e below (T.setTop g) target) ∨
    (∃ (q : Addr) (vm₁ : Vm) (B : Pt), s.WarmedH vm₁ ∧ Stand p l e R s m args below meth c B.U B.locs B.cells B.slots ∧ PostX ⟨T.setVm vm₁, locs, cells, slots⟩ (Value.ref b :: argsL).toArray q B ∧
      Steps p.tables e below (T.setTop g) ((B.U.setTop { g with stack := rest }).pushFrame (.throwing q))) := by
  obtain ⟨mk, methM, hnamed, hmethM, hstM, habM⟩ := Cond.instanceMethod_spec hinst
  obtain ⟨methM', cM, hmethM', -, -, -, -, -, -, hsigM⟩ := Cond.code_spec hnamed hcode
  cases hmethM.symm.trans hmethM'
  obtain ⟨c2, r2, m2, q1, q2, q3, q4, kP, hkP, hkPi⟩ := Cond.selects_spec hsel
  cases hcls.symm.trans q1
  cases (State.methodFound?_of_named hnamed hy).symm.trans q2
  cases hnamed.symm.trans q3
  have hselP : selectMethod e.platform s.vm cellB.cls mk = .method mk := by rw [Launch.admits_selectMethod X.admits]; exact q4
  obtain ⟨vm₁, X₁, hstep₁⟩ := X.invokevirtual hexec hown hlink hnamed hmethM hstM hkP hkPi hy (a := b) (cell := cellB) hcell
    (fun z h => by rw [h] at hobj; cases hobj) hselP hmethM habM hkP hkPi (g := g) hg (argsL := argsL) (rest := rest) (hlen _ hsigM) hstack hdg
  rcases hK m meth c ⟨T.setVm vm₁, locs, cells, slots⟩ { g with stack := rest } (.invokevirtual index) mk (Value.ref b :: argsL).toArray X₁ hg hsize hdg hW (X₁.named hnamed) (hpre vm₁ X₁.warmed) with ⟨v, B, X', hpost, hsteps⟩ | ⟨q, B, X', hpost, hsteps⟩
  · exact Or.inl ⟨v, vm₁, B, X₁.warmed, X', hpost, fun target h => hstep₁ _ fun acts => by rw [doInvoke_state]; exact hsteps.trans h⟩
  · exact Or.inr ⟨q, vm₁, B, X₁.warmed, X', hpost, hstep₁ _ fun acts => by rw [doInvoke_state]; exact hsteps⟩
theorem vx_callS (X : Stand p l e R s m args below meth c T locs cells slots) (hexec : p.tables.exec = Jvm.exec) {own : String} {index : Nat} {y : MethodName} {bytes : ByteArray} {maxL : Nat} {ret : Option FieldType}
    (hown : s.vm.findClass own = some m.cls) (hlink : (Cond.methodLink own index y).before args s = true) (hstat : (Cond.static y).before args s = true) (hinit : (Cond.initialized y.cls).before args s = true)
    (hcode : (Cond.code y bytes maxL ret).before args s = true) (hy : y.cls ≠ "java/lang/invoke/MethodHandle" ∧ y.cls ≠ "java/lang/invoke/VarHandle")
    {W9 : Nat} {Pre : Pt → Array Value → Prop} {Post : Pt → Array Value → Option Value → Pt → Prop} {PostX : Pt → Array Value → Addr → Pt → Prop} (hK : vx_Back l R p e below s args y 3 W9 Pre Post PostX)
    {g : JFrame} (hg : g.method = m) (hsize : g.locals.size = c.maxLocals) {argsL rest : List Value} (hlen : ∀ sig, parseMethodDescriptor y.desc = some sig → argsL.length = sig.parameters.length)
    (hstack : g.stack = argsL.reverse ++ rest) (hW : 2 * g.monitorRoom + (rest.map fun v => v.category).sum ≤ W9) (hdg : decode c.code g.pc = .ok (.invokestatic index, 3))
    (hpre : ∀ vm₁, s.WarmedH vm₁ → Pre ⟨T.setVm vm₁, locs, cells, slots⟩ argsL.toArray) :
    (∃ (v : Option Value) (vm₁ : Vm) (B : Pt), s.WarmedH vm₁ ∧ Stand p l e R s m args below meth c B.U B.locs B.cells B.slots ∧ Post ⟨T.setVm vm₁, locs, cells, slots⟩ argsL.toArray v B ∧
      ∀ target, Steps p.tables e below (B.U.setTop { g with pc := g.pc + 3, stack := v.toList ++ rest }) target → Steps p.tables e below (T.setTop g) target) ∨
    (∃ (q : Addr) (vm₁ : Vm) (B : Pt), s.WarmedH vm₁ ∧ Stand p l e R s m args below meth c B.U B.locs B.cells B.slots ∧ PostX ⟨T.setVm vm₁, locs, cells, slots⟩ argsL.toArray q B ∧
      Steps p.tables e below (T.setTop g) ((B.U.setTop { g with stack := rest }).pushFrame (.throwing q))) := by
  obtain ⟨mk, hnamed⟩ := Cond.code_named hcode
  obtain ⟨methM, cM, hmethM, -, -, -, -, -, -, hsigM⟩ := Cond.code_spec hnamed hcode
  have hstatic : methM.isStatic = true := Cond.static_spec hnamed hmethM hstat
  obtain ⟨kP, hkP, -⟩ := className_of_methodNamed hnamed
  have hinitP : kP.init = .initialized := Cond.initialized_spec (findClass_of_methodNamed hnamed) hkP hinit
  obtain ⟨vm₁, X₁, hstep₁⟩ := X.invokestatic hexec hown hlink hnamed hmethM hstatic hkP hinitP hy (g := g) hg (argsL := argsL) (rest := rest) (hlen _ hsigM) hstack hdg
  rcases hK m meth c ⟨T.setVm vm₁, locs, cells, slots⟩ { g with stack := rest } (.invokestatic index) mk argsL.toArray X₁ hg hsize hdg hW (X₁.named hnamed) (hpre vm₁ X₁.warmed) with ⟨v, B, X', hpost, hsteps⟩ | ⟨q, B, X', hpost, hsteps⟩
  · exact Or.inl ⟨v, vm₁, B, X₁.warmed, X', hpost, fun target h => hstep₁ _ fun acts => by rw [doInvoke_state]; exact hsteps.trans h⟩
  · exact Or.inr ⟨q, vm₁, B, X₁.warmed, X', hpost, hstep₁ _ fun acts => by rw [doInvoke_state]; exact hsteps⟩
end Calls
theorem vx_cls {s : State} {T : State} {vm₁ : Vm} {E : String} {k : ClassId} (hW : s.WarmedH vm₁) (h : (T.setVm vm₁).vm.findClass E = some k) : s.vm.findClass E = some k := by
  have h1 : vm₁.findClass E = some k := h
  rw [hW.alike.findClass] at h1
  exact h1
/-- the method's frame g, with q thrown over it -/
def vx_W (p : Program) (l : Launch) (e : Env) (R : Room) (s : State) (m : MethodId) (args : Array Value) (below : List Frame) (meth : Method) (c : Code) (H : Heap) (locs : List Loc) (cells slots : Nat) (Q : State → Prop) (g : JFrame) (q : Addr) : Prop :=
  ∀ T : State, T.heap = H → Stand p l e R s m args below meth c T locs cells slots → ∃ t, Steps p.tables e below ((T.setTop g).pushFrame (.throwing q)) t ∧ Q t
def vx_Run (p : Program) (l : Launch) (e : Env) (R : Room) (s : State) (m : MethodId) (args : Array Value) (below : List Frame) (meth : Method) (c : Code) (H : Heap) (locs : List Loc) (cells slots mc ms : Nat) (g : JFrame) (rest : List Value) (Qa : State → Outcome → State → Prop) (XC : String → State → State → Prop) (free : Addr → Prop) : Prop :=
  ∀ T : State, T.heap = H → Stand p l e R s m args below meth c T locs cells slots →
    (∃ (v : Option Value) (st₀ t T' : State) (L : List Loc), st₀.heap = H ∧ Stand p l e R s m args below meth c T' (locs ++ L) (cells + mc) (slots + ms) ∧ (∀ q ∈ L, free q.base) ∧ T'.heap = t.heap ∧ T'.vm = t.vm ∧ Qa st₀ (.returned v) t ∧
      Goes p e below T g T' { g with pc := g.pc + 3, stack := v.toList ++ rest }) ∨
    (∃ (q : Addr) (st₀ t T' : State) (L : List Loc) (E : String) (ce : Cell), st₀.heap = H ∧ Stand p l e R s m args below meth c T' (locs ++ L) (cells + mc) (slots + ms) ∧ (∀ z ∈ L, free z.base) ∧ T'.heap = t.heap ∧ T'.vm = t.vm ∧ XC E st₀ t ∧ t.heap[q]? = some ce ∧ ce.vm = .none ∧ s.vm.findClass E = some ce.cls ∧
      Steps p.tables e below (T.setTop g) ((T'.setTop { g with stack := rest }).pushFrame (.throwing q)))
def vx_X {S : Type} (px : S → Prop) (B : String → S → State → Prop) (A : Nat → Prop) : String → State → State → Prop := fun E st t => ∃ u : S, px u ∧ B E u t ∧ va_F A st t
section Runs
variable {p : Program} {l : Launch} {e : Env} {R : Room} {s : State} {m : MethodId} {args : Array Value} {below : List Frame} {meth : Method} {c : Code} {H : Heap} {locs : List Loc} {cells slots : Nat}
variable {y : MethodName} {bytes cc : ByteArray} {maxL nL mc ms n index : Nat} {ret : Option FieldType} {ws : List Cond} {rm : Room} {Pc : Array Value → State → Prop} {Qc : Array Value → State → Outcome → State → Prop} {XC : String → State → State → Prop} {free : Addr → Prop} {Ts : List Cond} {own C : String} {b : Addr} {As rest : List Value} {g : JFrame}
theorem vx_callBack (cb : CallB R s args own index y bytes maxL ret ws rm mc ms n) (hM : vx_Met l y ws rm Pc Qc XC mc ms free) (hbl : FrameBlind Pc) : vx_Back l R p e below s args y 3 8 (PreOf R mc ms Pc) (PostOf Qc mc ms free) (vx_Post XC mc ms free) := by
  obtain ⟨hrc, hrs, hfr, hlo, hws, hcw, -, hini, -⟩ := cb
  exact vx_back (bytes := bytes) (maxL := maxL) (ret := ret) hM hbl hrc hrs hfr hlo hws hcw (fun a' U hW => word_at hW (Or.inl (by first | rfl | simp [Cond.onTables, Cond.keeps, Cond.steady])) hini)
theorem vx_runV (S : CallFix p m c cc nL s args Ts own) (hM : vx_Met l y ws rm Pc Qc XC mc ms free) (cw : CallW R s args own C index y bytes maxL ret ws rm mc ms n) (hp : PreV s H C b Pc As)
    (hg : g.method = m) (hn : As.length = n) (hsize : g.locals.size = nL) (hstack : g.stack = As.reverse ++ .ref b :: rest) (hW : 2 * g.monitorRoom + (rest.map fun v => v.category).sum ≤ 8) (hdg : decode cc g.pc = .ok (.invokevirtual index, 3)) (hf : cells + mc ≤ R.cells ∧ slots + ms ≤ R.slots) :
    vx_Run p l e R s m args below meth c H locs cells slots mc ms g rest (Qc (Value.ref b :: As).toArray) XC free := by
  have hK : vx_Back l R p e below s args y 3 8 (PreOf R mc ms Pc) (PostOf Qc mc ms free) (vx_Post XC mc ms free) := vx_callBack cw.1 hM hp.1
  obtain ⟨⟨-, -, -, -, -, -, hcode, -, hy, hlen, hl⟩, hin, hse⟩ := cw
  obtain ⟨hx, hb, hml, ho, -⟩ := S
  obtain ⟨-, ⟨cellB, hcB, hoB, hclB⟩, hPc⟩ := hp
  intro T hT X
  rcases vx_callV X hx (C := C) (bytes := bytes) (maxL := maxL) (ret := ret) ho hl hin hse hcode hy hK (by rw [hT]; exact hcB) hoB hclB hg (hsize.trans hml.symm) (argsL := As) (rest := rest) (fun sig h => hn.trans (hlen sig h)) hstack hW (by rw [hb]; exact hdg)
    (fun vm₁ hW₁ => ⟨hf.1, hf.2, hPc (T.setVm vm₁) hT hW₁⟩) with ⟨v, vm₁, ⟨U', l2, c2, s2⟩, hW₁, X', ⟨g', mk, t, L, e1, e2, hq, h1, hL, h2, h3⟩, st⟩ | ⟨q, vm₁, ⟨U', l2, c2, s2⟩, hW₁, X', ⟨g', mk, t, L, E, ce, e1, e2, hq, hce, hcv, hcl, h1, hL, h2, h3⟩, st⟩
  · dsimp only [Pt.U, Pt.locs, Pt.cells, Pt.slots] at X' e1 e2 h1 h2 h3 st
    subst h1; subst h2; subst h3
    exact Or.inl ⟨v, (T.setVm vm₁).calling g' mk (Value.ref b :: As).toArray, t, U', L, hT, X', hL, e1, e2, hq, st⟩
  · dsimp only [Pt.U, Pt.locs, Pt.cells, Pt.slots] at X' e1 e2 h1 h2 h3 st hcl
    subst h1; subst h2; subst h3
    exact Or.inr ⟨q, (T.setVm vm₁).calling g' mk (Value.ref b :: As).toArray, t, U', L, E, ce, hT, X', hL, e1, e2, hq, hce, hcv, vx_cls hW₁ hcl, st⟩
theorem vx_runS (S : CallFix p m c cc nL s args Ts own) (hM : vx_Met l y ws rm Pc Qc XC mc ms free) (cw : CallB R s args own index y bytes maxL ret ws rm mc ms n ∧ (Cond.static y).before args s = true) (hp : PreS s H Pc As)
    (hg : g.method = m) (hn : As.length = n) (hsize : g.locals.size = nL) (hstack : g.stack = As.reverse ++ rest) (hW : 2 * g.monitorRoom + (rest.map fun v => v.category).sum ≤ 8) (hdg : decode cc g.pc = .ok (.invokestatic index, 3)) (hf : cells + mc ≤ R.cells ∧ slots + ms ≤ R.slots) :
    vx_Run p l e R s m args below meth c H locs cells slots mc ms g rest (Qc As.toArray) XC free := by
  have hK : vx_Back l R p e below s args y 3 8 (PreOf R mc ms Pc) (PostOf Qc mc ms free) (vx_Post XC mc ms free) := vx_callBack cw.1 hM hp.1
  obtain ⟨⟨-, -, -, -, -, -, hcode, hini, hy, hlen, hl⟩, hstt⟩ := cw
  obtain ⟨hx, hb, hml, ho, -⟩ := S
  intro T hT X
  rcases vx_callS X hx (bytes := bytes) (maxL := maxL) (ret := ret) ho hl hstt hini hcode hy hK hg (hsize.trans hml.symm) (argsL := As) (rest := rest) (fun sig h => hn.trans (hlen sig h)) hstack hW (by rw [hb]; exact hdg)
    (fun vm₁ hW₁ => ⟨hf.1, hf.2, hp.2 (T.setVm vm₁) hT hW₁⟩) with ⟨v, vm₁, ⟨U', l2, c2, s2⟩, hW₁, X', ⟨g', mk, t, L, e1, e2, hq, h1, hL, h2, h3⟩, st⟩ | ⟨q, vm₁, ⟨U', l2, c2, s2⟩, hW₁, X', ⟨g', mk, t, L, E, ce, e1, e2, hq, hce, hcv, hcl, h1, hL, h2, h3⟩, st⟩
  · dsimp only [Pt.U, Pt.locs, Pt.cells, Pt.slots] at X' e1 e2 h1 h2 h3 st
    subst h1; subst h2; subst h3
    exact Or.inl ⟨v, (T.setVm vm₁).calling g' mk As.toArray, t, U', L, hT, X', hL, e1, e2, hq, st⟩
  · dsimp only [Pt.U, Pt.locs, Pt.cells, Pt.slots] at X' e1 e2 h1 h2 h3 st hcl
    subst h1; subst h2; subst h3
    exact Or.inr ⟨q, (T.setVm vm₁).calling g' mk As.toArray, t, U', L, E, ce, hT, X', hL, e1, e2, hq, hce, hcv, vx_cls hW₁ hcl, st⟩
end Runs
section Rows
variable {p : Program} {l : Launch} {e : Env} {R : Room} {s : State} {m : MethodId} {args : Array Value} {below : List Frame} {meth : Method} {c : Code} {H : Heap} {locs : List Loc} {cells slots : Nat} {Q : State → Prop}
variable {mc ms : Nat} {free : Addr → Prop} {A0 A1 : Nat → Prop} {H0 : Heap} {a : Array Value} {pc : Nat} {ls : Array Slot} {st0 rest : List Value}
theorem vx_keep {st₀ t T' : State} {L : List Loc} (h0 : st₀.heap = H) (e1 : T'.heap = t.heap) (hS : va_S A0 H0 H locs) (hA : ∀ q, q < H.size → A1 q → A0 q) (hf : ∀ q, free q → A0 q) (hL : ∀ q ∈ L, free q.base) (hF : va_F A1 st₀ t) :
    H.size ≤ T'.heap.size ∧ (∀ q : Nat, q < H.size → ¬ A1 q → T'.heap[q]? = H[q]?) ∧ va_S A0 H0 T'.heap (locs ++ L) := by
  obtain ⟨hz, hk⟩ := hF
  rw [h0] at hz hk
  exact ⟨by rw [e1]; exact hz, fun q h1 h2 => by rw [e1]; exact hk q h1 h2,
    ⟨Nat.le_trans hS.1 (by rw [e1]; exact hz), fun q h1 h2 => by rw [e1, hk q (Nat.lt_of_lt_of_le h1 hS.1) (fun z => h2 (hA q (Nat.lt_of_lt_of_le h1 hS.1) z))]; exact hS.2.1 q h1 h2, fun q hq => by
      rcases List.mem_append.mp hq with h | h
      · exact hS.2.2 q h
      · exact hf _ (hL q h)⟩⟩
theorem vx_calli {S SX : Type} {post : Int32 → S → Prop} {px : SX → Prop} {B : S → State → Prop} {BX : String → SX → State → Prop} {AX : Nat → Prop} (hr : vx_Run p l e R s m args below meth c H locs cells slots mc ms (F0 m pc ls st0) rest (va_Qi post B A1 a) (vx_X px BX AX) free) (hS : va_S A0 H0 H locs) (hA : ∀ q, q < H.size → A1 q → A0 q) (hf : ∀ q, free q → A0 q) (hAX : ∀ q, q < H.size → AX q → A0 q)
    (kx : ∀ (E : String) (ce : Cell) (q9 : Addr) (u : SX) (t : State) (H1 : Heap) (locs1 : List Loc), t.heap = H1 → s.vm.Alike t.vm → px u → BX E u t → H.size ≤ H1.size → (∀ q : Nat, q < H.size → ¬ AX q → H1[q]? = H[q]?) → va_S A0 H0 H1 locs1 → H1[q9]? = some ce → ce.vm = .none → s.vm.findClass E = some ce.cls → vx_W p l e R s m args below meth c H1 locs1 (cells + mc) (slots + ms) Q (F0 m pc ls rest) q9)
    (kk : ∀ (r : Int32) (u : S) (t : State) (H1 : Heap) (locs1 : List Loc), t.heap = H1 → s.vm.Alike t.vm → post r u → B u t → H.size ≤ H1.size → (∀ q : Nat, q < H.size → ¬ A1 q → H1[q]? = H[q]?) → va_S A0 H0 H1 locs1 → W p l e R s m args below meth c H1 locs1 (cells + mc) (slots + ms) Q (F0 m (pc + 3) ls (.int r :: rest))) : W p l e R s m args below meth c H locs cells slots Q (F0 m pc ls st0) := by
  intro T hT X
  rcases hr T hT X with ⟨v, st₀, t, T', L, h0, X', hL, e1, e2, ⟨⟨r, u, hv, hp, hb⟩, hF⟩, st⟩ | ⟨q, st₀, t, T', L, E, ce, h0, X', hL, e1, e2, ⟨u, hp, hb, hF⟩, hce, hcv, hcl, st⟩
  · cases hv
    obtain ⟨k1, k2, k3⟩ := vx_keep h0 e1 hS hA hf hL hF
    obtain ⟨t2, a1, b1⟩ := kk r u t T'.heap (locs ++ L) e1.symm (by rw [← e2]; exact X'.warmed.alike) hp hb k1 k2 k3 T' rfl X'
    exact ⟨t2, st t2 a1, b1⟩
  · obtain ⟨k1, k2, k3⟩ := vx_keep h0 e1 hS hAX hf hL hF
    obtain ⟨t2, a1, b1⟩ := kx E ce q u t T'.heap (locs ++ L) e1.symm (by rw [← e2]; exact X'.warmed.alike) hp hb k1 k2 k3 (by rw [e1]; exact hce) hcv hcl T' rfl X'
    exact ⟨t2, st.trans a1, b1⟩
theorem vx_calll {S SX : Type} {post : Int64 → S → Prop} {px : SX → Prop} {B : S → State → Prop} {BX : String → SX → State → Prop} {AX : Nat → Prop} (hr : vx_Run p l e R s m args below meth c H locs cells slots mc ms (F0 m pc ls st0) rest (va_Ql post B A1 a) (vx_X px BX AX) free) (hS : va_S A0 H0 H locs) (hA : ∀ q, q < H.size → A1 q → A0 q) (hf : ∀ q, free q → A0 q) (hAX : ∀ q, q < H.size → AX q → A0 q)
    (kx : ∀ (E : String) (ce : Cell) (q9 : Addr) (u : SX) (t : State) (H1 : Heap) (locs1 : List Loc), t.heap = H1 → s.vm.Alike t.vm → px u → BX E u t → H.size ≤ H1.size → (∀ q : Nat, q < H.size → ¬ AX q → H1[q]? = H[q]?) → va_S A0 H0 H1 locs1 → H1[q9]? = some ce → ce.vm = .none → s.vm.findClass E = some ce.cls → vx_W p l e R s m args below meth c H1 locs1 (cells + mc) (slots + ms) Q (F0 m pc ls rest) q9)
    (kk : ∀ (r : Int64) (u : S) (t : State) (H1 : Heap) (locs1 : List Loc), t.heap = H1 → s.vm.Alike t.vm → post r u → B u t → H.size ≤ H1.size → (∀ q : Nat, q < H.size → ¬ A1 q → H1[q]? = H[q]?) → va_S A0 H0 H1 locs1 → W p l e R s m args below meth c H1 locs1 (cells + mc) (slots + ms) Q (F0 m (pc + 3) ls (.long r :: rest))) : W p l e R s m args below meth c H locs cells slots Q (F0 m pc ls st0) := by
  intro T hT X
  rcases hr T hT X with ⟨v, st₀, t, T', L, h0, X', hL, e1, e2, ⟨⟨r, u, hv, hp, hb⟩, hF⟩, st⟩ | ⟨q, st₀, t, T', L, E, ce, h0, X', hL, e1, e2, ⟨u, hp, hb, hF⟩, hce, hcv, hcl, st⟩
  · cases hv
    obtain ⟨k1, k2, k3⟩ := vx_keep h0 e1 hS hA hf hL hF
    obtain ⟨t2, a1, b1⟩ := kk r u t T'.heap (locs ++ L) e1.symm (by rw [← e2]; exact X'.warmed.alike) hp hb k1 k2 k3 T' rfl X'
    exact ⟨t2, st t2 a1, b1⟩
  · obtain ⟨k1, k2, k3⟩ := vx_keep h0 e1 hS hAX hf hL hF
    obtain ⟨t2, a1, b1⟩ := kx E ce q u t T'.heap (locs ++ L) e1.symm (by rw [← e2]; exact X'.warmed.alike) hp hb k1 k2 k3 (by rw [e1]; exact hce) hcv hcl T' rfl X'
    exact ⟨t2, st.trans a1, b1⟩
theorem vx_callf {S SX : Type} {post : UInt32 → S → Prop} {px : SX → Prop} {B : S → State → Prop} {BX : String → SX → State → Prop} {AX : Nat → Prop} (hr : vx_Run p l e R s m args below meth c H locs cells slots mc ms (F0 m pc ls st0) rest (va_Qf post B A1 a) (vx_X px BX AX) free) (hS : va_S A0 H0 H locs) (hA : ∀ q, q < H.size → A1 q → A0 q) (hf : ∀ q, free q → A0 q) (hAX : ∀ q, q < H.size → AX q → A0 q)
    (kx : ∀ (E : String) (ce : Cell) (q9 : Addr) (u : SX) (t : State) (H1 : Heap) (locs1 : List Loc), t.heap = H1 → s.vm.Alike t.vm → px u → BX E u t → H.size ≤ H1.size → (∀ q : Nat, q < H.size → ¬ AX q → H1[q]? = H[q]?) → va_S A0 H0 H1 locs1 → H1[q9]? = some ce → ce.vm = .none → s.vm.findClass E = some ce.cls → vx_W p l e R s m args below meth c H1 locs1 (cells + mc) (slots + ms) Q (F0 m pc ls rest) q9)
    (kk : ∀ (r : UInt32) (u : S) (t : State) (H1 : Heap) (locs1 : List Loc), t.heap = H1 → s.vm.Alike t.vm → post r u → B u t → H.size ≤ H1.size → (∀ q : Nat, q < H.size → ¬ A1 q → H1[q]? = H[q]?) → va_S A0 H0 H1 locs1 → W p l e R s m args below meth c H1 locs1 (cells + mc) (slots + ms) Q (F0 m (pc + 3) ls (.float r :: rest))) : W p l e R s m args below meth c H locs cells slots Q (F0 m pc ls st0) := by
  intro T hT X
  rcases hr T hT X with ⟨v, st₀, t, T', L, h0, X', hL, e1, e2, ⟨⟨r, u, hv, hp, hb⟩, hF⟩, st⟩ | ⟨q, st₀, t, T', L, E, ce, h0, X', hL, e1, e2, ⟨u, hp, hb, hF⟩, hce, hcv, hcl, st⟩
  · cases hv
    obtain ⟨k1, k2, k3⟩ := vx_keep h0 e1 hS hA hf hL hF
    obtain ⟨t2, a1, b1⟩ := kk r u t T'.heap (locs ++ L) e1.symm (by rw [← e2]; exact X'.warmed.alike) hp hb k1 k2 k3 T' rfl X'
    exact ⟨t2, st t2 a1, b1⟩
  · obtain ⟨k1, k2, k3⟩ := vx_keep h0 e1 hS hAX hf hL hF
    obtain ⟨t2, a1, b1⟩ := kx E ce q u t T'.heap (locs ++ L) e1.symm (by rw [← e2]; exact X'.warmed.alike) hp hb k1 k2 k3 (by rw [e1]; exact hce) hcv hcl T' rfl X'
    exact ⟨t2, st.trans a1, b1⟩
theorem vx_calld {S SX : Type} {post : UInt64 → S → Prop} {px : SX → Prop} {B : S → State → Prop} {BX : String → SX → State → Prop} {AX : Nat → Prop} (hr : vx_Run p l e R s m args below meth c H locs cells slots mc ms (F0 m pc ls st0) rest (va_Qd post B A1 a) (vx_X px BX AX) free) (hS : va_S A0 H0 H locs) (hA : ∀ q, q < H.size → A1 q → A0 q) (hf : ∀ q, free q → A0 q) (hAX : ∀ q, q < H.size → AX q → A0 q)
    (kx : ∀ (E : String) (ce : Cell) (q9 : Addr) (u : SX) (t : State) (H1 : Heap) (locs1 : List Loc), t.heap = H1 → s.vm.Alike t.vm → px u → BX E u t → H.size ≤ H1.size → (∀ q : Nat, q < H.size → ¬ AX q → H1[q]? = H[q]?) → va_S A0 H0 H1 locs1 → H1[q9]? = some ce → ce.vm = .none → s.vm.findClass E = some ce.cls → vx_W p l e R s m args below meth c H1 locs1 (cells + mc) (slots + ms) Q (F0 m pc ls rest) q9)
    (kk : ∀ (r : UInt64) (u : S) (t : State) (H1 : Heap) (locs1 : List Loc), t.heap = H1 → s.vm.Alike t.vm → post r u → B u t → H.size ≤ H1.size → (∀ q : Nat, q < H.size → ¬ A1 q → H1[q]? = H[q]?) → va_S A0 H0 H1 locs1 → W p l e R s m args below meth c H1 locs1 (cells + mc) (slots + ms) Q (F0 m (pc + 3) ls (.double r :: rest))) : W p l e R s m args below meth c H locs cells slots Q (F0 m pc ls st0) := by
  intro T hT X
  rcases hr T hT X with ⟨v, st₀, t, T', L, h0, X', hL, e1, e2, ⟨⟨r, u, hv, hp, hb⟩, hF⟩, st⟩ | ⟨q, st₀, t, T', L, E, ce, h0, X', hL, e1, e2, ⟨u, hp, hb, hF⟩, hce, hcv, hcl, st⟩
  · cases hv
    obtain ⟨k1, k2, k3⟩ := vx_keep h0 e1 hS hA hf hL hF
    obtain ⟨t2, a1, b1⟩ := kk r u t T'.heap (locs ++ L) e1.symm (by rw [← e2]; exact X'.warmed.alike) hp hb k1 k2 k3 T' rfl X'
    exact ⟨t2, st t2 a1, b1⟩
  · obtain ⟨k1, k2, k3⟩ := vx_keep h0 e1 hS hAX hf hL hF
    obtain ⟨t2, a1, b1⟩ := kx E ce q u t T'.heap (locs ++ L) e1.symm (by rw [← e2]; exact X'.warmed.alike) hp hb k1 k2 k3 (by rw [e1]; exact hce) hcv hcl T' rfl X'
    exact ⟨t2, st.trans a1, b1⟩
theorem vx_callv {S SX : Type} {post : S → Prop} {px : SX → Prop} {B : S → State → Prop} {BX : String → SX → State → Prop} {AX : Nat → Prop} (hr : vx_Run p l e R s m args below meth c H locs cells slots mc ms (F0 m pc ls st0) rest (va_Qv post B A1 a) (vx_X px BX AX) free) (hS : va_S A0 H0 H locs) (hA : ∀ q, q < H.size → A1 q → A0 q) (hf : ∀ q, free q → A0 q) (hAX : ∀ q, q < H.size → AX q → A0 q)
    (kx : ∀ (E : String) (ce : Cell) (q9 : Addr) (u : SX) (t : State) (H1 : Heap) (locs1 : List Loc), t.heap = H1 → s.vm.Alike t.vm → px u → BX E u t → H.size ≤ H1.size → (∀ q : Nat, q < H.size → ¬ AX q → H1[q]? = H[q]?) → va_S A0 H0 H1 locs1 → H1[q9]? = some ce → ce.vm = .none → s.vm.findClass E = some ce.cls → vx_W p l e R s m args below meth c H1 locs1 (cells + mc) (slots + ms) Q (F0 m pc ls rest) q9)
    (kk : ∀ (u : S) (t : State) (H1 : Heap) (locs1 : List Loc), t.heap = H1 → s.vm.Alike t.vm → post u → B u t → H.size ≤ H1.size → (∀ q : Nat, q < H.size → ¬ A1 q → H1[q]? = H[q]?) → va_S A0 H0 H1 locs1 → W p l e R s m args below meth c H1 locs1 (cells + mc) (slots + ms) Q (F0 m (pc + 3) ls (rest))) : W p l e R s m args below meth c H locs cells slots Q (F0 m pc ls st0) := by
  intro T hT X
  rcases hr T hT X with ⟨v, st₀, t, T', L, h0, X', hL, e1, e2, ⟨⟨u, hv, hp, hb⟩, hF⟩, st⟩ | ⟨q, st₀, t, T', L, E, ce, h0, X', hL, e1, e2, ⟨u, hp, hb, hF⟩, hce, hcv, hcl, st⟩
  · cases hv
    obtain ⟨k1, k2, k3⟩ := vx_keep h0 e1 hS hA hf hL hF
    obtain ⟨t2, a1, b1⟩ := kk u t T'.heap (locs ++ L) e1.symm (by rw [← e2]; exact X'.warmed.alike) hp hb k1 k2 k3 T' rfl X'
    exact ⟨t2, st t2 a1, b1⟩
  · obtain ⟨k1, k2, k3⟩ := vx_keep h0 e1 hS hAX hf hL hF
    obtain ⟨t2, a1, b1⟩ := kx E ce q u t T'.heap (locs ++ L) e1.symm (by rw [← e2]; exact X'.warmed.alike) hp hb k1 k2 k3 (by rw [e1]; exact hce) hcv hcl T' rfl X'
    exact ⟨t2, st.trans a1, b1⟩
/-- caught by the row x of this method's table; the rows ahead don't take it -/
theorem vx_catch {own name : String} {E : String} {ce : Cell} {q : Addr} (hown : s.vm.findClass own = some m.cls) (pre : List ExceptionTableEntry) (x : ExceptionTableEntry) (suf : List ExceptionTableEntry) (hsplit : c.exceptionTable.toList = pre ++ x :: suf)
    (hpass : ∀ z ∈ pre, covers z pc = false ∨ (z.catchType ≠ 0 ∧ ∃ nm : String, (Cond.classLink own z.catchType nm).before args s = true ∧ va_Nc E nm s)) (hx : covers x pc = true) (h0 : x.catchType ≠ 0)
    (hlink : (Cond.classLink own x.catchType name).before args s = true) (hcast : (Cond.castable E name).before args s = true) (hcell : H[q]? = some ce) (hv : ce.vm = .none) (hcl : s.vm.findClass E = some ce.cls)
    (kk : W p l e R s m args below meth c H locs cells slots Q (F0 m x.handlerPc ls [.ref q])) : vx_W p l e R s m args below meth c H locs cells slots Q (F0 m pc ls rest) q := by
  intro T hT X
  have hpl : e.platform.magicAccessors = ({} : Platform).magicAccessors := by rw [X.admits.platform]
  obtain ⟨c3, c4, hc3, hc4, hasg⟩ := Cond.castable_spec hcast
  cases Option.some.inj (hc3.symm.trans hcl)
  obtain ⟨c5, hc5, hcl5⟩ := Cond.classLink_spec hown hlink e.platform hpl
  cases Option.some.inj (hc4.symm.trans hc5)
  obtain ⟨vm', X', st⟩ := X.thenCaughtThrough q (g := F0 m pc ls rest) rfl (Steps.refl _) (by rw [hT]; exact hcell) (by rw [hv]; rfl) (by obtain ⟨k9, h9, -⟩ := Vm.findClass_spec hcl; exact ⟨k9, h9⟩) pre x suf hsplit
    (fun z hz => by
      rcases hpass z hz with h | ⟨hz0, nm, hl1, hn1⟩
      · exact Or.inl h
      · obtain ⟨c6, hc6, hcl6⟩ := Cond.classLink_spec hown hl1 e.platform hpl
        obtain ⟨a8, b8, h1, h2, h3⟩ := hn1
        cases Option.some.inj (h1.symm.trans hcl)
        cases Option.some.inj (h2.symm.trans hc6)
        exact Or.inr ⟨hz0, _, hcl6, h3⟩) hx (Or.inr ⟨h0, c4, hcl5, hasg⟩)
  obtain ⟨t, a1, b1⟩ := kk (T.setVm vm') hT X'
  exact ⟨t, st.trans a1, b1⟩
end Rows
section Ends
variable {p : Program} {l : Launch} {e : Env} {R : Room} {s : State} {m : MethodId} {args : Array Value} {below : List Frame} {meth : Method} {c : Code} {H : Heap} {locs : List Loc} {cells slots : Nat} {Q : State → Prop}
variable {mc ms : Nat} {free : Addr → Prop} {A0 A1 : Nat → Prop} {H0 : Heap} {a : Array Value} {ls : Array Slot} {st0 rest : List Value}
variable {Qc : Array Value → State → Outcome → State → Prop} {XC : String → State → State → Prop}
/-- what a body that may throw owes at its end -/
def vx_MQ (below : List Frame) (Qc : Array Value → State → Outcome → State → Prop) (XC : String → State → State → Prop) (a : Array Value) (s : State) (mc ms : Nat) (free : Addr → Prop) : State → Prop := fun t =>
  ∃ o, t.status = .running ∧ Ended t below o ∧ vx_Q Qc XC mc ms free a s o t
theorem vx_ret {g : JFrame} {mc ms : Nat} (k : W p l e R s m args below meth c H locs cells slots (MQ below Qc args s mc ms free) g) : W p l e R s m args below meth c H locs cells slots (vx_MQ below Qc XC args s mc ms free) g := by
  intro T hT X
  obtain ⟨t, a1, o, b1, b2, b3, b4⟩ := k T hT X
  exact ⟨t, a1, o, b1, b2, Or.inl ⟨b3, b4⟩⟩
/-- not caught here: it goes on to the caller -/
theorem vx_widen {g : JFrame} {q : Addr} {k n : Nat} (h1 : cells ≤ k) (h2 : slots ≤ n) (kk : vx_W p l e R s m args below meth c H locs k n Q g q) : vx_W p l e R s m args below meth c H locs cells slots Q g q := fun T hT X => kk T hT (stand_widen X h1 h2)
theorem vx_out {pc : Nat} {E : String} {ce : Cell} {q : Addr} {mc ms : Nat} (hout : ∀ x ∈ c.exceptionTable.toList, covers x pc = false) (hlocks : meth.locks = false) (hcell : H[q]? = some ce) (hv : ce.vm = .none) (hcl : s.vm.findClass E = some ce.cls)
    (hx : ∀ t : State, t.heap = H → s.vm.Alike t.vm → XC E s t) (hf : ∀ z ∈ locs, free z.base) (hc : cells ≤ mc) (hs : slots ≤ ms) :
    vx_W p l e R s m args below meth c H locs cells slots (vx_MQ below Qc XC args s mc ms free) (F0 m pc ls rest) q := by
  intro T hT X
  obtain ⟨st1, hrun, hend, hW, hsm⟩ := X.leaveThrown q (g := F0 m pc ls rest) rfl rfl rfl hout hlocks
  have hcell9 : (T.setFrames (.throwing q :: below)).heap[q]? = some ce := by
    show T.heap[q]? = some ce
    rw [hT]; exact hcell
  exact ⟨_, st1, .threw q, hrun, hend, Or.inr ⟨q, rfl, E, ce, locs, hx _ hT hW.alike, hcell9, hv, hcl, hW, hsm.mono hc hs, hf⟩⟩
theorem vx_frame {U : State} {k n : Nat} (h : s.sameButNew ({ U with vm := s.vm } : State) locs k n) : s.heap.size ≤ U.heap.size ∧ ∀ q : Nat, q < s.heap.size → (∀ z ∈ locs, z.base ≠ q) → U.heap[q]? = s.heap[q]? := by
  obtain ⟨-, h2, -, -, -, h6⟩ := h
  refine ⟨h2, fun q hq hz => ?_⟩
  obtain ⟨c9, e1, e2, e3, e4⟩ := h6 q _ (Array.getElem?_eq_getElem hq)
  have hs : c9.slots = (s.heap[q]).slots := Array.ext_getElem? fun i => e4 i fun hm => hz _ hm rfl
  have h9 : c9 = s.heap[q] := by
    rw [hs] at e2
    exact e2
  have e5 : U.heap[q]? = some c9 := e1
  rw [e5, h9, Array.getElem?_eq_getElem hq]
/-- the words of a throw but the four that speak of the heap -/
def vx_no (w : Cond) : Bool := decide (w ≠ .isRef (.static Bundle.tN "UNASSIGNED_STACK" Bundle.steD)) && decide (w ≠ .isRef (.static Bundle.tN "SUPPRESSED_SENTINEL" Bundle.listD)) && decide (w ≠ .laysStatic Bundle.tN "UNASSIGNED_STACK" Bundle.steD) && decide (w ≠ .laysStatic Bundle.tN "SUPPRESSED_SENTINEL" Bundle.listD)
def vx_at0 (own : String) (ic : Nat) (X : String) (names : List String) : List Cond := (Bundle.ownAtoms0 own ic X names).filter vx_no
def vx_atS (own : String) (ic : Nat) (X : String) (names : List String) : List Cond := (Bundle.ownAtoms own ic X names).filter vx_no
/-- a word that the tables alone decide, or a good one -/
def vx_ot (w : Cond) : Bool := w.onTables || goodWord w
theorem vx_ot_at {args a' : Array Value} {s U : State} {w : Cond} (hW : s.WarmedH U.vm) (hvm : s.vm = U.vm) (hg : vx_ot w = true) (h : w.before args s = true) : w.before a' U = true := by
  simp only [vx_ot, Bool.or_eq_true] at hg
  rcases hg with hg | hg
  · exact va_tabs hg hvm h
  · exact word_at hW (good_of_word hg) h
/-- a list's words: the good ones out of the method's own list, the others by premises of their own -/
theorem vx_hat {args : Array Value} {s : State} {L B : List Cond} (h1 : ∀ w ∈ L.filter goodWord, w.before args s = true) (h2 : ∀ w ∈ L.filter (fun w => !goodWord w), w ∈ B) (h3 : ∀ w ∈ B, w.before args s = true) : ∀ w ∈ L, w.before args s = true := by
  intro w hw
  by_cases g : goodWord w = true
  · exact h1 w (List.mem_filter.mpr ⟨hw, g⟩)
  · refine h3 w (h2 w (List.mem_filter.mpr ⟨hw, ?_⟩))
    show (!goodWord w) = true
    cases hgw : goodWord w
    · rfl
    · exact absurd hgw g
theorem vx_c {args : Array Value} {s : State} {w : Cond} {B : List Cond} (h : w.before args s = true) (t : ∀ w ∈ B, w.before args s = true) : ∀ w' ∈ w :: B, w'.before args s = true := fun w' h' => (List.mem_cons.mp h').elim (fun e => by rw [e]; exact h) (t w')
theorem vx_n {args : Array Value} {s : State} : ∀ w ∈ ([] : List Cond), w.before args s = true := fun _ h => nomatch h
theorem vx_own {args : Array Value} {s : State} {L : List Cond} (h1 : ∀ w ∈ L.filter vx_no, w.before args s = true)
    (hU : (Cond.isRef (.static Bundle.tN "UNASSIGNED_STACK" Bundle.steD)).before args s = true) (hN : (Cond.isRef (.static Bundle.tN "SUPPRESSED_SENTINEL" Bundle.listD)).before args s = true)
    (lU : (Cond.laysStatic Bundle.tN "UNASSIGNED_STACK" Bundle.steD).before args s = true) (lN : (Cond.laysStatic Bundle.tN "SUPPRESSED_SENTINEL" Bundle.listD).before args s = true) : ∀ w ∈ L, w.before args s = true := by
  intro w hw
  by_cases e1 : w = .isRef (.static Bundle.tN "UNASSIGNED_STACK" Bundle.steD)
  · rw [e1]; exact hU
  · by_cases e2 : w = .isRef (.static Bundle.tN "SUPPRESSED_SENTINEL" Bundle.listD)
    · rw [e2]; exact hN
    · by_cases e3 : w = .laysStatic Bundle.tN "UNASSIGNED_STACK" Bundle.steD
      · rw [e3]; exact lU
      · by_cases e4 : w = .laysStatic Bundle.tN "SUPPRESSED_SENTINEL" Bundle.listD
        · rw [e4]; exact lN
        · exact h1 w (List.mem_filter.mpr ⟨hw, by unfold vx_no; rw [decide_eq_true e1, decide_eq_true e2, decide_eq_true e3, decide_eq_true e4]; rfl⟩)
/-- where a static field lies, its class's statics cell in H -/
def vx_L (C n d : String) (A : Nat → Prop) (U : State) (H : Heap) : Prop := ∃ (c : ClassId) (k : Class) (i : Nat) (f : Field) (a : Nat) (cell : Cell), U.vm.findClass C = some c ∧ U.fieldFound? C n d = some (c, k, i, f) ∧ f.isStatic = true ∧ k.statics = some a ∧ H[a]? = some cell ∧ cell.vm.isStatics = true ∧ cell.cls = c ∧ f.slot < cell.slots.size ∧ k.staticTypes[f.slot]? = some f.type ∧ ¬ A a
theorem vx_L.moved {C n d : String} {A : Nat → Prop} {u U : State} {H : Heap} (hvm : u.vm.Alike U.vm) (h : vx_L C n d A u H) : vx_L C n d A U H := by
  obtain ⟨c, k, i, f, a, cell, h1, h2, h3, h4, h5, h6, h7, h8, h9, h10⟩ := h
  obtain ⟨k', hi', he⟩ := State.fieldFound?_setVm hvm h2
  exact ⟨c, k', i, f, a, cell, by rw [hvm.findClass]; exact h1, hi', h3, by rw [he]; exact h4, h5, h6, h7, h8, by rw [he]; exact h9, h10⟩
theorem vx_L.kept {C n d : String} {A : Nat → Prop} {U : State} {H H1 : Heap} (h : vx_L C n d A U H) (hq : ∀ a : Nat, a < H.size → ¬ A a → H1[a]? = H[a]?) : vx_L C n d A U H1 := by
  obtain ⟨c, k, i, f, a, cell, h1, h2, h3, h4, h5, h6, h7, h8, h9, h10⟩ := h
  exact ⟨c, k, i, f, a, cell, h1, h2, h3, h4, by rw [hq a (Array.getElem?_eq_some_iff.mp h5).1 h10]; exact h5, h6, h7, h8, h9, h10⟩
theorem vx_L.narrow {C n d : String} {A B : Nat → Prop} {U : State} {H : Heap} (h : vx_L C n d A U H) (hAB : ∀ q, B q → A q) : vx_L C n d B U H := by
  obtain ⟨c, k, i, f, a, cell, h1, h2, h3, h4, h5, h6, h7, h8, h9, h10⟩ := h
  exact ⟨c, k, i, f, a, cell, h1, h2, h3, h4, h5, h6, h7, h8, h9, fun z => h10 (hAB _ z)⟩
theorem vx_L.word {C n d : String} {A : Nat → Prop} {s : State} {args : Array Value} (h : vx_L C n d A s s.heap) : (Cond.laysStatic C n d).before args s = true := by
  obtain ⟨c, k, i, f, a, cell, h1, h2, h3, h4, h5, h6, h7, h8, h9, -⟩ := h
  show (Cond.laysStatic C n d).holds args s none s [] = true
  exact Cond.laysStatic_of h1 h2 h3 h4 h5 h6 h7 h8 h9
/-- .. and what it holds: null or some reference -/
def vx_Zq (C n d : String) (A : Nat → Prop) (U : State) (H : Heap) : Prop := va_Zq C n d A U H ∧ vx_L C n d A U H
theorem vx_Zq.moved {C n d : String} {A : Nat → Prop} {u U : State} {H : Heap} (hvm : u.vm.Alike U.vm) (h : vx_Zq C n d A u H) : vx_Zq C n d A U H := ⟨va_Zq.moved hvm h.1, vx_L.moved hvm h.2⟩
theorem vx_Zq.kept {C n d : String} {A : Nat → Prop} {U : State} {H H1 : Heap} (h : vx_Zq C n d A U H) (hq : ∀ a : Nat, a < H.size → ¬ A a → H1[a]? = H[a]?) : vx_Zq C n d A U H1 := ⟨va_Zq.kept h.1 hq, vx_L.kept h.2 hq⟩
theorem vx_Zq.narrow {C n d : String} {A B : Nat → Prop} {U : State} {H : Heap} (h : vx_Zq C n d A U H) (hAB : ∀ q, B q → A q) : vx_Zq C n d B U H := ⟨va_Zq.narrow h.1 hAB, vx_L.narrow h.2 hAB⟩
theorem vx_Zqof {args : Array Value} {s : State} {C n d : String} {A : Nat → Prop} (hl : (Cond.laysStatic C n d).before args s = true) (hini : (Cond.initialized C).before args s = true) (h : (Cond.isRef (.static C n d)).before args s = true) (hA : ∀ a : Nat, a < s.heap.size → ¬ A a) : vx_Zq C n d A s s.heap := by
  refine ⟨va_Zqof hl hini h hA, ?_⟩
  obtain ⟨c, k, i, f, a, cell, h1, h2, h3, h4, h5, h6, h7, h8, h9⟩ := Cond.laysStatic_spec hl
  exact ⟨c, k, i, f, a, cell, h1, h2, h3, h4, h5, h6, h7, h8, h9, hA a (Array.getElem?_eq_some_iff.mp h5).1⟩
theorem vx_isRef {C n d : String} {v : Value} {A : Nat → Prop} {s : State} {args : Array Value} (h : va_Z C n d v A s s.heap) (hv : v.isRef = true) : (Cond.isRef (.static C n d)).before args s = true := by
  obtain ⟨cf, kf, fi, f, a, cell, h1, h2, h3, h4, h5, h6, h7, -⟩ := h
  have he : (Term.static C n d).eval args s none [] s = some v := by
    simp [Term.eval, State.fieldNamed?, h1, h2, h4, h5, h6, h7]
  simp only [Cond.before, Cond.holds, Cond.value, he]
  cases v <;> simp_all [Value.isRef]
theorem vx_isRefq {C n d : String} {A : Nat → Prop} {s : State} {args : Array Value} (h : va_Zq C n d A s s.heap) : (Cond.isRef (.static C n d)).before args s = true := by
  rcases h with h | ⟨t, h⟩
  · exact vx_isRef h rfl
  · exact vx_isRef h rfl
/-- the same frame, seen from here: as if the method were called anew in this heap -/
theorem vx_rebase {T : State} (X : Stand p l e R s m args below meth c T locs cells slots) {R' : Room} (hf : R'.frames ≤ R.frames) (hl : R'.locals ≤ R.locals) (hc : cells + R'.cells ≤ R.cells) (hs : slots + R'.slots ≤ R.slots) :
    Stand p l e R' ((T.setVm s.vm).setFrames (.invoking m args :: below)) m args below meth c T [] 0 0 := by
  have htop : (T.setVm s.vm).topJava?.isSome := X.here.top
  have hF : ((T.setVm s.vm).setFrames (.invoking m args :: below)).frames = .invoking m args :: below := State.frames_setFrames _ (State.cur_lt_of_top htop)
  obtain ⟨g₀, hg0⟩ := Option.isSome_iff_exists.mp htop
  obtain ⟨r, hr⟩ := State.topJava?_eq_some.mp hg0
  have hl9 : e.platform.stackLimits (T.setVm s.vm).me = e.platform.stackLimits s.me := X.limits
  have hb9 : (T.setVm s.vm).me.stackBytes = s.me.stackBytes := X.bytes
  refine ⟨X.admits, X.cas, X.clock, hF, ?_, X.hears, X.method, X.code, X.here, X.tail, X.warmed, ?_, ?_, ?_⟩
  · have h := X.room
    have hU : ((T.setVm s.vm).setFrames (.invoking m args :: below)).localsInUse = s.localsInUse := by
      rw [State.localsInUse_invoking hF (meth := meth) (c := c) X.method X.code, State.localsInUse_invoking X.frames X.method X.code]
    simp only [State.hasRoom, Bool.and_eq_true, decide_eq_true_eq] at h ⊢
    obtain ⟨⟨⟨⟨h1, h2, h3, h4, h5, h6⟩, h7⟩, h8⟩, h9⟩ := h
    rw [X.frames, List.length_cons] at h2 h3
    have q1 := X.heapSize
    have q2 := X.used
    simp only [hF, hU, List.length_cons, State.stackLimits_setFrames, State.stackBytes_setFrames, hl9, hb9]
    refine ⟨⟨⟨⟨by omega, by omega, by omega, by omega, by omega, h6⟩, ?_⟩, ?_⟩, X.book⟩
    · show T.heap.size + R'.cells ≤ e.platform.maxCells
      omega
    · show T.slotsUsed + R'.slots ≤ e.platform.maxSlots
      omega
  · rw [State.stackLimits_setFrames]; rfl
  · rw [State.stackBytes_setFrames]; rfl
  · refine ⟨?_, Nat.le_refl _, Nat.le_refl _, ?_, ?_, fun a c9 h9 => ⟨c9, h9, rfl, rfl, fun _ _ => rfl⟩⟩
    · obtain ⟨t, ht, -⟩ := State.frames_cons hr
      show T.setVm s.vm = { ((T.setVm s.vm).setFrames (.invoking m args :: below)).setFrames (T.setVm s.vm).frames with heap := T.heap, slotsUsed := T.slotsUsed }
      rw [State.setFrames_setFrames, State.setFrames_self ht]
      rfl
    · show T.slotsUsed = T.slotsUsed + ((T.heap.toList.drop T.heap.size).map (·.slots.size)).sum
      rw [List.drop_eq_nil_of_le (Nat.le_of_eq Array.length_toList)]
      rfl
    · show ((T.heap.toList.drop T.heap.size).map (·.slots.size)).sum ≤ 0
      rw [List.drop_eq_nil_of_le (Nat.le_of_eq Array.length_toList)]
      exact Nat.le_refl _
/-- 'throw new E()': new; dup; invokespecial; athrow -/
theorem vx_throw0 {cc : ByteArray} {pc : Nat} (hexec : p.tables.exec = Jvm.exec) (hb : c.code = cc) (hl : l.stackTraces = false) {own cls : String} {names : List String} {ik ic mc ms : Nat} {A : Nat → Prop}
    (hown : s.vm.findClass own = some m.cls) (hcls : Bundle.fit cls = true) (hnames : ∀ n ∈ names, Bundle.fit n = true)
    (hk : (Cond.classLink own ik cls).before args s = true) (hini : (Cond.initialized cls).before args s = true) (hat : ∀ w ∈ vx_at0 own ic cls names, w.before args s = true)
    (hgood : ∀ w ∈ Cond.classLink own ik cls :: Cond.initialized cls :: vx_at0 own ic cls names, vx_ot w = true)
    (hU : vx_Zq Bundle.tN "UNASSIGNED_STACK" Bundle.steD A s s.heap) (hN : vx_Zq Bundle.tN "SUPPRESSED_SENTINEL" Bundle.listD A s s.heap) (hS : va_S A s.heap H locs) (hsize : ls.size = c.maxLocals)
    (d0 : decode cc pc = .ok (.new ik, 3)) (d3 : decode cc (pc + 3) = .ok (.dup, 1)) (d4 : decode cc (pc + 4) = .ok (.invokespecial ic, 3)) (d7 : decode cc (pc + 7) = .ok (.athrow, 1))
    (hout : ∀ x ∈ c.exceptionTable.toList, covers x (pc + 7) = false)
    (hRframes : names.length + 3 < R.frames) (hRlocals : (rest.map fun v => v.category).sum + (13 * (names.length + 1) + 42) ≤ R.locals) (hRcells : cells + 1 ≤ R.cells) (hRslots : slots + 6 ≤ R.slots) (hlocks : meth.locks = false)
    (hx : ∀ t : State, s.vm.Alike t.vm → H.size ≤ t.heap.size → (∀ q : Nat, q < H.size → t.heap[q]? = H[q]?) → XC cls s t)
    (hf : ∀ z ∈ locs, free z.base) (hc : cells + 1 ≤ mc) (hs : slots + 6 ≤ ms) :
    W p l e R s m args below meth c H locs cells slots (vx_MQ below Qc XC args s mc ms free) (F0 m pc ls rest) := by
  intro T hT X
  have htr : e.platform.stackTraces = false := (show e.platform.stackTraces = l.stackTraces by rw [X.admits.platform]).trans hl
  have Y := vx_rebase X (R' := { frames := R.frames, locals := R.locals, cells := 1, slots := 6 }) (Nat.le_refl _) (Nat.le_refl _) hRcells hRslots
  obtain ⟨s', hA⟩ : ∃ z, z = (T.setVm s.vm).setFrames (.invoking m args :: below) := ⟨_, rfl⟩
  rw [← hA] at Y
  have hvm : s'.vm = s.vm := by rw [hA]; rfl
  have hhp : s'.heap = H := by rw [hA]; exact hT
  have hW0 : s.WarmedH s'.vm := by rw [hvm]; exact State.WarmedH.refl s
  have hat' : ∀ w ∈ vx_at0 own ic cls names, w.before args s' = true := fun w hw => vx_ot_at hW0 hvm.symm (hgood w (List.mem_cons_of_mem _ (List.mem_cons_of_mem _ hw))) (hat w hw)
  have hk' : (Cond.classLink own ik cls).before args s' = true := vx_ot_at hW0 hvm.symm (hgood _ List.mem_cons_self) hk
  have hini' : (Cond.initialized cls).before args s' = true := vx_ot_at hW0 hvm.symm (hgood _ (List.mem_cons_of_mem _ List.mem_cons_self)) hini
  have hU' : vx_Zq Bundle.tN "UNASSIGNED_STACK" Bundle.steD A s' s'.heap := by rw [hhp]; exact vx_Zq.moved hW0.alike (hU.kept hS.2.1)
  have hN' : vx_Zq Bundle.tN "SUPPRESSED_SENTINEL" Bundle.listD A s' s'.heap := by rw [hhp]; exact vx_Zq.moved hW0.alike (hN.kept hS.2.1)
  have h : ∀ w ∈ Bundle.ownAtoms0 own ic cls names, w.before args s' = true := vx_own hat' (vx_isRefq hU'.1) (vx_isRefq hN'.1) hU'.2.word hN'.2.word
  have hown' : s'.vm.findClass own = some m.cls := by rw [hvm]; exact hown
  have hins : (Cond.instantiable cls 6).before args s' = true := h _ (by simp [Bundle.ownAtoms0])
  obtain ⟨vm₁, cX, kX, hfX, hkX, -, -, X₁, st1⟩ := Y.newCold hexec (own := own) (C := cls) (index := ik) (n := 6) hown' hk' hins hini'
    (g := F0 m pc ls rest) rfl (by rw [hb]; exact d0) (Nat.le_refl _) (Nat.le_refl _)
  generalize hT1 : (T.setVm vm₁).pushCell { cls := cX, slots := kX.instanceTypes.map defaultValue, vm := .none } = T1 at X₁ st1
  have hcat : (Value.ref T.heap.size).category = 1 := rfl
  have hcellA : T1.heap[T.heap.size]? = some (freshCell cX kX) := by rw [← hT1]; exact State.heap_pushCell_size _ _
  have d3' : decode c.code (pc + 3) = .ok (.dup, 1) := by rw [hb]; exact d3
  obtain ⟨U, hsteps, hrun, hend, hW, hsame, ce, hce, hO⟩ := X₁.ctorThrow0 hexec htr (own := own) (cls := cls) (names := names) (ic := ic) hown' hcls hnames h (fun x hx => nomatch hx) hfX hkX hcellA (by rw [hhp, hT]; exact Nat.le_refl _)
    (g := { method := m, pc := pc + 4, locals := ls, stack := .ref T.heap.size :: .ref T.heap.size :: rest, locked := none }) rfl hsize rfl rfl (rest := rest) rfl
    (by rw [hb]; exact d4) (by rw [hb]; exact d7) hout hRframes (by simp only [List.map_cons, List.sum_cons, hcat]; omega) hlocks
  obtain ⟨f1, f2⟩ := vx_frame hsame
  rw [hhp] at f1 f2
  have hWs : s.WarmedH U.vm := State.WarmedH.trans hW0 hW
  have hcl : s.vm.findClass cls = some ce.cls := by
    have h9 := hO.cls
    rw [hvm] at h9
    exact h9
  have hall : s.sameButNew ({ U with vm := s.vm } : State) locs mc ms := by
    subst hA
    obtain ⟨e1, e2⟩ := hsame
    rw [State.setFrames_setFrames] at e1
    have h2 : (T.setVm s.vm).sameButNew ({ U with vm := s.vm } : State) [] (0 + 1) (0 + 6) := ⟨e1, e2⟩
    have h3 := X.same.trans h2
    rw [List.append_nil] at h3
    exact h3.mono hc hs
  refine ⟨U, ?_, .threw T.heap.size, hrun, hend, Or.inr ⟨T.heap.size, rfl, cls, ce, locs, hx U hWs.alike f1 (fun q hq => f2 q hq (fun z hz => nomatch hz)), hce, hO.vm, hcl, hWs, hall, hf⟩⟩
  refine st1 _ ?_
  show Steps p.tables e below (T1.setTop { method := m, pc := pc + 3, locals := ls, stack := .ref T.heap.size :: rest, locked := none }) _
  jvm_step X₁.here [X₁.here.top, hexec, d3', Value.category]
  exact hsteps
/-- 'throw new E("text")': new; dup; ldc; invokespecial; athrow -/
theorem vx_throwS {cc : ByteArray} {pc : Nat} (hexec : p.tables.exec = Jvm.exec) (hb : c.code = cc) (hl : l.stackTraces = false) {own cls text : String} {names : List String} {ik is ic mc ms sa : Nat} {A : Nat → Prop}
    (hown : s.vm.findClass own = some m.cls) (hcls : Bundle.fit cls = true) (hnames : ∀ n ∈ names, Bundle.fit n = true)
    (hk : (Cond.classLink own ik cls).before args s = true) (hini : (Cond.initialized cls).before args s = true) (hstr : vk_R own is text sa s) (hat : ∀ w ∈ vx_atS own ic cls names, w.before args s = true)
    (hgood : ∀ w ∈ Cond.classLink own ik cls :: Cond.initialized cls :: vx_atS own ic cls names, vx_ot w = true)
    (hU : vx_Zq Bundle.tN "UNASSIGNED_STACK" Bundle.steD A s s.heap) (hN : vx_Zq Bundle.tN "SUPPRESSED_SENTINEL" Bundle.listD A s s.heap) (hS : va_S A s.heap H locs) (hsize : ls.size = c.maxLocals)
    (d0 : decode cc pc = .ok (.new ik, 3)) (d3 : decode cc (pc + 3) = .ok (.dup, 1)) (d4 : decode cc (pc + 4) = .ok (.ldc is, 2)) (d6 : decode cc (pc + 6) = .ok (.invokespecial ic, 3)) (d9 : decode cc (pc + 9) = .ok (.athrow, 1))
    (hout : ∀ x ∈ c.exceptionTable.toList, covers x (pc + 9) = false)
    (hRframes : names.length + 3 < R.frames) (hRlocals : (rest.map fun v => v.category).sum + (13 * (names.length + 1) + 43) ≤ R.locals) (hRcells : cells + 1 ≤ R.cells) (hRslots : slots + 6 ≤ R.slots) (hlocks : meth.locks = false)
    (hx : ∀ t : State, s.vm.Alike t.vm → H.size ≤ t.heap.size → (∀ q : Nat, q < H.size → t.heap[q]? = H[q]?) → XC cls s t)
    (hf : ∀ z ∈ locs, free z.base) (hc : cells + 1 ≤ mc) (hs : slots + 6 ≤ ms) :
    W p l e R s m args below meth c H locs cells slots (vx_MQ below Qc XC args s mc ms free) (F0 m pc ls rest) := by
  intro T hT X
  have htr : e.platform.stackTraces = false := (show e.platform.stackTraces = l.stackTraces by rw [X.admits.platform]).trans hl
  have Y := vx_rebase X (R' := { frames := R.frames, locals := R.locals, cells := 1, slots := 6 }) (Nat.le_refl _) (Nat.le_refl _) hRcells hRslots
  obtain ⟨s', hA⟩ : ∃ z, z = (T.setVm s.vm).setFrames (.invoking m args :: below) := ⟨_, rfl⟩
  rw [← hA] at Y
  have hvm : s'.vm = s.vm := by rw [hA]; rfl
  have hhp : s'.heap = H := by rw [hA]; exact hT
  have hW0 : s.WarmedH s'.vm := by rw [hvm]; exact State.WarmedH.refl s
  have hat' : ∀ w ∈ vx_atS own ic cls names, w.before args s' = true := fun w hw => vx_ot_at hW0 hvm.symm (hgood w (List.mem_cons_of_mem _ (List.mem_cons_of_mem _ hw))) (hat w hw)
  have hk' : (Cond.classLink own ik cls).before args s' = true := vx_ot_at hW0 hvm.symm (hgood _ List.mem_cons_self) hk
  have hini' : (Cond.initialized cls).before args s' = true := vx_ot_at hW0 hvm.symm (hgood _ (List.mem_cons_of_mem _ List.mem_cons_self)) hini
  have hU' : vx_Zq Bundle.tN "UNASSIGNED_STACK" Bundle.steD A s' s'.heap := by rw [hhp]; exact vx_Zq.moved hW0.alike (hU.kept hS.2.1)
  have hN' : vx_Zq Bundle.tN "SUPPRESSED_SENTINEL" Bundle.listD A s' s'.heap := by rw [hhp]; exact vx_Zq.moved hW0.alike (hN.kept hS.2.1)
  have h : ∀ w ∈ Bundle.ownAtoms own ic cls names, w.before args s' = true := vx_own hat' (vx_isRefq hU'.1) (vx_isRefq hN'.1) hU'.2.word hN'.2.word
  have hown' : s'.vm.findClass own = some m.cls := by rw [hvm]; exact hown
  have hins : (Cond.instantiable cls 6).before args s' = true := h _ (by simp [Bundle.ownAtoms])
  obtain ⟨vm₁, cX, kX, hfX, hkX, -, -, X₁, st1⟩ := Y.newCold hexec (own := own) (C := cls) (index := ik) (n := 6) hown' hk' hins hini'
    (g := F0 m pc ls rest) rfl (by rw [hb]; exact d0) (Nat.le_refl _) (Nat.le_refl _)
  generalize hT1 : (T.setVm vm₁).pushCell { cls := cX, slots := kX.instanceTypes.map defaultValue, vm := .none } = T1 at X₁ st1
  have hcat : (Value.ref T.heap.size).category = 1 := rfl
  have hcellA : T1.heap[T.heap.size]? = some (freshCell cX kX) := by rw [← hT1]; exact State.heap_pushCell_size _ _
  have d3' : decode c.code (pc + 3) = .ok (.dup, 1) := by rw [hb]; exact d3
  have d4' : decode c.code (pc + 4) = .ok (.ldc is, 2) := by rw [hb]; exact d4
  have hstr' : vk_R own is text sa s' := vk_R.warm hW0 hstr
  obtain ⟨U, hsteps, hrun, hend, hW, hsame, ce, hce, hO⟩ := X₁.ctorThrowS hexec htr (own := own) (cls := cls) (names := names) (ic := ic) hown' hcls hnames h (fun x hx => nomatch hx) hfX hkX hcellA (by rw [hhp, hT]; exact Nat.le_refl _) (msg := .ref sa) rfl
    (g := { method := m, pc := pc + 6, locals := ls, stack := .ref sa :: .ref T.heap.size :: .ref T.heap.size :: rest, locked := none }) rfl hsize rfl rfl (rest := rest) rfl
    (by rw [hb]; exact d6) (by rw [hb]; exact d9) hout hRframes (by simp only [List.map_cons, List.sum_cons, hcat]; omega) hlocks
  obtain ⟨f1, f2⟩ := vx_frame hsame
  rw [hhp] at f1 f2
  have hWs : s.WarmedH U.vm := State.WarmedH.trans hW0 hW
  have hcl : s.vm.findClass cls = some ce.cls := by
    have h9 := hO.cls
    rw [hvm] at h9
    exact h9
  have hall : s.sameButNew ({ U with vm := s.vm } : State) locs mc ms := by
    subst hA
    obtain ⟨e1, e2⟩ := hsame
    rw [State.setFrames_setFrames] at e1
    have h2 : (T.setVm s.vm).sameButNew ({ U with vm := s.vm } : State) [] (0 + 1) (0 + 6) := ⟨e1, e2⟩
    have h3 := X.same.trans h2
    rw [List.append_nil] at h3
    exact h3.mono hc hs
  refine ⟨U, ?_, .threw T.heap.size, hrun, hend, Or.inr ⟨T.heap.size, rfl, cls, ce, locs, hx U hWs.alike f1 (fun q hq => f2 q hq (fun z hz => nomatch hz)), hce, hO.vm, hcl, hWs, hall, hf⟩⟩
  refine st1 _ ?_
  show Steps p.tables e below (T1.setTop { method := m, pc := pc + 3, locals := ls, stack := .ref T.heap.size :: rest, locked := none }) _
  jvm_step X₁.here [X₁.here.top, hexec, d3', Value.category]
  exact X₁.ldcString hexec (own := own) (text := text) (index := is) (a := sa) hown' hstr'.1 hstr'.2
    (g := { method := m, pc := pc + 4, locals := ls, stack := .ref T.heap.size :: .ref T.heap.size :: rest, locked := none }) rfl d4' _ hsteps
/-- 'throw new E("text")', the text by a wide index -/
theorem vx_throwSW {cc : ByteArray} {pc : Nat} (hexec : p.tables.exec = Jvm.exec) (hb : c.code = cc) (hl : l.stackTraces = false) {own cls text : String} {names : List String} {ik is ic mc ms sa : Nat} {A : Nat → Prop}
    (hown : s.vm.findClass own = some m.cls) (hcls : Bundle.fit cls = true) (hnames : ∀ n ∈ names, Bundle.fit n = true)
    (hk : (Cond.classLink own ik cls).before args s = true) (hini : (Cond.initialized cls).before args s = true) (hstr : vk_R own is text sa s) (hat : ∀ w ∈ vx_atS own ic cls names, w.before args s = true)
    (hgood : ∀ w ∈ Cond.classLink own ik cls :: Cond.initialized cls :: vx_atS own ic cls names, vx_ot w = true)
    (hU : vx_Zq Bundle.tN "UNASSIGNED_STACK" Bundle.steD A s s.heap) (hN : vx_Zq Bundle.tN "SUPPRESSED_SENTINEL" Bundle.listD A s s.heap) (hS : va_S A s.heap H locs) (hsize : ls.size = c.maxLocals)
    (d0 : decode cc pc = .ok (.new ik, 3)) (d3 : decode cc (pc + 3) = .ok (.dup, 1)) (d4 : decode cc (pc + 4) = .ok (.ldc_w is, 3)) (d7 : decode cc (pc + 7) = .ok (.invokespecial ic, 3)) (d10 : decode cc (pc + 10) = .ok (.athrow, 1))
    (hout : ∀ x ∈ c.exceptionTable.toList, covers x (pc + 10) = false)
    (hRframes : names.length + 3 < R.frames) (hRlocals : (rest.map fun v => v.category).sum + (13 * (names.length + 1) + 43) ≤ R.locals) (hRcells : cells + 1 ≤ R.cells) (hRslots : slots + 6 ≤ R.slots) (hlocks : meth.locks = false)
    (hx : ∀ t : State, s.vm.Alike t.vm → H.size ≤ t.heap.size → (∀ q : Nat, q < H.size → t.heap[q]? = H[q]?) → XC cls s t)
    (hf : ∀ z ∈ locs, free z.base) (hc : cells + 1 ≤ mc) (hs : slots + 6 ≤ ms) :
    W p l e R s m args below meth c H locs cells slots (vx_MQ below Qc XC args s mc ms free) (F0 m pc ls rest) := by
  intro T hT X
  have htr : e.platform.stackTraces = false := (show e.platform.stackTraces = l.stackTraces by rw [X.admits.platform]).trans hl
  have Y := vx_rebase X (R' := { frames := R.frames, locals := R.locals, cells := 1, slots := 6 }) (Nat.le_refl _) (Nat.le_refl _) hRcells hRslots
  obtain ⟨s', hA⟩ : ∃ z, z = (T.setVm s.vm).setFrames (.invoking m args :: below) := ⟨_, rfl⟩
  rw [← hA] at Y
  have hvm : s'.vm = s.vm := by rw [hA]; rfl
  have hhp : s'.heap = H := by rw [hA]; exact hT
  have hW0 : s.WarmedH s'.vm := by rw [hvm]; exact State.WarmedH.refl s
  have hat' : ∀ w ∈ vx_atS own ic cls names, w.before args s' = true := fun w hw => vx_ot_at hW0 hvm.symm (hgood w (List.mem_cons_of_mem _ (List.mem_cons_of_mem _ hw))) (hat w hw)
  have hk' : (Cond.classLink own ik cls).before args s' = true := vx_ot_at hW0 hvm.symm (hgood _ List.mem_cons_self) hk
  have hini' : (Cond.initialized cls).before args s' = true := vx_ot_at hW0 hvm.symm (hgood _ (List.mem_cons_of_mem _ List.mem_cons_self)) hini
  have hU' : vx_Zq Bundle.tN "UNASSIGNED_STACK" Bundle.steD A s' s'.heap := by rw [hhp]; exact vx_Zq.moved hW0.alike (hU.kept hS.2.1)
  have hN' : vx_Zq Bundle.tN "SUPPRESSED_SENTINEL" Bundle.listD A s' s'.heap := by rw [hhp]; exact vx_Zq.moved hW0.alike (hN.kept hS.2.1)
  have h : ∀ w ∈ Bundle.ownAtoms own ic cls names, w.before args s' = true := vx_own hat' (vx_isRefq hU'.1) (vx_isRefq hN'.1) hU'.2.word hN'.2.word
  have hown' : s'.vm.findClass own = some m.cls := by rw [hvm]; exact hown
  have hins : (Cond.instantiable cls 6).before args s' = true := h _ (by simp [Bundle.ownAtoms])
  obtain ⟨vm₁, cX, kX, hfX, hkX, -, -, X₁, st1⟩ := Y.newCold hexec (own := own) (C := cls) (index := ik) (n := 6) hown' hk' hins hini'
    (g := F0 m pc ls rest) rfl (by rw [hb]; exact d0) (Nat.le_refl _) (Nat.le_refl _)
  generalize hT1 : (T.setVm vm₁).pushCell { cls := cX, slots := kX.instanceTypes.map defaultValue, vm := .none } = T1 at X₁ st1
  have hcat : (Value.ref T.heap.size).category = 1 := rfl
  have hcellA : T1.heap[T.heap.size]? = some (freshCell cX kX) := by rw [← hT1]; exact State.heap_pushCell_size _ _
  have d3' : decode c.code (pc + 3) = .ok (.dup, 1) := by rw [hb]; exact d3
  have d4' : decode c.code (pc + 4) = .ok (.ldc_w is, 3) := by rw [hb]; exact d4
  have hstr' : vk_R own is text sa s' := vk_R.warm hW0 hstr
  obtain ⟨U, hsteps, hrun, hend, hW, hsame, ce, hce, hO⟩ := X₁.ctorThrowS hexec htr (own := own) (cls := cls) (names := names) (ic := ic) hown' hcls hnames h (fun x hx => nomatch hx) hfX hkX hcellA (by rw [hhp, hT]; exact Nat.le_refl _) (msg := .ref sa) rfl
    (g := { method := m, pc := pc + 7, locals := ls, stack := .ref sa :: .ref T.heap.size :: .ref T.heap.size :: rest, locked := none }) rfl hsize rfl rfl (rest := rest) rfl
    (by rw [hb]; exact d7) (by rw [hb]; exact d10) hout hRframes (by simp only [List.map_cons, List.sum_cons, hcat]; omega) hlocks
  obtain ⟨f1, f2⟩ := vx_frame hsame
  rw [hhp] at f1 f2
  have hWs : s.WarmedH U.vm := State.WarmedH.trans hW0 hW
  have hcl : s.vm.findClass cls = some ce.cls := by
    have h9 := hO.cls
    rw [hvm] at h9
    exact h9
  have hall : s.sameButNew ({ U with vm := s.vm } : State) locs mc ms := by
    subst hA
    obtain ⟨e1, e2⟩ := hsame
    rw [State.setFrames_setFrames] at e1
    have h2 : (T.setVm s.vm).sameButNew ({ U with vm := s.vm } : State) [] (0 + 1) (0 + 6) := ⟨e1, e2⟩
    have h3 := X.same.trans h2
    rw [List.append_nil] at h3
    exact h3.mono hc hs
  refine ⟨U, ?_, .threw T.heap.size, hrun, hend, Or.inr ⟨T.heap.size, rfl, cls, ce, locs, hx U hWs.alike f1 (fun q hq => f2 q hq (fun z hz => nomatch hz)), hce, hO.vm, hcl, hWs, hall, hf⟩⟩
  refine st1 _ ?_
  show Steps p.tables e below (T1.setTop { method := m, pc := pc + 3, locals := ls, stack := .ref T.heap.size :: rest, locked := none }) _
  jvm_step X₁.here [X₁.here.top, hexec, d3', Value.category]
  exact X₁.ldcStringW hexec (own := own) (text := text) (index := is) (a := sa) hown' hstr'.1 hstr'.2
    (g := { method := m, pc := pc + 4, locals := ls, stack := .ref T.heap.size :: .ref T.heap.size :: rest, locked := none }) rfl d4' _ hsteps
end Ends
section Bodies
variable {l : Launch}
theorem vx_ofW {y : MethodName} {ws ws' : List Cond} {rm : Room} {Pc : Array Value → State → Prop} {Qc : Array Value → State → Outcome → State → Prop} {XC : String → State → State → Prop} {mc ms : Nat} {free : Addr → Prop} {cc : ByteArray} {maxL : Nat} {ret : Option FieldType}
    (hy : plainName y.cls = true) (hw : ws = Cond.code y cc maxL ret :: ws')
    (body : ∀ p e s m args below meth c s₁, BodyLoose p l y (headSpec ws rm) cc maxL ret e s m args below meth c s₁ → c.maxLocals = maxL → (∀ x ∈ c.exceptionTable.toList, False) → Pc args s →
      W p l e (headSpec ws rm).room s m args below meth c s.heap [] 0 0 (vx_MQ below Qc XC args s mc ms free) (entryFrame m args maxL)) : vx_Met l y ws rm Pc Qc XC mc ms free := by
  refine MetFree.of_bodyS (code := cc) (maxLocals := maxL) (ret := ret) hy ?_ ?_
  · intro args s m h hn
    obtain ⟨meth, c, h1, h2, h3, h4, h5, h6, -, -⟩ := Cond.code_spec hn (atoms_spec (ws := ws) h _ (by rw [hw]; exact List.mem_cons_self))
    exact ⟨meth, c, h1, h2, h3, h4, h5, h6⟩
  · intro p e s m args below meth c s₁ B hml hP _
    have hh0 : s₁.heap = s.heap := by rw [B.state]; rfl
    have ht : ∀ x ∈ c.exceptionTable.toList, False := by
      obtain ⟨meth9, c9, h1, h2, -, -, -, -, h7, -⟩ := Cond.code_spec B.named (atoms_spec (ws := ws) B.pre _ (by rw [hw]; exact List.mem_cons_self))
      cases Option.some.inj (h1.symm.trans B.method)
      cases Option.some.inj (h2.symm.trans (Stand.of_body B).code)
      intro x hx
      rw [Array.isEmpty_iff.mp h7] at hx
      cases hx
    obtain ⟨t, a1, o, b1, b2, b3⟩ := body p e s m args below meth c s₁ B hml ht hP s₁ hh0 (Stand.of_body B)
    exact ⟨t, o, a1, b1, b2, b3⟩
/-- the table of a body with handlers -/
theorem vx_table {p : Program} {x y : MethodName} {S : Spec} {cc bytes : ByteArray} {maxL maxL' : Nat} {ret ret' : Option FieldType} {e : Env} {s s₁ : State} {m : MethodId} {args : Array Value} {below : List Frame} {meth : Method} {c : Code} {hh : List (Nat × Nat × Nat × Nat)}
    (B : BodyLoose p l y S cc maxL ret e s m args below meth c s₁) (h : (Cond.codeWith y bytes maxL' ret' hh).before args s = true) : c.exceptionTable.toList = tableOf hh := by
  obtain ⟨m9, meth9, c9, hn9, h1, h2, -, -, h6, -⟩ := Cond.codeWith_spec h
  cases Option.some.inj (hn9.symm.trans B.named)
  cases Option.some.inj (h1.symm.trans B.method)
  cases Option.some.inj (h2.symm.trans (Stand.of_body B).code)
  rw [← h6, table_eq]
end Bodies
end VXA
/-! ===== END ===== -/
/-! ===== BEGIN a static call of a method with an exception table ===== -/
section VXS
variable {p : Program} {l : Launch} {e : Env} {R : Room} {s : State} {m : MethodId} {args : Array Value} {below : List Frame} {meth : Method} {c : Code} {T : State} {H : Heap} {locs : List Loc} {cells slots : Nat}
abbrev vx_CSW (R : Room) (s : State) (args : Array Value) (own : String) (index : Nat) (y : MethodName) (bytes : ByteArray) (maxL : Nat) (ret : Option FieldType) (hh : List (Nat × Nat × Nat × Nat)) (ws : List Cond) (rm : Room) (mc ms n : Nat) : Prop :=
  (rm.cells = mc ∧ rm.slots = ms ∧ rm.frames + 1 ≤ R.frames ∧ 8 + (maxL + 11) + rm.locals ≤ R.locals ∧ (∀ w ∈ ws, ∀ (a' : Array Value) (U : State), s.WarmedH U.vm → w.before a' U = true) ∧ Cond.codeWith y bytes maxL ret hh ∈ ws) ∧
  (Cond.codeWith y bytes maxL ret hh).before args s = true ∧ (Cond.initialized y.cls).before args s = true ∧ (y.cls ≠ "java/lang/invoke/MethodHandle" ∧ y.cls ≠ "java/lang/invoke/VarHandle") ∧
  (∀ sig, parseMethodDescriptor y.desc = some sig → n = sig.parameters.length) ∧ (Cond.methodLink own index y).before args s = true ∧ (Cond.static y).before args s = true
theorem vx_cwSW {own : String} {index maxL mc ms : Nat} {y : MethodName} {bytes : ByteArray} {ret : Option FieldType} {hh : List (Nat × Nat × Nat × Nat)} {Ts ws ws' : List Cond} {rm : Room} (n : Nat) (ht : ∀ w ∈ Ts, w.before args s = true) (hT : GoodIn Ts (va_wsS own index y ws)) (hw : ws = Cond.codeWith y bytes maxL ret hh :: ws') (hrc : rm.cells = mc) (hrs : rm.slots = ms)
    (hd : y.cls ≠ "java/lang/invoke/MethodHandle" ∧ y.cls ≠ "java/lang/invoke/VarHandle" ∧ (parseMethodDescriptor y.desc).map (fun d => d.parameters.length) = some n) (hR : rm.frames + 1 ≤ R.frames ∧ 8 + (maxL + 11) + rm.locals ≤ R.locals) :
    vx_CSW R s args own index y bytes maxL ret hh ws rm mc ms n := by
  have ok : ∀ w ∈ va_wsS own index y ws, w.before args s = true := fun w h => ht w (hT w h).1
  have hG : GoodIn Ts ws := fun w h => hT w (by unfold va_wsS; exact List.mem_append_right _ h)
  have hc : Cond.codeWith y bytes maxL ret hh ∈ ws := by rw [hw]; exact List.mem_cons_self
  refine ⟨⟨hrc, hrs, hR.1, hR.2, pay_in ht hG, hc⟩, ht _ (hG _ hc).1, ok _ (by simp [va_wsS]), ⟨hd.1, hd.2.1⟩, fun sig h => ?_, ok _ (by simp [va_wsS]), ok _ (by simp [va_wsS])⟩
  have h2 := hd.2.2
  rw [h] at h2
  exact (Option.some.inj h2).symm
theorem vx_callSW (X : Stand p l e R s m args below meth c T locs cells slots) (hexec : p.tables.exec = Jvm.exec) {own : String} {index : Nat} {y : MethodName} {bytes : ByteArray} {maxL : Nat} {ret : Option FieldType} {hh : List (Nat × Nat × Nat × Nat)}
    (hown : s.vm.findClass own = some m.cls) (hlink : (Cond.methodLink own index y).before args s = true) (hstat : (Cond.static y).before args s = true) (hinit : (Cond.initialized y.cls).before args s = true)
    (hcode : (Cond.codeWith y bytes maxL ret hh).before args s = true) (hy : y.cls ≠ "java/lang/invoke/MethodHandle" ∧ y.cls ≠ "java/lang/invoke/VarHandle")
    {W9 : Nat} {Pre : Pt → Array Value → Prop} {Post : Pt → Array Value → Option Value → Pt → Prop} (hK : Back l R p e below s args y 3 W9 Pre Post)
    {g : JFrame} (hg : g.method = m) (hsize : g.locals.size = c.maxLocals) {argsL rest : List Value} (hlen : ∀ sig, parseMethodDescriptor y.desc = some sig → argsL.length = sig.parameters.length)
    (hstack : g.stack = argsL.reverse ++ rest) (hW : 2 * g.monitorRoom + (rest.map fun v => v.category).sum ≤ W9) (hdg : decode c.code g.pc = .ok (.invokestatic index, 3))
    (hpre : ∀ vm₁, s.WarmedH vm₁ → Pre ⟨T.setVm vm₁, locs, cells, slots⟩ argsL.toArray) :
    ∃ (v : Option Value) (vm₁ : Vm) (B : Pt), s.WarmedH vm₁ ∧ Stand p l e R s m args below meth c B.U B.locs B.cells B.slots ∧ Post ⟨T.setVm vm₁, locs, cells, slots⟩ argsL.toArray v B ∧
      ∀ target, Steps p.tables e below (B.U.setTop { g with pc := g.pc + 3, stack := v.toList ++ rest }) target → Steps p.tables e below (T.setTop g) target := by
  obtain ⟨mk, methM, cM, hnamed, hmethM, -, -, -, -, -, -, hsigM⟩ := Cond.codeWith_spec hcode
  have hstatic : methM.isStatic = true := Cond.static_spec hnamed hmethM hstat
  obtain ⟨kP, hkP, -⟩ := className_of_methodNamed hnamed
  have hinitP : kP.init = .initialized := Cond.initialized_spec (findClass_of_methodNamed hnamed) hkP hinit
  obtain ⟨vm₁, X₁, hstep₁⟩ := X.invokestatic hexec hown hlink hnamed hmethM hstatic hkP hinitP hy (g := g) hg (argsL := argsL) (rest := rest) (hlen _ hsigM) hstack hdg
  obtain ⟨v, B, X', hpost, hsteps⟩ := hK m meth c ⟨T.setVm vm₁, locs, cells, slots⟩ { g with stack := rest } (.invokestatic index) mk argsL.toArray X₁ hg hsize hdg hW (X₁.named hnamed) (hpre vm₁ X₁.warmed)
  exact ⟨v, vm₁, B, X₁.warmed, X', hpost, fun target h => hstep₁ _ fun acts => by rw [doInvoke_state]; exact hsteps.trans h⟩
theorem vx_runSW {y : MethodName} {bytes cc : ByteArray} {maxL nL mc ms n index : Nat} {ret : Option FieldType} {hh : List (Nat × Nat × Nat × Nat)} {ws : List Cond} {rm : Room} {Pc : Array Value → State → Prop} {Qc : Array Value → State → Outcome → State → Prop} {free : Addr → Prop} {Ts : List Cond} {own : String} {As rest : List Value} {g : JFrame}
    (S : CallFix p m c cc nL s args Ts own) (hM : Met l y ws rm Pc Qc mc ms free) (cw : vx_CSW R s args own index y bytes maxL ret hh ws rm mc ms n) (hp : PreS s H Pc As)
    (hg : g.method = m) (hn : As.length = n) (hsize : g.locals.size = nL) (hstack : g.stack = As.reverse ++ rest) (hW : 2 * g.monitorRoom + (rest.map fun v => v.category).sum ≤ 8) (hdg : decode cc g.pc = .ok (.invokestatic index, 3)) (hf : cells + mc ≤ R.cells ∧ slots + ms ≤ R.slots) :
    va_Run p l e R s m args below meth c H locs cells slots mc ms g rest (Qc As.toArray) (free) := by
  obtain ⟨⟨hrc, hrs, hfr, hlo, hws, hcw⟩, hcode, hini, hy, hlen, hl, hstt⟩ := cw
  have hK : Back l R p e below s args y 3 8 (PreOf R mc ms Pc) (PostOf Qc mc ms free) := va_backW (hh := hh) (bytes := bytes) (maxL := maxL) (ret := ret) hM hp.1 hrc hrs hfr hlo hws hcw (fun a' U hW => word_at hW (Or.inl (by first | rfl | simp [Cond.onTables, Cond.keeps, Cond.steady])) hini)
  obtain ⟨hx, hb, hml, ho, -⟩ := S
  intro T hT X
  obtain ⟨v, vm₁, ⟨U', l2, c2, s2⟩, hW₁, X', ⟨g', mk, t, L, e1, e2, hq, h1, hL, h2, h3⟩, st⟩ := vx_callSW X hx (hh := hh) (bytes := bytes) (maxL := maxL) (ret := ret) ho hl hstt hini hcode hy hK hg (hsize.trans hml.symm) (argsL := As) (rest := rest) (fun sig h => hn.trans (hlen sig h)) hstack hW (by rw [hb]; exact hdg)
    (fun vm₁ hW₁ => ⟨hf.1, hf.2, hp.2 (T.setVm vm₁) hT hW₁⟩)
  dsimp only [Pt.U, Pt.locs, Pt.cells, Pt.slots] at X' e1 e2 h1 h2 h3 st
  subst h1; subst h2; subst h3
  exact ⟨v, (T.setVm vm₁).calling g' mk As.toArray, t, U', L, hT, X', hL, e1, e2, hq, st⟩
/-- not caught here, past rows that name other classes: it goes on to the caller -/
theorem vx_outP {p : Program} {l : Launch} {e : Env} {R : Room} {s : State} {m : MethodId} {args : Array Value} {below : List Frame} {meth : Method} {c : Code} {H : Heap} {locs : List Loc} {cells slots : Nat} {free : Addr → Prop} {ls : Array Slot} {rest : List Value} {Qc : Array Value → State → Outcome → State → Prop} {XC : String → State → State → Prop}
    {pc : Nat} {own E : String} {ce : Cell} {q : Addr} {mc ms : Nat} (hown : s.vm.findClass own = some m.cls) (hlocks : meth.locks = false)
    (hpass : ∀ z ∈ c.exceptionTable.toList, covers z pc = false ∨ (z.catchType ≠ 0 ∧ ∃ nm : String, (Cond.classLink own z.catchType nm).before args s = true ∧ va_Nc E nm s)) (hcell : H[q]? = some ce) (hv : ce.vm = .none) (hcl : s.vm.findClass E = some ce.cls)
    (hx : ∀ t : State, t.heap = H → s.vm.Alike t.vm → XC E s t) (hf : ∀ z ∈ locs, free z.base) (hc : cells ≤ mc) (hs : slots ≤ ms) :
    vx_W p l e R s m args below meth c H locs cells slots (vx_MQ below Qc XC args s mc ms free) (F0 m pc ls rest) q := by
  intro T hT X
  have hpl : e.platform.magicAccessors = ({} : Platform).magicAccessors := by rw [X.admits.platform]
  obtain ⟨vm', hW', X', st⟩ := X.outThrough hlocks q (g := F0 m pc ls rest) rfl rfl rfl (cell := ce) (by rw [hT]; exact hcell) (by rw [hv]; rfl)
    (by obtain ⟨k9, h9, -⟩ := Vm.findClass_spec hcl; exact ⟨k9, h9⟩) (fun z hz => by
      rcases hpass z hz with h | ⟨hz0, nm, hl1, hn1⟩
      · exact Or.inl h
      · obtain ⟨c6, hc6, hcl6⟩ := Cond.classLink_spec hown hl1 e.platform hpl
        obtain ⟨a8, b8, h1, h2, h3⟩ := hn1
        cases Option.some.inj (h1.symm.trans hcl)
        cases Option.some.inj (h2.symm.trans hc6)
        exact Or.inr ⟨hz0, _, hcl6, h3⟩)
  obtain ⟨g₀, hfr⟩ := X'.frames_eq
  have hcell9 : ((T.setVm vm').setFrames (.throwing q :: below)).heap[q]? = some ce := by
    show T.heap[q]? = some ce
    rw [hT]; exact hcell
  have hend : Ended ((T.setVm vm').setFrames (.throwing q :: below)) below (.threw q) := State.frames_setFrames _ (State.cur_lt_of_frames hfr)
  refine ⟨(T.setVm vm').setFrames (.throwing q :: below), ?_, .threw q, X'.here.running, hend, Or.inr ⟨q, rfl, E, ce, locs, hx _ hT (X'.ends _).1.alike, hcell9, hv, hcl, (X'.ends _).1, (X'.ends _).2.mono hc hs, hf⟩⟩
  rw [X.pushThrowing_eq]
  exact st
/-- a thing of a world lies in the heap -/
theorem vx_lt {D : va_G} {cl : List vw_C} {ws : va_W} {H1 : Heap} (h : va_P D cl ws H1) {k : Nat} {q : Nat × va_E} (hk : ws[k]? = some q) : q.1 < H1.size := (h k q hk).lt
end VXS
/-! ===== END ===== -/
/-! ===== BEGIN methods with a table of their own: called by a name, returning or throwing ===== -/
section VXH
/-! vx_backW, vx_callVX, vx_callSX, vx_callVW, vx_runVW, vx_runVX, vx_runSX, vx_ofWH follow the same proofs as their sisters above (Free/Laws.lean, Shelf42/LK1.lean); vx_outP calls Shelf42/NT130.lean (outThrough). -/
section
variable {l : Launch} {R : Room} {p : Program} {e : Env} {below : List Frame} {s : State} {sargs : Array Value} {y : MethodName} {len W9 : Nat}
theorem vx_backW {ws : List Cond} {rm : Room} {Pc : Array Value → State → Prop} {Qc : Array Value → State → Outcome → State → Prop} {XC : String → State → State → Prop} {mc ms : Nat} {free : Addr → Prop} {bytes : ByteArray} {maxL : Nat} {ret : Option FieldType} {hh : List (Nat × Nat × Nat × Nat)}
    (hM : vx_Met l y ws rm Pc Qc XC mc ms free) (hblind : FrameBlind Pc) (hrc : rm.cells = mc) (hrs : rm.slots = ms)
    (hframes : rm.frames + 1 ≤ R.frames) (hlocals : W9 + (maxL + 11) + rm.locals ≤ R.locals)
    (hws : ∀ w ∈ ws, ∀ a' U, s.WarmedH U.vm → w.before a' U = true) (hcode : Cond.codeWith y bytes maxL ret hh ∈ ws) (hinit : ∀ a' U, s.WarmedH U.vm → (Cond.initialized y.cls).before a' U = true) :
    vx_Back l R p e below s sargs y len W9 (PreOf R mc ms Pc) (PostOf Qc mc ms free) (vx_Post XC mc ms free) := by
  intro m meth c A g ig mk a X hg hsize hdg hW hn hp
  have h1 : (headSpec ws rm).pre.before a A.U = true := atoms_intro fun w hw => hws w hw _ _ X.warmed
  have h2 : (Cond.codeWith y bytes maxL ret hh).before a A.U = true := hws _ hcode _ _ X.warmed
  have h3 : (Cond.initialized y.cls).before a A.U = true := hinit _ _ X.warmed
  have h4 : A.cells + (headSpec ws rm).room.cells ≤ R.cells := by rw [show (headSpec ws rm).room.cells = mc from hrc]; exact hp.1
  have h5 : A.slots + (headSpec ws rm).room.slots ≤ R.slots := by rw [show (headSpec ws rm).room.slots = ms from hrs]; exact hp.2.1
  have hPc : Pc a (A.U.calling g mk a) := hblind _ _ _ _ hp.2.2
  obtain ⟨U, Ls, c0, s0⟩ := A
  dsimp only [Pt.U, Pt.locs, Pt.cells, Pt.slots] at h1 h2 h3 h4 h5 X hn hPc ⊢
  obtain ⟨m9, methY, cY, hn9, hmY, hcY, -, hlY, -⟩ := Cond.codeWith_spec h2
  cases Option.some.inj (hn9.symm.trans hn)
  obtain ⟨kY, hkY, -⟩ := className_of_methodNamed hn
  have hinitY : kY.init = .initialized := Cond.initialized_spec (findClass_of_methodNamed hn) hkY h3
  have h : At U g.method c below := by rw [hg]; exact X.here
  have hlocals9 : W9 + (maxL + 11) + (headSpec ws rm).room.locals ≤ R.locals := hlocals
  have happ : (headSpec ws rm).appliesLoose y e.platform (U.calling g mk a) = true :=
    Spec.appliesLoose_calling (g := g) h hdg hn hkY hinitY
      (X.room_calling (g := g) (R' := (headSpec ws rm).room) hsize hmY hcY hframes (by rw [hlY]; omega) h4 h5) h1
  obtain ⟨mid, hmid⟩ := h.above
  have hfr : (U.setTop g).frames = (.java g :: mid) ++ below := by rw [State.frames_setTop' g h.top, hmid]; rfl
  obtain ⟨o, s₂, hsteps, -, hend, hq⟩ := Steps.callFree hM p X.admits X.cas X.clock (acts := []) hfr happ hPc trivial
  have hq' : vx_Q Qc XC mc ms free a (U.calling g mk a) o s₂ := hq
  rw [State.frames_setTop' g h.top] at hend
  obtain ⟨g₀, hg0⟩ := Option.isSome_iff_exists.mp h.top
  obtain ⟨r, hr⟩ := State.topJava?_eq_some.mp hg0
  have hr' : (({ U with heap := s₂.heap, slotsUsed := s₂.slotsUsed } : State).setVm s₂.vm).frames = .java g₀ :: r := hr
  rcases hq' with ⟨hqc, L, hfe, hL⟩ | ⟨q, rfl, E, ce, L, hx, hce, hcv, hcl, hW₂, hsm, hL⟩
  · obtain ⟨⟨v, rfl⟩, hW₂, e2, q2, q3, q4, q5, q6⟩ := id hfe
    have e3 : s₂ = ({ (U.calling g mk a).setFrames s₂.frames with heap := s₂.heap, slotsUsed := s₂.slotsUsed } : State).setVm s₂.vm := by
      have : s₂ = ({ s₂ with vm := (U.calling g mk a).vm } : State).setVm s₂.vm := rfl
      rw [e2] at this
      exact this
    obtain ⟨c₂, i₂, len₂, hc₂, hd₂, hf₂⟩ := hend
    have hW' : U.WarmedH s₂.vm := hW₂
    have hcc : c₂ = c := by
      have h1 : s₂.code? g.method = U.code? g.method := by
        rw [State.code?_eq, State.code?_eq, hW'.alike.method?]
      exact Option.some.inj (hc₂.symm.trans (h1.trans h.code))
    subst hcc
    have hlen : len₂ = len := by rw [hdg] at hd₂; cases hd₂; rfl
    subst hlen
    have hs₂ : s₂ = (({ U with heap := s₂.heap, slotsUsed := s₂.slotsUsed } : State).setVm s₂.vm).setTop { g with pc := g.pc + len₂, stack := v.toList ++ g.stack } := by
      refine e3.trans ?_
      rw [hf₂, State.calling_eq h.top, State.setFrames_setFrames, State.setTop_of_frames _ hr', hr]
      rfl
    have hsame : U.sameButNew ({ U with heap := s₂.heap, slotsUsed := s₂.slotsUsed } : State) L mc ms := by
      refine ⟨?_, q2, q3, q4, q5, q6⟩
      obtain ⟨t, ht, -⟩ := State.frames_cons hr
      show ({ U with heap := s₂.heap, slotsUsed := s₂.slotsUsed } : State) = { U.setFrames U.frames with heap := s₂.heap, slotsUsed := s₂.slotsUsed }
      rw [State.setFrames_self ht]
    subst hg
    refine Or.inl ⟨v, ⟨(({ U with heap := s₂.heap, slotsUsed := s₂.slotsUsed } : State).setVm s₂.vm), Ls ++ L, c0 + mc, s0 + ms⟩,
      ⟨X.admits, X.cas, X.clock, X.frames, X.room, X.hears, X.method, X.code, (X.here.setHeapUsed s₂.heap s₂.slotsUsed).setVm hW'.alike, X.tail, State.WarmedH.trans X.warmed hW', X.limits, X.bytes, X.same.trans (hsame.setVm s.vm)⟩,
      ⟨g, mk, s₂, L, rfl, rfl, hqc, rfl, hL, rfl, rfl⟩, ?_⟩
    show Steps p.tables e below _ ((({ U with heap := s₂.heap, slotsUsed := s₂.slotsUsed } : State).setVm s₂.vm).setTop { g with pc := g.pc + len₂, stack := v.toList ++ g.stack })
    rw [← hs₂]
    exact hsteps
  · obtain ⟨e2, q2, q3, q4, q5, q6⟩ := id hsm
    have e3 : s₂ = ({ (U.calling g mk a).setFrames s₂.frames with heap := s₂.heap, slotsUsed := s₂.slotsUsed } : State).setVm s₂.vm := by
      have : s₂ = ({ s₂ with vm := (U.calling g mk a).vm } : State).setVm s₂.vm := rfl
      rw [e2] at this
      exact this
    have hf₂ : s₂.frames = .throwing q :: .java g :: U.frames.tail := hend
    have hW' : U.WarmedH s₂.vm := hW₂
    have hs₂ : s₂ = ((({ U with heap := s₂.heap, slotsUsed := s₂.slotsUsed } : State).setVm s₂.vm).setTop g).pushFrame (.throwing q) := by
      refine e3.trans ?_
      rw [hf₂, State.calling_eq h.top, State.setFrames_setFrames, State.pushFrame, State.frames_setTop _ hr', State.setTop_of_frames _ hr', State.setFrames_setFrames, hr]
      rfl
    have hsame : U.sameButNew ({ U with heap := s₂.heap, slotsUsed := s₂.slotsUsed } : State) L mc ms := by
      refine ⟨?_, q2, q3, q4, q5, q6⟩
      obtain ⟨t, ht, -⟩ := State.frames_cons hr
      show ({ U with heap := s₂.heap, slotsUsed := s₂.slotsUsed } : State) = { U.setFrames U.frames with heap := s₂.heap, slotsUsed := s₂.slotsUsed }
      rw [State.setFrames_self ht]
    subst hg
    refine Or.inr ⟨q, ⟨(({ U with heap := s₂.heap, slotsUsed := s₂.slotsUsed } : State).setVm s₂.vm), Ls ++ L, c0 + mc, s0 + ms⟩,
      ⟨X.admits, X.cas, X.clock, X.frames, X.room, X.hears, X.method, X.code, (X.here.setHeapUsed s₂.heap s₂.slotsUsed).setVm hW'.alike, X.tail, State.WarmedH.trans X.warmed hW', X.limits, X.bytes, X.same.trans (hsame.setVm s.vm)⟩,
      ⟨g, mk, s₂, L, E, ce, rfl, rfl, hx, hce, hcv, hcl, rfl, hL, rfl, rfl⟩, ?_⟩
    show Steps p.tables e below _ (((({ U with heap := s₂.heap, slotsUsed := s₂.slotsUsed } : State).setVm s₂.vm).setTop g).pushFrame (.throwing q))
    rw [← hs₂]
    exact hsteps
end
variable {p : Program} {l : Launch} {e : Env} {R : Room} {s : State} {m : MethodId} {args : Array Value} {below : List Frame} {meth : Method} {c : Code} {T : State} {H : Heap} {locs : List Loc} {cells slots : Nat}
theorem vx_callVX (X : Stand p l e R s m args below meth c T locs cells slots) (hexec : p.tables.exec = Jvm.exec) {own C : String} {index : Nat} {y : MethodName} {bytes : ByteArray} {maxL : Nat} {ret : Option FieldType} {hh : List (Nat × Nat × Nat × Nat)}
    (hown : s.vm.findClass own = some m.cls) (hlink : (Cond.methodLink own index y).before args s = true) (hinst : (Cond.instanceMethod y).before args s = true) (hsel : (Cond.selects C y y).before args s = true)
    (hcode : (Cond.codeWith y bytes maxL ret hh).before args s = true) (hy : y.cls ≠ "java/lang/invoke/MethodHandle" ∧ y.cls ≠ "java/lang/invoke/VarHandle")
    {W9 : Nat} {Pre : Pt → Array Value → Prop} {Post : Pt → Array Value → Option Value → Pt → Prop} {PostX : Pt → Array Value → Addr → Pt → Prop} (hK : vx_Back l R p e below s args y 3 W9 Pre Post PostX)
    {b : Addr} {cellB : Cell} (hcell : T.heap[b]? = some cellB) (hobj : cellB.vm.isStatics = false) (hcls : s.vm.findClass C = some cellB.cls)
    {g : JFrame} (hg : g.method = m) (hsize : g.locals.size = c.maxLocals) {argsL rest : List Value} (hlen : ∀ sig, parseMethodDescriptor y.desc = some sig → argsL.length = sig.parameters.length)
    (hstack : g.stack = argsL.reverse ++ .ref b :: rest) (hW : 2 * g.monitorRoom + (rest.map fun v => v.category).sum ≤ W9) (hdg : decode c.code g.pc = .ok (.invokevirtual index, 3))
    (hpre : ∀ vm₁, s.WarmedH vm₁ → Pre ⟨T.setVm vm₁, locs, cells, slots⟩ (Value.ref b :: argsL).toArray) :
    (∃ (v : Option Value) (vm₁ : Vm) (B : Pt), s.WarmedH vm₁ ∧ Stand p l e R s m args below meth c B.U B.locs B.cells B.slots ∧ Post ⟨T.setVm vm₁, locs, cells, slots⟩ (Value.ref b :: argsL).toArray v B ∧
      ∀ target, Steps p.tables e below (B.U.setTop { g with pc := g.pc + 3, stack := v.toList ++ rest }) target → Steps p.tables e below (T.setTop g) target) ∨
    (∃ (q : Addr) (vm₁ : Vm) (B : Pt), s.WarmedH vm₁ ∧ Stand p l e R s m args below meth c B.U B.locs B.cells B.slots ∧ PostX ⟨T.setVm vm₁, locs, cells, slots⟩ (Value.ref b :: argsL).toArray q B ∧
      Steps p.tables e below (T.setTop g) ((B.U.setTop { g with stack := rest }).pushFrame (.throwing q))) := by
  obtain ⟨mk, methM, hnamed, hmethM, hstM, habM⟩ := Cond.instanceMethod_spec hinst
  obtain ⟨m8, methM', cM, hn8, hmethM', -, -, -, -, -, -, hsigM⟩ := Cond.codeWith_spec hcode
  cases Option.some.inj (hn8.symm.trans hnamed)
  cases hmethM.symm.trans hmethM'
  obtain ⟨c2, r2, m2, q1, q2, q3, q4, kP, hkP, hkPi⟩ := Cond.selects_spec hsel
  cases hcls.symm.trans q1
  cases (State.methodFound?_of_named hnamed hy).symm.trans q2
  cases hnamed.symm.trans q3
  have hselP : selectMethod e.platform s.vm cellB.cls mk = .method mk := by rw [Launch.admits_selectMethod X.admits]; exact q4
  obtain ⟨vm₁, X₁, hstep₁⟩ := X.invokevirtual hexec hown hlink hnamed hmethM hstM hkP hkPi hy (a := b) (cell := cellB) hcell
    (fun z h => by rw [h] at hobj; cases hobj) hselP hmethM habM hkP hkPi (g := g) hg (argsL := argsL) (rest := rest) (hlen _ hsigM) hstack hdg
  rcases hK m meth c ⟨T.setVm vm₁, locs, cells, slots⟩ { g with stack := rest } (.invokevirtual index) mk (Value.ref b :: argsL).toArray X₁ hg hsize hdg hW (X₁.named hnamed) (hpre vm₁ X₁.warmed) with ⟨v, B, X', hpost, hsteps⟩ | ⟨q, B, X', hpost, hsteps⟩
  · exact Or.inl ⟨v, vm₁, B, X₁.warmed, X', hpost, fun target h => hstep₁ _ fun acts => by rw [doInvoke_state]; exact hsteps.trans h⟩
  · exact Or.inr ⟨q, vm₁, B, X₁.warmed, X', hpost, hstep₁ _ fun acts => by rw [doInvoke_state]; exact hsteps⟩
theorem vx_callSX (X : Stand p l e R s m args below meth c T locs cells slots) (hexec : p.tables.exec = Jvm.exec) {own : String} {index : Nat} {y : MethodName} {bytes : ByteArray} {maxL : Nat} {ret : Option FieldType} {hh : List (Nat × Nat × Nat × Nat)}
    (hown : s.vm.findClass own = some m.cls) (hlink : (Cond.methodLink own index y).before args s = true) (hstat : (Cond.static y).before args s = true) (hinit : (Cond.initialized y.cls).before args s = true)
    (hcode : (Cond.codeWith y bytes maxL ret hh).before args s = true) (hy : y.cls ≠ "java/lang/invoke/MethodHandle" ∧ y.cls ≠ "java/lang/invoke/VarHandle")
    {W9 : Nat} {Pre : Pt → Array Value → Prop} {Post : Pt → Array Value → Option Value → Pt → Prop} {PostX : Pt → Array Value → Addr → Pt → Prop} (hK : vx_Back l R p e below s args y 3 W9 Pre Post PostX)
    {g : JFrame} (hg : g.method = m) (hsize : g.locals.size = c.maxLocals) {argsL rest : List Value} (hlen : ∀ sig, parseMethodDescriptor y.desc = some sig → argsL.length = sig.parameters.length)
    (hstack : g.stack = argsL.reverse ++ rest) (hW : 2 * g.monitorRoom + (rest.map fun v => v.category).sum ≤ W9) (hdg : decode c.code g.pc = .ok (.invokestatic index, 3))
    (hpre : ∀ vm₁, s.WarmedH vm₁ → Pre ⟨T.setVm vm₁, locs, cells, slots⟩ argsL.toArray) :
    (∃ (v : Option Value) (vm₁ : Vm) (B : Pt), s.WarmedH vm₁ ∧ Stand p l e R s m args below meth c B.U B.locs B.cells B.slots ∧ Post ⟨T.setVm vm₁, locs, cells, slots⟩ argsL.toArray v B ∧
      ∀ target, Steps p.tables e below (B.U.setTop { g with pc := g.pc + 3, stack := v.toList ++ rest }) target → Steps p.tables e below (T.setTop g) target) ∨
    (∃ (q : Addr) (vm₁ : Vm) (B : Pt), s.WarmedH vm₁ ∧ Stand p l e R s m args below meth c B.U B.locs B.cells B.slots ∧ PostX ⟨T.setVm vm₁, locs, cells, slots⟩ argsL.toArray q B ∧
      Steps p.tables e below (T.setTop g) ((B.U.setTop { g with stack := rest }).pushFrame (.throwing q))) := by
  obtain ⟨mk, methM, cM, hnamed, hmethM, -, -, -, -, -, -, hsigM⟩ := Cond.codeWith_spec hcode
  have hstatic : methM.isStatic = true := Cond.static_spec hnamed hmethM hstat
  obtain ⟨kP, hkP, -⟩ := className_of_methodNamed hnamed
  have hinitP : kP.init = .initialized := Cond.initialized_spec (findClass_of_methodNamed hnamed) hkP hinit
  obtain ⟨vm₁, X₁, hstep₁⟩ := X.invokestatic hexec hown hlink hnamed hmethM hstatic hkP hinitP hy (g := g) hg (argsL := argsL) (rest := rest) (hlen _ hsigM) hstack hdg
  rcases hK m meth c ⟨T.setVm vm₁, locs, cells, slots⟩ { g with stack := rest } (.invokestatic index) mk argsL.toArray X₁ hg hsize hdg hW (X₁.named hnamed) (hpre vm₁ X₁.warmed) with ⟨v, B, X', hpost, hsteps⟩ | ⟨q, B, X', hpost, hsteps⟩
  · exact Or.inl ⟨v, vm₁, B, X₁.warmed, X', hpost, fun target h => hstep₁ _ fun acts => by rw [doInvoke_state]; exact hsteps.trans h⟩
  · exact Or.inr ⟨q, vm₁, B, X₁.warmed, X', hpost, hstep₁ _ fun acts => by rw [doInvoke_state]; exact hsteps⟩
theorem vx_callVW (X : Stand p l e R s m args below meth c T locs cells slots) (hexec : p.tables.exec = Jvm.exec) {own C : String} {index : Nat} {y : MethodName} {bytes : ByteArray} {maxL : Nat} {ret : Option FieldType} {hh : List (Nat × Nat × Nat × Nat)}
    (hown : s.vm.findClass own = some m.cls) (hlink : (Cond.methodLink own index y).before args s = true) (hinst : (Cond.instanceMethod y).before args s = true) (hsel : (Cond.selects C y y).before args s = true)
    (hcode : (Cond.codeWith y bytes maxL ret hh).before args s = true) (hy : y.cls ≠ "java/lang/invoke/MethodHandle" ∧ y.cls ≠ "java/lang/invoke/VarHandle")
    {W9 : Nat} {Pre : Pt → Array Value → Prop} {Post : Pt → Array Value → Option Value → Pt → Prop} (hK : Back l R p e below s args y 3 W9 Pre Post)
    {b : Addr} {cellB : Cell} (hcell : T.heap[b]? = some cellB) (hobj : cellB.vm.isStatics = false) (hcls : s.vm.findClass C = some cellB.cls)
    {g : JFrame} (hg : g.method = m) (hsize : g.locals.size = c.maxLocals) {argsL rest : List Value} (hlen : ∀ sig, parseMethodDescriptor y.desc = some sig → argsL.length = sig.parameters.length)
    (hstack : g.stack = argsL.reverse ++ .ref b :: rest) (hW : 2 * g.monitorRoom + (rest.map fun v => v.category).sum ≤ W9) (hdg : decode c.code g.pc = .ok (.invokevirtual index, 3))
    (hpre : ∀ vm₁, s.WarmedH vm₁ → Pre ⟨T.setVm vm₁, locs, cells, slots⟩ (Value.ref b :: argsL).toArray) :
    ∃ (v : Option Value) (vm₁ : Vm) (B : Pt), s.WarmedH vm₁ ∧ Stand p l e R s m args below meth c B.U B.locs B.cells B.slots ∧ Post ⟨T.setVm vm₁, locs, cells, slots⟩ (Value.ref b :: argsL).toArray v B ∧
      ∀ target, Steps p.tables e below (B.U.setTop { g with pc := g.pc + 3, stack := v.toList ++ rest }) target → Steps p.tables e below (T.setTop g) target := by
  obtain ⟨mk, methM, hnamed, hmethM, hstM, habM⟩ := Cond.instanceMethod_spec hinst
  obtain ⟨m8, methM', cM, hn8, hmethM', -, -, -, -, -, -, hsigM⟩ := Cond.codeWith_spec hcode
  cases Option.some.inj (hn8.symm.trans hnamed)
  cases hmethM.symm.trans hmethM'
  obtain ⟨c2, r2, m2, q1, q2, q3, q4, kP, hkP, hkPi⟩ := Cond.selects_spec hsel
  cases hcls.symm.trans q1
  cases (State.methodFound?_of_named hnamed hy).symm.trans q2
  cases hnamed.symm.trans q3
  have hselP : selectMethod e.platform s.vm cellB.cls mk = .method mk := by rw [Launch.admits_selectMethod X.admits]; exact q4
  obtain ⟨vm₁, X₁, hstep₁⟩ := X.invokevirtual hexec hown hlink hnamed hmethM hstM hkP hkPi hy (a := b) (cell := cellB) hcell
    (fun z h => by rw [h] at hobj; cases hobj) hselP hmethM habM hkP hkPi (g := g) hg (argsL := argsL) (rest := rest) (hlen _ hsigM) hstack hdg
  obtain ⟨v, B, X', hpost, hsteps⟩ := hK m meth c ⟨T.setVm vm₁, locs, cells, slots⟩ { g with stack := rest } (.invokevirtual index) mk (Value.ref b :: argsL).toArray X₁ hg hsize hdg hW (X₁.named hnamed) (hpre vm₁ X₁.warmed)
  exact ⟨v, vm₁, B, X₁.warmed, X', hpost, fun target h => hstep₁ _ fun acts => by rw [doInvoke_state]; exact hsteps.trans h⟩
abbrev vx_CVW (R : Room) (s : State) (args : Array Value) (own C : String) (index : Nat) (y : MethodName) (bytes : ByteArray) (maxL : Nat) (ret : Option FieldType) (hh : List (Nat × Nat × Nat × Nat)) (ws : List Cond) (rm : Room) (mc ms n : Nat) : Prop :=
  (rm.cells = mc ∧ rm.slots = ms ∧ rm.frames + 1 ≤ R.frames ∧ 8 + (maxL + 11) + rm.locals ≤ R.locals ∧ (∀ w ∈ ws, ∀ (a' : Array Value) (U : State), s.WarmedH U.vm → w.before a' U = true) ∧ Cond.codeWith y bytes maxL ret hh ∈ ws) ∧
  (Cond.codeWith y bytes maxL ret hh).before args s = true ∧ (Cond.initialized y.cls).before args s = true ∧ (y.cls ≠ "java/lang/invoke/MethodHandle" ∧ y.cls ≠ "java/lang/invoke/VarHandle") ∧
  (∀ sig, parseMethodDescriptor y.desc = some sig → n = sig.parameters.length) ∧ (Cond.methodLink own index y).before args s = true ∧ (Cond.instanceMethod y).before args s = true ∧ (Cond.selects C y y).before args s = true
theorem vx_cwVW {own C : String} {index maxL mc ms : Nat} {y : MethodName} {bytes : ByteArray} {ret : Option FieldType} {hh : List (Nat × Nat × Nat × Nat)} {Ts ws ws' : List Cond} {rm : Room} (n : Nat) (ht : ∀ w ∈ Ts, w.before args s = true) (hT : GoodIn Ts (wsV own index C y ws)) (hw : ws = Cond.codeWith y bytes maxL ret hh :: ws') (hrc : rm.cells = mc) (hrs : rm.slots = ms)
    (hd : y.cls = C ∧ y.cls ≠ "java/lang/invoke/MethodHandle" ∧ y.cls ≠ "java/lang/invoke/VarHandle" ∧ (parseMethodDescriptor y.desc).map (fun d => d.parameters.length) = some n) (hR : rm.frames + 1 ≤ R.frames ∧ 8 + (maxL + 11) + rm.locals ≤ R.locals) :
    vx_CVW R s args own C index y bytes maxL ret hh ws rm mc ms n := by
  obtain ⟨hC, hd⟩ := hd
  subst hC
  have ok : ∀ w ∈ wsV own index y.cls y ws, w.before args s = true := fun w h => ht w (hT w h).1
  have hG : GoodIn Ts ws := fun w h => hT w (by unfold wsV; exact List.mem_append_right _ h)
  have hc : Cond.codeWith y bytes maxL ret hh ∈ ws := by rw [hw]; exact List.mem_cons_self
  refine ⟨⟨hrc, hrs, hR.1, hR.2, pay_in ht hG, hc⟩, ht _ (hG _ hc).1, ok _ (by simp [wsV]), ⟨hd.1, hd.2.1⟩, fun sig h => ?_, ok _ (by simp [wsV]), ok _ (by simp [wsV]), ok _ (by simp [wsV])⟩
  have h2 := hd.2.2
  rw [h] at h2
  exact (Option.some.inj h2).symm
theorem vx_runVW {y : MethodName} {bytes cc : ByteArray} {maxL nL mc ms n index : Nat} {ret : Option FieldType} {hh : List (Nat × Nat × Nat × Nat)} {ws : List Cond} {rm : Room} {Pc : Array Value → State → Prop} {Qc : Array Value → State → Outcome → State → Prop} {free : Addr → Prop} {Ts : List Cond} {own C : String} {b : Addr} {As rest : List Value} {g : JFrame}
    (S : CallFix p m c cc nL s args Ts own) (hM : Met l y ws rm Pc Qc mc ms free) (cw : vx_CVW R s args own C index y bytes maxL ret hh ws rm mc ms n) (hp : PreV s H C b Pc As)
    (hg : g.method = m) (hn : As.length = n) (hsize : g.locals.size = nL) (hstack : g.stack = As.reverse ++ .ref b :: rest) (hW : 2 * g.monitorRoom + (rest.map fun v => v.category).sum ≤ 8) (hdg : decode cc g.pc = .ok (.invokevirtual index, 3)) (hf : cells + mc ≤ R.cells ∧ slots + ms ≤ R.slots) :
    va_Run p l e R s m args below meth c H locs cells slots mc ms g rest (Qc (Value.ref b :: As).toArray) free := by
  obtain ⟨⟨hrc, hrs, hfr, hlo, hws, hcw⟩, hcode, hini, hy, hlen, hl, hin, hse⟩ := cw
  have hK : Back l R p e below s args y 3 8 (PreOf R mc ms Pc) (PostOf Qc mc ms free) := va_backW (hh := hh) (bytes := bytes) (maxL := maxL) (ret := ret) hM hp.1 hrc hrs hfr hlo hws hcw (fun a' U hW => word_at hW (Or.inl (by first | rfl | simp [Cond.onTables, Cond.keeps, Cond.steady])) hini)
  obtain ⟨hx, hb, hml, ho, -⟩ := S
  obtain ⟨-, ⟨cellB, hcB, hoB, hclB⟩, hPc⟩ := hp
  intro T hT X
  obtain ⟨v, vm₁, ⟨U', l2, c2, s2⟩, hW₁, X', ⟨g', mk, t, L, e1, e2, hq, h1, hL, h2, h3⟩, st⟩ := vx_callVW X hx (C := C) (hh := hh) (bytes := bytes) (maxL := maxL) (ret := ret) ho hl hin hse hcode hy hK (by rw [hT]; exact hcB) hoB hclB hg (hsize.trans hml.symm) (argsL := As) (rest := rest) (fun sig h => hn.trans (hlen sig h)) hstack hW (by rw [hb]; exact hdg)
    (fun vm₁ hW₁ => ⟨hf.1, hf.2, hPc (T.setVm vm₁) hT hW₁⟩)
  dsimp only [Pt.U, Pt.locs, Pt.cells, Pt.slots] at X' e1 e2 h1 h2 h3 st
  subst h1; subst h2; subst h3
  exact ⟨v, (T.setVm vm₁).calling g' mk (Value.ref b :: As).toArray, t, U', L, hT, X', hL, e1, e2, hq, st⟩
section
variable {y : MethodName} {bytes cc : ByteArray} {maxL nL mc ms n index : Nat} {ret : Option FieldType} {ws : List Cond} {rm : Room} {Pc : Array Value → State → Prop} {Qc : Array Value → State → Outcome → State → Prop} {XC : String → State → State → Prop} {free : Addr → Prop} {Ts : List Cond} {own C : String} {b : Addr} {As rest : List Value} {g : JFrame}
theorem vx_runVX {hh : List (Nat × Nat × Nat × Nat)} (S : CallFix p m c cc nL s args Ts own) (hM : vx_Met l y ws rm Pc Qc XC mc ms free) (cw : vx_CVW R s args own C index y bytes maxL ret hh ws rm mc ms n) (hp : PreV s H C b Pc As)
    (hg : g.method = m) (hn : As.length = n) (hsize : g.locals.size = nL) (hstack : g.stack = As.reverse ++ .ref b :: rest) (hW : 2 * g.monitorRoom + (rest.map fun v => v.category).sum ≤ 8) (hdg : decode cc g.pc = .ok (.invokevirtual index, 3)) (hf : cells + mc ≤ R.cells ∧ slots + ms ≤ R.slots) :
    vx_Run p l e R s m args below meth c H locs cells slots mc ms g rest (Qc (Value.ref b :: As).toArray) XC free := by
  obtain ⟨⟨hrc, hrs, hfr, hlo, hws, hcw⟩, hcode, hini, hy, hlen, hl, hin, hse⟩ := cw
  have hK : vx_Back l R p e below s args y 3 8 (PreOf R mc ms Pc) (PostOf Qc mc ms free) (vx_Post XC mc ms free) := vx_backW (hh := hh) (bytes := bytes) (maxL := maxL) (ret := ret) hM hp.1 hrc hrs hfr hlo hws hcw (fun a' U hW => word_at hW (Or.inl (by first | rfl | simp [Cond.onTables, Cond.keeps, Cond.steady])) hini)
  obtain ⟨hx, hb, hml, ho, -⟩ := S
  obtain ⟨-, ⟨cellB, hcB, hoB, hclB⟩, hPc⟩ := hp
  intro T hT X
  rcases vx_callVX X hx (C := C) (hh := hh) (bytes := bytes) (maxL := maxL) (ret := ret) ho hl hin hse hcode hy hK (by rw [hT]; exact hcB) hoB hclB hg (hsize.trans hml.symm) (argsL := As) (rest := rest) (fun sig h => hn.trans (hlen sig h)) hstack hW (by rw [hb]; exact hdg)
    (fun vm₁ hW₁ => ⟨hf.1, hf.2, hPc (T.setVm vm₁) hT hW₁⟩) with ⟨v, vm₁, ⟨U', l2, c2, s2⟩, hW₁, X', ⟨g', mk, t, L, e1, e2, hq, h1, hL, h2, h3⟩, st⟩ | ⟨q, vm₁, ⟨U', l2, c2, s2⟩, hW₁, X', ⟨g', mk, t, L, E, ce, e1, e2, hq, hce, hcv, hcl, h1, hL, h2, h3⟩, st⟩
  · dsimp only [Pt.U, Pt.locs, Pt.cells, Pt.slots] at X' e1 e2 h1 h2 h3 st
    subst h1; subst h2; subst h3
    exact Or.inl ⟨v, (T.setVm vm₁).calling g' mk (Value.ref b :: As).toArray, t, U', L, hT, X', hL, e1, e2, hq, st⟩
  · dsimp only [Pt.U, Pt.locs, Pt.cells, Pt.slots] at X' e1 e2 h1 h2 h3 st hcl
    subst h1; subst h2; subst h3
    exact Or.inr ⟨q, (T.setVm vm₁).calling g' mk (Value.ref b :: As).toArray, t, U', L, E, ce, hT, X', hL, e1, e2, hq, hce, hcv, vx_cls hW₁ hcl, st⟩
theorem vx_runSX {hh : List (Nat × Nat × Nat × Nat)} (S : CallFix p m c cc nL s args Ts own) (hM : vx_Met l y ws rm Pc Qc XC mc ms free) (cw : vx_CSW R s args own index y bytes maxL ret hh ws rm mc ms n) (hp : PreS s H Pc As)
    (hg : g.method = m) (hn : As.length = n) (hsize : g.locals.size = nL) (hstack : g.stack = As.reverse ++ rest) (hW : 2 * g.monitorRoom + (rest.map fun v => v.category).sum ≤ 8) (hdg : decode cc g.pc = .ok (.invokestatic index, 3)) (hf : cells + mc ≤ R.cells ∧ slots + ms ≤ R.slots) :
    vx_Run p l e R s m args below meth c H locs cells slots mc ms g rest (Qc As.toArray) XC free := by
  obtain ⟨⟨hrc, hrs, hfr, hlo, hws, hcw⟩, hcode, hini, hy, hlen, hl, hstt⟩ := cw
  have hK : vx_Back l R p e below s args y 3 8 (PreOf R mc ms Pc) (PostOf Qc mc ms free) (vx_Post XC mc ms free) := vx_backW (hh := hh) (bytes := bytes) (maxL := maxL) (ret := ret) hM hp.1 hrc hrs hfr hlo hws hcw (fun a' U hW => word_at hW (Or.inl (by first | rfl | simp [Cond.onTables, Cond.keeps, Cond.steady])) hini)
  obtain ⟨hx, hb, hml, ho, -⟩ := S
  intro T hT X
  rcases vx_callSX X hx (hh := hh) (bytes := bytes) (maxL := maxL) (ret := ret) ho hl hstt hini hcode hy hK hg (hsize.trans hml.symm) (argsL := As) (rest := rest) (fun sig h => hn.trans (hlen sig h)) hstack hW (by rw [hb]; exact hdg)
    (fun vm₁ hW₁ => ⟨hf.1, hf.2, hp.2 (T.setVm vm₁) hT hW₁⟩) with ⟨v, vm₁, ⟨U', l2, c2, s2⟩, hW₁, X', ⟨g', mk, t, L, e1, e2, hq, h1, hL, h2, h3⟩, st⟩ | ⟨q, vm₁, ⟨U', l2, c2, s2⟩, hW₁, X', ⟨g', mk, t, L, E, ce, e1, e2, hq, hce, hcv, hcl, h1, hL, h2, h3⟩, st⟩
  · dsimp only [Pt.U, Pt.locs, Pt.cells, Pt.slots] at X' e1 e2 h1 h2 h3 st
    subst h1; subst h2; subst h3
    exact Or.inl ⟨v, (T.setVm vm₁).calling g' mk As.toArray, t, U', L, hT, X', hL, e1, e2, hq, st⟩
  · dsimp only [Pt.U, Pt.locs, Pt.cells, Pt.slots] at X' e1 e2 h1 h2 h3 st hcl
    subst h1; subst h2; subst h3
    exact Or.inr ⟨q, (T.setVm vm₁).calling g' mk As.toArray, t, U', L, E, ce, hT, X', hL, e1, e2, hq, hce, hcv, vx_cls hW₁ hcl, st⟩
end
end VXH
theorem vx_ofWH {l : Launch} {y : MethodName} {ws ws' : List Cond} {rm : Room} {Pc : Array Value → State → Prop} {Qc : Array Value → State → Outcome → State → Prop} {XC : String → State → State → Prop} {mc ms : Nat} {free : Addr → Prop} {cc : ByteArray} {maxL : Nat} {ret : Option FieldType} {hh : List (Nat × Nat × Nat × Nat)}
    (hy : plainName y.cls = true) (hw : ws = Cond.codeWith y cc maxL ret hh :: ws')
    (body : ∀ p e s m args below meth c s₁, BodyLoose p l y (headSpec ws rm) cc maxL ret e s m args below meth c s₁ → c.maxLocals = maxL → Pc args s →
      W p l e (headSpec ws rm).room s m args below meth c s.heap [] 0 0 (vx_MQ below Qc XC args s mc ms free) (entryFrame m args maxL)) : vx_Met l y ws rm Pc Qc XC mc ms free := by
  refine MetFree.of_bodyS (code := cc) (maxLocals := maxL) (ret := ret) hy ?_ ?_
  · intro args s m h hn
    obtain ⟨m9, meth, c, hn9, h1, h2, h3, h4, -, h5, h6, -⟩ := Cond.codeWith_spec (atoms_spec (ws := ws) h _ (by rw [hw]; exact List.mem_cons_self))
    cases hn.symm.trans hn9
    exact ⟨meth, c, h1, h2, h3, h4, h5, h6⟩
  · intro p e s m args below meth c s₁ B hml hP _
    have hh0 : s₁.heap = s.heap := by rw [B.state]; rfl
    obtain ⟨t, a1, o, b1, b2, b3⟩ := body p e s m args below meth c s₁ B hml hP s₁ hh0 (Stand.of_body B)
    exact ⟨t, o, a1, b1, b2, b3⟩
/-! ===== END ===== -/
end
section
/-! names, fields (printed by program) -/
def RX0 : String := "CandleRooms$DeedText"
def TX0 : u_T := fun k => match k with
  | 0 => ("CandleRooms$DeedText", "codes", "[C", true)
  | _ => ("CandleRooms$DeedText", "length", "I", false)
def tyX0 : Nat → FieldType := fun k => match k with
  | 0 => .array .char
  | _ => .int
abbrev wsX00 : List Cond := u_ws RX0 TX0 2
theorem nmX0 : ∀ a, a < 2 → ∀ b, b < 2 → a ≠ b → (TX0 a).2.1 ≠ (TX0 b).2.1 := by decide +kernel
theorem tyX0_ok : ∀ k, k < 2 → parseFieldDescriptor (TX0 k).2.2.1 = some (tyX0 k) := by decide +kernel
abbrev cX0_init : ByteArray := prog_2_method_1_code
def yX0_init : MethodName := ⟨RX0, "<init>", "()V"⟩
abbrev cX0_isFull : ByteArray := prog_2_method_2_code
def yX0_isFull : MethodName := ⟨RX0, "isFull", "()Z"⟩
abbrev cX0_add : ByteArray := prog_2_method_3_code
def yX0_add : MethodName := ⟨RX0, "add", "(C)I"⟩
abbrev cX0_empty : ByteArray := prog_2_method_4_code
def yX0_empty : MethodName := ⟨RX0, "empty", "()I"⟩
abbrev cX0_codeAt : ByteArray := prog_2_method_5_code
def yX0_codeAt : MethodName := ⟨RX0, "codeAt", "(I)I"⟩
abbrev cX0_isDigit : ByteArray := prog_2_method_6_code
def yX0_isDigit : MethodName := ⟨RX0, "isDigit", "(III)Z"⟩
abbrev cX0_digitAt : ByteArray := prog_2_method_7_code
def yX0_digitAt : MethodName := ⟨RX0, "digitAt", "(I)I"⟩
abbrev cX0_numberFrom : ByteArray := prog_2_method_8_code
def yX0_numberFrom : MethodName := ⟨RX0, "numberFrom", "(I)I"⟩
abbrev cX0_startsPart : ByteArray := prog_2_method_9_code
def yX0_startsPart : MethodName := ⟨RX0, "startsPart", "(I)Z"⟩
abbrev cX0_errorPlace : ByteArray := prog_2_method_10_code
def yX0_errorPlace : MethodName := ⟨RX0, "errorPlace", "()I"⟩
abbrev cX0_isComplete : ByteArray := prog_2_method_11_code
def yX0_isComplete : MethodName := ⟨RX0, "isComplete", "()Z"⟩
abbrev cX0_stateBehind : ByteArray := prog_2_method_12_code
def yX0_stateBehind : MethodName := ⟨RX0, "stateBehind", "(II)I"⟩
abbrev cX0_stateBehindSign : ByteArray := prog_2_method_13_code
def yX0_stateBehindSign : MethodName := ⟨RX0, "stateBehindSign", "(I)I"⟩
def RX1 : String := "CandleRooms$Room"
def TX1 : u_T := fun k => match k with
  | 0 => ("CandleRooms$Room", "keys", "[I", true)
  | 1 => ("CandleRooms$Room", "dark", "[I", true)
  | 2 => ("CandleRooms$Room", "things", "I", false)
  | 3 => ("CandleRooms$Room", "length", "I", false)
  | 4 => ("CandleRooms$Room", "burns", "Z", false)
  | 5 => ("CandleRooms$Room", "wick", "I", false)
  | 6 => ("CandleRooms$Room", "hasShield", "Z", false)
  | 7 => ("CandleRooms$Room", "doorIsOpen", "Z", false)
  | _ => ("CandleRooms$Room", "beatsBurnt", "I", false)
def tyX1 : Nat → FieldType := fun k => match k with
  | 0 => .array .int
  | 1 => .array .int
  | 2 => .int
  | 3 => .int
  | 4 => .boolean
  | 5 => .int
  | 6 => .boolean
  | 7 => .boolean
  | _ => .int
abbrev wsX10 : List Cond := u_ws RX1 TX1 9
theorem nmX1 : ∀ a, a < 9 → ∀ b, b < 9 → a ≠ b → (TX1 a).2.1 ≠ (TX1 b).2.1 := by decide +kernel
theorem tyX1_ok : ∀ k, k < 9 → parseFieldDescriptor (TX1 k).2.2.1 = some (tyX1 k) := by decide +kernel
abbrev cX1_init : ByteArray := prog_3_method_1_code
def yX1_init : MethodName := ⟨RX1, "<init>", "()V"⟩
abbrev cX1_copyRoom : ByteArray := prog_3_method_2_code
def yX1_copyRoom : MethodName := ⟨RX1, "copyRoom", "(LCandleRooms$Room;)V"⟩
abbrev cX1_number : ByteArray := prog_3_method_3_code
def yX1_number : MethodName := ⟨RX1, "number", "(I)I"⟩
abbrev cX1_keyAt : ByteArray := prog_3_method_4_code
def yX1_keyAt : MethodName := ⟨RX1, "keyAt", "(I)I"⟩
abbrev cX1_darkAt : ByteArray := prog_3_method_5_code
def yX1_darkAt : MethodName := ⟨RX1, "darkAt", "(I)I"⟩
abbrev cX1_placeOf : ByteArray := prog_3_method_6_code
def yX1_placeOf : MethodName := ⟨RX1, "placeOf", "(I)I"⟩
abbrev cX1_addThing : ByteArray := prog_3_method_7_code
def yX1_addThing : MethodName := ⟨RX1, "addThing", "(I)V"⟩
abbrev cX1_takeNewCandle : ByteArray := prog_3_method_8_code
def yX1_takeNewCandle : MethodName := ⟨RX1, "takeNewCandle", "()V"⟩
abbrev cX1_burntInBeat : ByteArray := prog_3_method_9_code
def yX1_burntInBeat : MethodName := ⟨RX1, "burntInBeat", "(I)I"⟩
abbrev cX1_burnForBeat : ByteArray := prog_3_method_10_code
def yX1_burnForBeat : MethodName := ⟨RX1, "burnForBeat", "()V"⟩
abbrev cX1_beatsUntrimmed : ByteArray := prog_3_method_11_code
def yX1_beatsUntrimmed : MethodName := ⟨RX1, "beatsUntrimmed", "()I"⟩
abbrev cX1_beatsSaved : ByteArray := prog_3_method_12_code
def yX1_beatsSaved : MethodName := ⟨RX1, "beatsSaved", "()I"⟩
abbrev cX1_ageThings : ByteArray := prog_3_method_13_code
def yX1_ageThings : MethodName := ⟨RX1, "ageThings", "(I)I"⟩
abbrev cX1_beatsToFirstForgotten : ByteArray := prog_3_method_14_code
def yX1_beatsToFirstForgotten : MethodName := ⟨RX1, "beatsToFirstForgotten", "(II)I"⟩
def RX2 : String := "CandleRooms$SavedStores"
def TX2 : u_T := fun k => match k with
  | 0 => ("CandleRooms$SavedStores", "rows", "[LCandleRooms$Store;", true)
  | _ => ("CandleRooms$SavedStores", "size", "I", false)
def tyX2 : Nat → FieldType := fun k => match k with
  | 0 => .array (.object "CandleRooms$Store")
  | _ => .int
abbrev wsX20 : List Cond := u_ws RX2 TX2 2
theorem nmX2 : ∀ a, a < 2 → ∀ b, b < 2 → a ≠ b → (TX2 a).2.1 ≠ (TX2 b).2.1 := by decide +kernel
theorem tyX2_ok : ∀ k, k < 2 → parseFieldDescriptor (TX2 k).2.2.1 = some (tyX2 k) := by decide +kernel
abbrev cX2_init : ByteArray := prog_4_method_1_code
def yX2_init : MethodName := ⟨RX2, "<init>", "()V"⟩
abbrev cX2_push : ByteArray := prog_4_method_2_code
def yX2_push : MethodName := ⟨RX2, "push", "(LCandleRooms$Store;)V"⟩
abbrev cX2_dropOldest : ByteArray := prog_4_method_3_code
def yX2_dropOldest : MethodName := ⟨RX2, "dropOldest", "()V"⟩
abbrev cX2_popInto : ByteArray := prog_4_method_4_code
def yX2_popInto : MethodName := ⟨RX2, "popInto", "(LCandleRooms$Store;)I"⟩
def RX3 : String := "CandleRooms$Store"
def TX3 : u_T := fun k => match k with
  | 0 => ("CandleRooms$Store", "rooms", "[LCandleRooms$Room;", true)
  | 1 => ("CandleRooms$Store", "beats", "I", false)
  | 2 => ("CandleRooms$Store", "box", "I", false)
  | 3 => ("CandleRooms$Store", "forgotten", "I", false)
  | 4 => ("CandleRooms$Store", "readings", "I", false)
  | 5 => ("CandleRooms$Store", "darkReadings", "I", false)
  | 6 => ("CandleRooms$Store", "blownOut", "I", false)
  | 7 => ("CandleRooms$Store", "draughtRoom", "I", false)
  | 8 => ("CandleRooms$Store", "draughtStrength", "I", false)
  | _ => ("CandleRooms$Store", "setting", "I", false)
def tyX3 : Nat → FieldType := fun k => match k with
  | 0 => .array (.object "CandleRooms$Room")
  | 1 => .int
  | 2 => .int
  | 3 => .int
  | 4 => .int
  | 5 => .int
  | 6 => .int
  | 7 => .int
  | 8 => .int
  | _ => .int
abbrev wsX30 : List Cond := u_ws RX3 TX3 10
theorem nmX3 : ∀ a, a < 10 → ∀ b, b < 10 → a ≠ b → (TX3 a).2.1 ≠ (TX3 b).2.1 := by decide +kernel
theorem tyX3_ok : ∀ k, k < 10 → parseFieldDescriptor (TX3 k).2.2.1 = some (tyX3 k) := by decide +kernel
abbrev cX3_init : ByteArray := prog_5_method_1_code
def yX3_init : MethodName := ⟨RX3, "<init>", "()V"⟩
abbrev cX3_copyFrom : ByteArray := prog_5_method_2_code
def yX3_copyFrom : MethodName := ⟨RX3, "copyFrom", "(LCandleRooms$Store;)V"⟩
abbrev cX3_roomAt : ByteArray := prog_5_method_3_code
def yX3_roomAt : MethodName := ⟨RX3, "roomAt", "(I)LCandleRooms$Room;"⟩
abbrev cX3_candlesBurning : ByteArray := prog_5_method_4_code
def yX3_candlesBurning : MethodName := ⟨RX3, "candlesBurning", "()I"⟩
abbrev cX3_candlesBurningFrom : ByteArray := prog_5_method_5_code
def yX3_candlesBurningFrom : MethodName := ⟨RX3, "candlesBurningFrom", "(II)I"⟩
abbrev cX3_thingsInAll : ByteArray := prog_5_method_6_code
def yX3_thingsInAll : MethodName := ⟨RX3, "thingsInAll", "()I"⟩
abbrev cX3_roomOf : ByteArray := prog_5_method_7_code
def yX3_roomOf : MethodName := ⟨RX3, "roomOf", "(I)I"⟩
abbrev cX3_thingNumber : ByteArray := prog_5_method_8_code
def yX3_thingNumber : MethodName := ⟨RX3, "thingNumber", "(II)I"⟩
abbrev cX3_canStrike : ByteArray := prog_5_method_9_code
def yX3_canStrike : MethodName := ⟨RX3, "canStrike", "(I)Z"⟩
abbrev cX3_canLight : ByteArray := prog_5_method_10_code
def yX3_canLight : MethodName := ⟨RX3, "canLight", "(II)Z"⟩
abbrev cX3_areJoined : ByteArray := prog_5_method_11_code
def yX3_areJoined : MethodName := ⟨RX3, "areJoined", "(II)Z"⟩
abbrev cX3_kindle : ByteArray := prog_5_method_12_code
def yX3_kindle : MethodName := ⟨RX3, "kindle", "(I)I"⟩
abbrev cX3_strikeIfPossible : ByteArray := prog_5_method_13_code
def yX3_strikeIfPossible : MethodName := ⟨RX3, "strikeIfPossible", "(I)Z"⟩
abbrev cX3_lightIfPossible : ByteArray := prog_5_method_14_code
def yX3_lightIfPossible : MethodName := ⟨RX3, "lightIfPossible", "(II)Z"⟩
abbrev cX3_hasNewCandle : ByteArray := prog_5_method_15_code
def yX3_hasNewCandle : MethodName := ⟨RX3, "hasNewCandle", "()Z"⟩
abbrev cX3_putNewCandle : ByteArray := prog_5_method_16_code
def yX3_putNewCandle : MethodName := ⟨RX3, "putNewCandle", "(I)I"⟩
abbrev cX3_renewIfPossible : ByteArray := prog_5_method_17_code
def yX3_renewIfPossible : MethodName := ⟨RX3, "renewIfPossible", "(I)Z"⟩
abbrev cX3_canKeep : ByteArray := prog_5_method_18_code
def yX3_canKeep : MethodName := ⟨RX3, "canKeep", "(II)Z"⟩
abbrev cX3_putThing : ByteArray := prog_5_method_19_code
def yX3_putThing : MethodName := ⟨RX3, "putThing", "(II)I"⟩
abbrev cX3_keepIfPossible : ByteArray := prog_5_method_20_code
def yX3_keepIfPossible : MethodName := ⟨RX3, "keepIfPossible", "(II)Z"⟩
abbrev cX3_beginDraught : ByteArray := prog_5_method_21_code
def yX3_beginDraught : MethodName := ⟨RX3, "beginDraught", "(II)I"⟩
abbrev cX3_roomsBlown : ByteArray := prog_5_method_22_code
def yX3_roomsBlown : MethodName := ⟨RX3, "roomsBlown", "()I"⟩
abbrev cX3_isInDraught : ByteArray := prog_5_method_23_code
def yX3_isInDraught : MethodName := ⟨RX3, "isInDraught", "(I)Z"⟩
abbrev cX3_blow : ByteArray := prog_5_method_24_code
def yX3_blow : MethodName := ⟨RX3, "blow", "()V"⟩
abbrev cX3_passBeats : ByteArray := prog_5_method_25_code
def yX3_passBeats : MethodName := ⟨RX3, "passBeats", "(I)I"⟩
abbrev cX3_passBeat : ByteArray := prog_5_method_26_code
def yX3_passBeat : MethodName := ⟨RX3, "passBeat", "()I"⟩
abbrev cX3_readThing : ByteArray := prog_5_method_27_code
def yX3_readThing : MethodName := ⟨RX3, "readThing", "(I)I"⟩
abbrev cX3_beatsLit : ByteArray := prog_5_method_28_code
def yX3_beatsLit : MethodName := ⟨RX3, "beatsLit", "(I)I"⟩
abbrev cX3_beatsToForgetting : ByteArray := prog_5_method_29_code
def yX3_beatsToForgetting : MethodName := ⟨RX3, "beatsToForgetting", "()I"⟩
abbrev cX3_candlesToLight : ByteArray := prog_5_method_30_code
def yX3_candlesToLight : MethodName := ⟨RX3, "candlesToLight", "(I)I"⟩
abbrev cX3_candlesOnWay : ByteArray := prog_5_method_31_code
def yX3_candlesOnWay : MethodName := ⟨RX3, "candlesOnWay", "(II)I"⟩
abbrev cX3_neediest : ByteArray := prog_5_method_32_code
def yX3_neediest : MethodName := ⟨RX3, "neediest", "()I"⟩
abbrev cX3_isNeedier : ByteArray := prog_5_method_33_code
def yX3_isNeedier : MethodName := ⟨RX3, "isNeedier", "(II)Z"⟩
abbrev cX3_shareInLight : ByteArray := prog_5_method_34_code
def yX3_shareInLight : MethodName := ⟨RX3, "shareInLight", "()D"⟩
def RX4 : String := "CandleRooms"
def TX4 : u_T := fun k => match k with
  | 0 => ("CandleRooms", "store", "LCandleRooms$Store;", true)
  | 1 => ("CandleRooms", "saved", "LCandleRooms$SavedStores;", true)
  | _ => ("CandleRooms", "text", "LCandleRooms$DeedText;", true)
def tyX4 : Nat → FieldType := fun k => match k with
  | 0 => .object "CandleRooms$Store"
  | 1 => .object "CandleRooms$SavedStores"
  | _ => .object "CandleRooms$DeedText"
abbrev wsX40 : List Cond := u_ws RX4 TX4 3
theorem nmX4 : ∀ a, a < 3 → ∀ b, b < 3 → a ≠ b → (TX4 a).2.1 ≠ (TX4 b).2.1 := by decide +kernel
theorem tyX4_ok : ∀ k, k < 3 → parseFieldDescriptor (TX4 k).2.2.1 = some (tyX4 k) := by decide +kernel
abbrev cX4_init : ByteArray := prog_1_method_1_code
def yX4_init : MethodName := ⟨RX4, "<init>", "()V"⟩
abbrev cX4_strike : ByteArray := prog_1_method_2_code
def yX4_strike : MethodName := ⟨RX4, "strike", "(I)I"⟩
abbrev cX4_light : ByteArray := prog_1_method_3_code
def yX4_light : MethodName := ⟨RX4, "light", "(II)I"⟩
abbrev cX4_fresh : ByteArray := prog_1_method_4_code
def yX4_fresh : MethodName := ⟨RX4, "fresh", "(I)I"⟩
abbrev cX4_door : ByteArray := prog_1_method_5_code
def yX4_door : MethodName := ⟨RX4, "door", "(IZ)I"⟩
abbrev cX4_shield : ByteArray := prog_1_method_6_code
def yX4_shield : MethodName := ⟨RX4, "shield", "(IZ)I"⟩
abbrev cX4_draught : ByteArray := prog_1_method_7_code
def yX4_draught : MethodName := ⟨RX4, "draught", "(II)I"⟩
abbrev cX4_set : ByteArray := prog_1_method_8_code
def yX4_set : MethodName := ⟨RX4, "set", "(I)I"⟩
abbrev cX4_keep : ByteArray := prog_1_method_9_code
def yX4_keep : MethodName := ⟨RX4, "keep", "(II)I"⟩
abbrev cX4_read : ByteArray := prog_1_method_10_code
def yX4_read : MethodName := ⟨RX4, "read", "(I)I"⟩
abbrev cX4_pass : ByteArray := prog_1_method_11_code
def yX4_pass : MethodName := ⟨RX4, "pass", "(I)I"⟩
abbrev cX4_append : ByteArray := prog_1_method_12_code
def yX4_append : MethodName := ⟨RX4, "append", "(I)I"⟩
abbrev cX4_clearBuffer : ByteArray := prog_1_method_13_code
def yX4_clearBuffer : MethodName := ⟨RX4, "clearBuffer", "()I"⟩
abbrev cX4_firstError : ByteArray := prog_1_method_14_code
def yX4_firstError : MethodName := ⟨RX4, "firstError", "()I"⟩
abbrev cX4_play : ByteArray := prog_1_method_15_code
def yX4_play : MethodName := ⟨RX4, "play", "()I"⟩
abbrev cX4_undo : ByteArray := prog_1_method_16_code
def yX4_undo : MethodName := ⟨RX4, "undo", "()I"⟩
abbrev cX4_room : ByteArray := prog_1_method_17_code
def yX4_room : MethodName := ⟨RX4, "room", "(II)I"⟩
abbrev cX4_thing : ByteArray := prog_1_method_18_code
def yX4_thing : MethodName := ⟨RX4, "thing", "(II)I"⟩
abbrev cX4_count : ByteArray := prog_1_method_19_code
def yX4_count : MethodName := ⟨RX4, "count", "(I)I"⟩
abbrev cX4_lasts : ByteArray := prog_1_method_20_code
def yX4_lasts : MethodName := ⟨RX4, "lasts", "(I)I"⟩
abbrev cX4_nextForgotten : ByteArray := prog_1_method_21_code
def yX4_nextForgotten : MethodName := ⟨RX4, "nextForgotten", "()I"⟩
abbrev cX4_carried : ByteArray := prog_1_method_22_code
def yX4_carried : MethodName := ⟨RX4, "carried", "(I)I"⟩
abbrev cX4_needy : ByteArray := prog_1_method_23_code
def yX4_needy : MethodName := ⟨RX4, "needy", "()I"⟩
abbrev cX4_saves : ByteArray := prog_1_method_24_code
def yX4_saves : MethodName := ⟨RX4, "saves", "(I)I"⟩
abbrev cX4_lit : ByteArray := prog_1_method_25_code
def yX4_lit : MethodName := ⟨RX4, "lit", "()D"⟩
abbrev cX4_digest : ByteArray := prog_1_method_26_code
def yX4_digest : MethodName := ⟨RX4, "digest", "()J"⟩
abbrev cX4_requireRoom : ByteArray := prog_1_method_27_code
def yX4_requireRoom : MethodName := ⟨RX4, "requireRoom", "(I)V"⟩
abbrev cX4_requireKey : ByteArray := prog_1_method_28_code
def yX4_requireKey : MethodName := ⟨RX4, "requireKey", "(I)V"⟩
abbrev cX4_requireNumber : ByteArray := prog_1_method_29_code
def yX4_requireNumber : MethodName := ⟨RX4, "requireNumber", "(II)V"⟩
abbrev cX4_isRoom : ByteArray := prog_1_method_30_code
def yX4_isRoom : MethodName := ⟨RX4, "isRoom", "(I)Z"⟩
abbrev cX4_asNumber : ByteArray := prog_1_method_31_code
def yX4_asNumber : MethodName := ⟨RX4, "asNumber", "(Z)I"⟩
abbrev cX4_countNumber : ByteArray := prog_1_method_32_code
def yX4_countNumber : MethodName := ⟨RX4, "countNumber", "(I)I"⟩
abbrev cX4_playDeeds : ByteArray := prog_1_method_33_code
def yX4_playDeeds : MethodName := ⟨RX4, "playDeeds", "()I"⟩
abbrev cX4_playDeed : ByteArray := prog_1_method_34_code
def yX4_playDeed : MethodName := ⟨RX4, "playDeed", "(I)Z"⟩
abbrev cX4_mix : ByteArray := prog_1_method_35_code
def yX4_mix : MethodName := ⟨RX4, "mix", "(JJ)J"⟩
abbrev cX4_mixRoom : ByteArray := prog_1_method_36_code
def yX4_mixRoom : MethodName := ⟨RX4, "mixRoom", "(JI)J"⟩
abbrev cX4_bitsOf : ByteArray := prog_1_method_37_code
def yX4_bitsOf : MethodName := ⟨RX4, "bitsOf", "(D)J"⟩
def RX5 : String := "CandleRoomsModel"
def TX5 : u_T := fun k => match k with
  | 0 => ("CandleRoomsModel", "now", "[I", true)
  | 1 => ("CandleRoomsModel", "then", "[I", true)
  | 2 => ("CandleRoomsModel", "past", "[I", true)
  | 3 => ("CandleRoomsModel", "kept", "I", false)
  | 4 => ("CandleRoomsModel", "text", "[I", true)
  | 5 => ("CandleRoomsModel", "typed", "I", false)
  | 6 => ("CandleRoomsModel", "thrown", "I", false)
  | 7 => ("CandleRoomsModel", "at", "I", false)
  | 8 => ("CandleRoomsModel", "isFault", "Z", false)
  | 9 => ("CandleRoomsModel", "told", "[I", true)
  | _ => ("CandleRoomsModel", "tolds", "I", false)
def tyX5 : Nat → FieldType := fun k => match k with
  | 0 => .array .int
  | 1 => .array .int
  | 2 => .array .int
  | 3 => .int
  | 4 => .array .int
  | 5 => .int
  | 6 => .int
  | 7 => .int
  | 8 => .boolean
  | 9 => .array .int
  | _ => .int
abbrev wsX50 : List Cond := u_ws RX5 TX5 11
theorem nmX5 : ∀ a, a < 11 → ∀ b, b < 11 → a ≠ b → (TX5 a).2.1 ≠ (TX5 b).2.1 := by decide +kernel
theorem tyX5_ok : ∀ k, k < 11 → parseFieldDescriptor (TX5 k).2.2.1 = some (tyX5 k) := by decide +kernel
abbrev cX5_init : ByteArray := prog_7_method_1_code
def yX5_init : MethodName := ⟨RX5, "<init>", "()V"⟩
abbrev cX5_thrown : ByteArray := prog_7_method_2_code
def yX5_thrown : MethodName := ⟨RX5, "thrown", "()I"⟩
abbrev cX5_fails : ByteArray := prog_7_method_3_code
def yX5_fails : MethodName := ⟨RX5, "fails", "(I)I"⟩
abbrev cX5_in : ByteArray := prog_7_method_4_code
def yX5_in : MethodName := ⟨RX5, "in", "(III)Z"⟩
abbrev cX5_isRoom : ByteArray := prog_7_method_5_code
def yX5_isRoom : MethodName := ⟨RX5, "isRoom", "(I)Z"⟩
abbrev cX5_of : ByteArray := prog_7_method_6_code
def yX5_of : MethodName := ⟨RX5, "of", "([III)I"⟩
abbrev cX5_isLit : ByteArray := prog_7_method_7_code
def yX5_isLit : MethodName := ⟨RX5, "isLit", "([II)Z"⟩
abbrev cX5_burning : ByteArray := prog_7_method_8_code
def yX5_burning : MethodName := ⟨RX5, "burning", "([I)I"⟩
abbrev cX5_copies : ByteArray := prog_7_method_9_code
def yX5_copies : MethodName := ⟨RX5, "copies", "([II[II)V"⟩
abbrev cX5_keepsState : ByteArray := prog_7_method_10_code
def yX5_keepsState : MethodName := ⟨RX5, "keepsState", "()V"⟩
abbrev cX5_undo : ByteArray := prog_7_method_11_code
def yX5_undo : MethodName := ⟨RX5, "undo", "()I"⟩
abbrev cX5_mayStrike : ByteArray := prog_7_method_12_code
def yX5_mayStrike : MethodName := ⟨RX5, "mayStrike", "([II)Z"⟩
abbrev cX5_isOpen : ByteArray := prog_7_method_13_code
def yX5_isOpen : MethodName := ⟨RX5, "isOpen", "([III)Z"⟩
abbrev cX5_mayLight : ByteArray := prog_7_method_14_code
def yX5_mayLight : MethodName := ⟨RX5, "mayLight", "([III)Z"⟩
abbrev cX5_lights : ByteArray := prog_7_method_15_code
def yX5_lights : MethodName := ⟨RX5, "lights", "([II)V"⟩
abbrev cX5_renews : ByteArray := prog_7_method_16_code
def yX5_renews : MethodName := ⟨RX5, "renews", "([II)V"⟩
abbrev cX5_reaches : ByteArray := prog_7_method_17_code
def yX5_reaches : MethodName := ⟨RX5, "reaches", "([III)I"⟩
abbrev cX5_blows : ByteArray := prog_7_method_18_code
def yX5_blows : MethodName := ⟨RX5, "blows", "([III)I"⟩
abbrev cX5_strike : ByteArray := prog_7_method_19_code
def yX5_strike : MethodName := ⟨RX5, "strike", "(I)I"⟩
abbrev cX5_light : ByteArray := prog_7_method_20_code
def yX5_light : MethodName := ⟨RX5, "light", "(II)I"⟩
abbrev cX5_fresh : ByteArray := prog_7_method_21_code
def yX5_fresh : MethodName := ⟨RX5, "fresh", "(I)I"⟩
abbrev cX5_switches : ByteArray := prog_7_method_22_code
def yX5_switches : MethodName := ⟨RX5, "switches", "(IIZ)I"⟩
abbrev cX5_door : ByteArray := prog_7_method_23_code
def yX5_door : MethodName := ⟨RX5, "door", "(IZ)I"⟩
abbrev cX5_shield : ByteArray := prog_7_method_24_code
def yX5_shield : MethodName := ⟨RX5, "shield", "(IZ)I"⟩
abbrev cX5_draught : ByteArray := prog_7_method_25_code
def yX5_draught : MethodName := ⟨RX5, "draught", "(II)I"⟩
abbrev cX5_set : ByteArray := prog_7_method_26_code
def yX5_set : MethodName := ⟨RX5, "set", "(I)I"⟩
abbrev cX5_burns : ByteArray := prog_7_method_27_code
def yX5_burns : MethodName := ⟨RX5, "burns", "([II)V"⟩
abbrev cX5_draws : ByteArray := prog_7_method_28_code
def yX5_draws : MethodName := ⟨RX5, "draws", "([I)V"⟩
abbrev cX5_ages : ByteArray := prog_7_method_29_code
def yX5_ages : MethodName := ⟨RX5, "ages", "([II)V"⟩
abbrev cX5_beats : ByteArray := prog_7_method_30_code
def yX5_beats : MethodName := ⟨RX5, "beats", "([II)V"⟩
abbrev cX5_find : ByteArray := prog_7_method_31_code
def yX5_find : MethodName := ⟨RX5, "find", "([II)I"⟩
abbrev cX5_mayKeep : ByteArray := prog_7_method_32_code
def yX5_mayKeep : MethodName := ⟨RX5, "mayKeep", "([III)Z"⟩
abbrev cX5_keeps : ByteArray := prog_7_method_33_code
def yX5_keeps : MethodName := ⟨RX5, "keeps", "([III)I"⟩
abbrev cX5_keep : ByteArray := prog_7_method_34_code
def yX5_keep : MethodName := ⟨RX5, "keep", "(II)I"⟩
abbrev cX5_read : ByteArray := prog_7_method_35_code
def yX5_read : MethodName := ⟨RX5, "read", "(I)I"⟩
abbrev cX5_pass : ByteArray := prog_7_method_36_code
def yX5_pass : MethodName := ⟨RX5, "pass", "(I)I"⟩
abbrev cX5_append : ByteArray := prog_7_method_37_code
def yX5_append : MethodName := ⟨RX5, "append", "(I)I"⟩
abbrev cX5_clearBuffer : ByteArray := prog_7_method_38_code
def yX5_clearBuffer : MethodName := ⟨RX5, "clearBuffer", "()I"⟩
abbrev cX5_isAt : ByteArray := prog_7_method_39_code
def yX5_isAt : MethodName := ⟨RX5, "isAt", "(II)Z"⟩
abbrev cX5_stops : ByteArray := prog_7_method_40_code
def yX5_stops : MethodName := ⟨RX5, "stops", "()Z"⟩
abbrev cX5_isPart : ByteArray := prog_7_method_41_code
def yX5_isPart : MethodName := ⟨RX5, "isPart", "()Z"⟩
abbrev cX5_isNumber : ByteArray := prog_7_method_42_code
def yX5_isNumber : MethodName := ⟨RX5, "isNumber", "(IIZ)Z"⟩
abbrev cX5_isText : ByteArray := prog_7_method_43_code
def yX5_isText : MethodName := ⟨RX5, "isText", "()Z"⟩
abbrev cX5_firstError : ByteArray := prog_7_method_44_code
def yX5_firstError : MethodName := ⟨RX5, "firstError", "()I"⟩
abbrev cX5_does : ByteArray := prog_7_method_45_code
def yX5_does : MethodName := ⟨RX5, "does", "(I)Z"⟩
abbrev cX5_play : ByteArray := prog_7_method_46_code
def yX5_play : MethodName := ⟨RX5, "play", "()I"⟩
abbrev cX5_ofRoom : ByteArray := prog_7_method_47_code
def yX5_ofRoom : MethodName := ⟨RX5, "ofRoom", "(II)I"⟩
abbrev cX5_room : ByteArray := prog_7_method_48_code
def yX5_room : MethodName := ⟨RX5, "room", "(II)I"⟩
abbrev cX5_thing : ByteArray := prog_7_method_49_code
def yX5_thing : MethodName := ⟨RX5, "thing", "(II)I"⟩
abbrev cX5_things : ByteArray := prog_7_method_50_code
def yX5_things : MethodName := ⟨RX5, "things", "()I"⟩
abbrev cX5_counted : ByteArray := prog_7_method_51_code
def yX5_counted : MethodName := ⟨RX5, "counted", "(I)I"⟩
abbrev cX5_count : ByteArray := prog_7_method_52_code
def yX5_count : MethodName := ⟨RX5, "count", "(I)I"⟩
abbrev cX5_stays : ByteArray := prog_7_method_53_code
def yX5_stays : MethodName := ⟨RX5, "stays", "(I)I"⟩
abbrev cX5_lasts : ByteArray := prog_7_method_54_code
def yX5_lasts : MethodName := ⟨RX5, "lasts", "(I)I"⟩
abbrev cX5_firstForgotten : ByteArray := prog_7_method_55_code
def yX5_firstForgotten : MethodName := ⟨RX5, "firstForgotten", "()I"⟩
abbrev cX5_nextForgotten : ByteArray := prog_7_method_56_code
def yX5_nextForgotten : MethodName := ⟨RX5, "nextForgotten", "()I"⟩
abbrev cX5_way : ByteArray := prog_7_method_57_code
def yX5_way : MethodName := ⟨RX5, "way", "(II)I"⟩
abbrev cX5_fewest : ByteArray := prog_7_method_58_code
def yX5_fewest : MethodName := ⟨RX5, "fewest", "(I)I"⟩
abbrev cX5_carried : ByteArray := prog_7_method_59_code
def yX5_carried : MethodName := ⟨RX5, "carried", "(I)I"⟩
abbrev cX5_neediest : ByteArray := prog_7_method_60_code
def yX5_neediest : MethodName := ⟨RX5, "neediest", "()I"⟩
abbrev cX5_needy : ByteArray := prog_7_method_61_code
def yX5_needy : MethodName := ⟨RX5, "needy", "()I"⟩
abbrev cX5_saved : ByteArray := prog_7_method_62_code
def yX5_saved : MethodName := ⟨RX5, "saved", "(I)I"⟩
abbrev cX5_saves : ByteArray := prog_7_method_63_code
def yX5_saves : MethodName := ⟨RX5, "saves", "(I)I"⟩
abbrev cX5_share : ByteArray := prog_7_method_64_code
def yX5_share : MethodName := ⟨RX5, "share", "()D"⟩
abbrev cX5_lit : ByteArray := prog_7_method_65_code
def yX5_lit : MethodName := ⟨RX5, "lit", "()D"⟩
abbrev cX5_digest : ByteArray := prog_7_method_66_code
def yX5_digest : MethodName := ⟨RX5, "digest", "()J"⟩
def RJxe99ae : String := "java/lang/Double"
def TJxe99ae : u_T := fun k => match k with
  | _ => ("", "", "", false)
def tyJxe99ae : Nat → FieldType := fun k => match k with
  | _ => .int
theorem nmJxe99ae : ∀ a, a < 0 → ∀ b, b < 0 → a ≠ b → (TJxe99ae a).2.1 ≠ (TJxe99ae b).2.1 := by decide +kernel
theorem tyJxe99ae_ok : ∀ k, k < 0 → parseFieldDescriptor (TJxe99ae k).2.2.1 = some (tyJxe99ae k) := by decide +kernel
abbrev cJxe99ae_isNaN_b9ae7 : ByteArray := prog_8_method_6_code
def yJxe99ae_isNaN_b9ae7 : MethodName := ⟨RJxe99ae, "isNaN", "(D)Z"⟩
abbrev cJxe99ae_doubleToLongBits_ccdee : ByteArray := prog_8_method_23_code
def yJxe99ae_doubleToLongBits_ccdee : MethodName := ⟨RJxe99ae, "doubleToLongBits", "(D)J"⟩
def RJ9 : String := "java/lang/Math"
def TJ9 : u_T := fun k => match k with
  | _ => ("", "", "", false)
def tyJ9 : Nat → FieldType := fun k => match k with
  | _ => .int
theorem nmJ9 : ∀ a, a < 0 → ∀ b, b < 0 → a ≠ b → (TJ9 a).2.1 ≠ (TJ9 b).2.1 := by decide +kernel
theorem tyJ9_ok : ∀ k, k < 0 → parseFieldDescriptor (TJ9 k).2.2.1 = some (tyJ9 k) := by decide +kernel
abbrev cJ9_floorMod_7cf53 : ByteArray := prog_13_method_50_code
def yJ9_floorMod_7cf53 : MethodName := ⟨RJ9, "floorMod", "(II)I"⟩
abbrev cJ9_max_7cf53 : ByteArray := prog_13_method_65_code
def yJ9_max_7cf53 : MethodName := ⟨RJ9, "max", "(II)I"⟩
abbrev cJ9_min_7cf53 : ByteArray := prog_13_method_69_code
def yJ9_min_7cf53 : MethodName := ⟨RJ9, "min", "(II)I"⟩
def RJ0 : String := "java/lang/String"
def TJ0 : u_T := fun k => match k with
  | _ => ("", "", "", false)
def tyJ0 : Nat → FieldType := fun k => match k with
  | _ => .int
theorem nmJ0 : ∀ a, a < 0 → ∀ b, b < 0 → a ≠ b → (TJ0 a).2.1 ≠ (TJ0 b).2.1 := by decide +kernel
theorem tyJ0_ok : ∀ k, k < 0 → parseFieldDescriptor (TJ0 k).2.2.1 = some (tyJ0 k) := by decide +kernel
def RJ10 : String := "java/lang/System"
def TJ10 : u_T := fun k => match k with
  | _ => ("", "", "", false)
def tyJ10 : Nat → FieldType := fun k => match k with
  | _ => .int
theorem nmJ10 : ∀ a, a < 0 → ∀ b, b < 0 → a ≠ b → (TJ10 a).2.1 ≠ (TJ10 b).2.1 := by decide +kernel
theorem tyJ10_ok : ∀ k, k < 0 → parseFieldDescriptor (TJ10 k).2.2.1 = some (tyJ10 k) := by decide +kernel
def RL : String := "CandleRoomsLaw"
abbrev cL_strike : ByteArray := method_3_code
def yL_strike : MethodName := ⟨RL, "strike", "(LCandleRooms;I[J)I"⟩
abbrev cL_light : ByteArray := method_4_code
def yL_light : MethodName := ⟨RL, "light", "(LCandleRooms;II[J)I"⟩
abbrev cL_fresh : ByteArray := method_5_code
def yL_fresh : MethodName := ⟨RL, "fresh", "(LCandleRooms;I[J)I"⟩
abbrev cL_door : ByteArray := method_6_code
def yL_door : MethodName := ⟨RL, "door", "(LCandleRooms;IZ[J)I"⟩
abbrev cL_shield : ByteArray := method_7_code
def yL_shield : MethodName := ⟨RL, "shield", "(LCandleRooms;IZ[J)I"⟩
abbrev cL_draught : ByteArray := method_8_code
def yL_draught : MethodName := ⟨RL, "draught", "(LCandleRooms;II[J)I"⟩
abbrev cL_set : ByteArray := method_9_code
def yL_set : MethodName := ⟨RL, "set", "(LCandleRooms;I[J)I"⟩
abbrev cL_keep : ByteArray := method_10_code
def yL_keep : MethodName := ⟨RL, "keep", "(LCandleRooms;II[J)I"⟩
abbrev cL_read : ByteArray := method_11_code
def yL_read : MethodName := ⟨RL, "read", "(LCandleRooms;I[J)I"⟩
abbrev cL_pass : ByteArray := method_12_code
def yL_pass : MethodName := ⟨RL, "pass", "(LCandleRooms;I[J)I"⟩
abbrev cL_append : ByteArray := method_13_code
def yL_append : MethodName := ⟨RL, "append", "(LCandleRooms;I[J)I"⟩
abbrev cL_play : ByteArray := method_14_code
def yL_play : MethodName := ⟨RL, "play", "(LCandleRooms;[J)I"⟩
abbrev cL_undo : ByteArray := method_15_code
def yL_undo : MethodName := ⟨RL, "undo", "(LCandleRooms;[J)I"⟩
abbrev cL_room : ByteArray := method_16_code
def yL_room : MethodName := ⟨RL, "room", "(LCandleRooms;II[J)I"⟩
abbrev cL_thing : ByteArray := method_17_code
def yL_thing : MethodName := ⟨RL, "thing", "(LCandleRooms;II[J)I"⟩
abbrev cL_count : ByteArray := method_18_code
def yL_count : MethodName := ⟨RL, "count", "(LCandleRooms;I[J)I"⟩
abbrev cL_lasts : ByteArray := method_19_code
def yL_lasts : MethodName := ⟨RL, "lasts", "(LCandleRooms;I[J)I"⟩
abbrev cL_carried : ByteArray := method_20_code
def yL_carried : MethodName := ⟨RL, "carried", "(LCandleRooms;I[J)I"⟩
abbrev cL_saves : ByteArray := method_21_code
def yL_saves : MethodName := ⟨RL, "saves", "(LCandleRooms;I[J)I"⟩
abbrev cL_law : ByteArray := code
def yL_law : MethodName := ⟨RL, "law", "([I)Z"⟩
abbrev vwCl : List vw_C := [(RX0, TX0, 2), (RX1, TX1, 9), (RX2, TX2, 2), (RX3, TX3, 10), (RX4, TX4, 3), (RX5, TX5, 11)]
/-- the words that hold anywhere -/
def WS : List Cond := lw_tbl.filter goodWord
theorem gws {w : Cond} (i : Nat) (h : lw_tbl[i]? = some w) (g : goodWord w = true) : w ∈ WS := List.mem_filter.mpr ⟨List.mem_of_getElem? h, g⟩
theorem WS_good : GoodIn WS WS := fun w h => ⟨h, good_of_word (List.mem_filter.mp h).2⟩
theorem WS_tbl {w : Cond} (h : w ∈ WS) : w ∈ lw_tbl := (List.mem_filter.mp h).1
end
section
/-! words: initialized, links of fields, calls (printed by program) -/
theorem kiRX0 : Cond.initialized RX0 ∈ WS := gws 29 (by decide +kernel) (by decide +kernel)
theorem kiRX1 : Cond.initialized RX1 ∈ WS := gws 27 (by decide +kernel) (by decide +kernel)
theorem kiRX2 : Cond.initialized RX2 ∈ WS := gws 28 (by decide +kernel) (by decide +kernel)
theorem kiRX3 : Cond.initialized RX3 ∈ WS := gws 26 (by decide +kernel) (by decide +kernel)
theorem kiRX4 : Cond.initialized RX4 ∈ WS := gws 25 (by decide +kernel) (by decide +kernel)
theorem kiRX5 : Cond.initialized RX5 ∈ WS := gws 30 (by decide +kernel) (by decide +kernel)
theorem kiRJxe99ae : Cond.initialized RJxe99ae ∈ WS := gws 39 (by decide +kernel) (by decide +kernel)
theorem kiRJ9 : Cond.initialized RJ9 ∈ WS := gws 35 (by decide +kernel) (by decide +kernel)
theorem kiRJ10 : Cond.initialized RJ10 ∈ WS := gws 37 (by decide +kernel) (by decide +kernel)
theorem kiRL : Cond.initialized RL ∈ WS := gws 24 (by decide +kernel) (by decide +kernel)
theorem kiMath : Cond.initialized "java/lang/Math" ∈ WS := gws 35 (by decide +kernel) (by decide +kernel)
theorem kiSystem : Cond.initialized "java/lang/System" ∈ WS := gws 37 (by decide +kernel) (by decide +kernel)
theorem kiDouble : Cond.initialized "java/lang/Double" ∈ WS := gws 39 (by decide +kernel) (by decide +kernel)
theorem kiIllegalStateException : Cond.initialized "java/lang/IllegalStateException" ∈ WS := gws 36 (by decide +kernel) (by decide +kernel)
theorem kiIllegalArgumentException : Cond.initialized "java/lang/IllegalArgumentException" ∈ WS := gws 38 (by decide +kernel) (by decide +kernel)
theorem kiIndexOutOfBoundsException : Cond.initialized "java/lang/IndexOutOfBoundsException" ∈ WS := gws 34 (by decide +kernel) (by decide +kernel)
theorem inW0 : ∀ w ∈ u_ws RX0 TX0 2, w ∈ WS := by
  intro w h
  refine List.mem_filter.mpr ⟨(by decide +kernel : ∀ w ∈ u_ws RX0 TX0 2, w ∈ lw_tbl) w h, (by decide +kernel : ∀ w ∈ u_ws RX0 TX0 2, goodWord w = true) w h⟩
theorem inW1 : ∀ w ∈ u_ws RX1 TX1 9, w ∈ WS := by
  intro w h
  refine List.mem_filter.mpr ⟨(by decide +kernel : ∀ w ∈ u_ws RX1 TX1 9, w ∈ lw_tbl) w h, (by decide +kernel : ∀ w ∈ u_ws RX1 TX1 9, goodWord w = true) w h⟩
theorem inW2 : ∀ w ∈ u_ws RX2 TX2 2, w ∈ WS := by
  intro w h
  refine List.mem_filter.mpr ⟨(by decide +kernel : ∀ w ∈ u_ws RX2 TX2 2, w ∈ lw_tbl) w h, (by decide +kernel : ∀ w ∈ u_ws RX2 TX2 2, goodWord w = true) w h⟩
theorem inW3 : ∀ w ∈ u_ws RX3 TX3 10, w ∈ WS := by
  intro w h
  refine List.mem_filter.mpr ⟨(by decide +kernel : ∀ w ∈ u_ws RX3 TX3 10, w ∈ lw_tbl) w h, (by decide +kernel : ∀ w ∈ u_ws RX3 TX3 10, goodWord w = true) w h⟩
theorem inW4 : ∀ w ∈ u_ws RX4 TX4 3, w ∈ WS := by
  intro w h
  refine List.mem_filter.mpr ⟨(by decide +kernel : ∀ w ∈ u_ws RX4 TX4 3, w ∈ lw_tbl) w h, (by decide +kernel : ∀ w ∈ u_ws RX4 TX4 3, goodWord w = true) w h⟩
theorem inW5 : ∀ w ∈ u_ws RX5 TX5 11, w ∈ WS := by
  intro w h
  refine List.mem_filter.mpr ⟨(by decide +kernel : ∀ w ∈ u_ws RX5 TX5 11, w ∈ lw_tbl) w h, (by decide +kernel : ∀ w ∈ u_ws RX5 TX5 11, goodWord w = true) w h⟩
/-- a field's link: the class's name, the pool's number, the class's place, the field's place -/
def gFL (own : String) (idx ci f : Nat) (CN : String) (T : u_T) (n : Nat) (ty : Nat → FieldType) : Prop := (∀ w ∈ u_ws CN T n, w ∈ WS) ∧ vwCl[ci]? = some (CN, T, n) ∧ f < n ∧ Cond.fieldLink own idx (T f).1 (T f).2.1 (T f).2.2.1 ∈ WS ∧ (∀ k, k < n → parseFieldDescriptor (T k).2.2.1 = some (ty k)) ∧ (∀ a, a < n → ∀ b, b < n → a ≠ b → (T a).2.1 ≠ (T b).2.1)
theorem flX0_15 : gFL RX0 15 0 1 RX0 TX0 2 tyX0 := ⟨inW0, rfl, by decide, gws 163 (by decide +kernel) (by decide +kernel), tyX0_ok, nmX0⟩
theorem flX0_9 : gFL RX0 9 0 0 RX0 TX0 2 tyX0 := ⟨inW0, rfl, by decide, gws 162 (by decide +kernel) (by decide +kernel), tyX0_ok, nmX0⟩
theorem flX1_15 : gFL RX1 15 1 1 RX1 TX1 9 tyX1 := ⟨inW1, rfl, by decide, gws 62 (by decide +kernel) (by decide +kernel), tyX1_ok, nmX1⟩
theorem flX1_18 : gFL RX1 18 1 3 RX1 TX1 9 tyX1 := ⟨inW1, rfl, by decide, gws 66 (by decide +kernel) (by decide +kernel), tyX1_ok, nmX1⟩
theorem flX1_22 : gFL RX1 22 1 7 RX1 TX1 9 tyX1 := ⟨inW1, rfl, by decide, gws 75 (by decide +kernel) (by decide +kernel), tyX1_ok, nmX1⟩
theorem flX1_32 : gFL RX1 32 1 2 RX1 TX1 9 tyX1 := ⟨inW1, rfl, by decide, gws 63 (by decide +kernel) (by decide +kernel), tyX1_ok, nmX1⟩
theorem flX1_35 : gFL RX1 35 1 4 RX1 TX1 9 tyX1 := ⟨inW1, rfl, by decide, gws 68 (by decide +kernel) (by decide +kernel), tyX1_ok, nmX1⟩
theorem flX1_38 : gFL RX1 38 1 5 RX1 TX1 9 tyX1 := ⟨inW1, rfl, by decide, gws 70 (by decide +kernel) (by decide +kernel), tyX1_ok, nmX1⟩
theorem flX1_41 : gFL RX1 41 1 6 RX1 TX1 9 tyX1 := ⟨inW1, rfl, by decide, gws 72 (by decide +kernel) (by decide +kernel), tyX1_ok, nmX1⟩
theorem flX1_44 : gFL RX1 44 1 8 RX1 TX1 9 tyX1 := ⟨inW1, rfl, by decide, gws 78 (by decide +kernel) (by decide +kernel), tyX1_ok, nmX1⟩
theorem flX1_9 : gFL RX1 9 1 0 RX1 TX1 9 tyX1 := ⟨inW1, rfl, by decide, gws 61 (by decide +kernel) (by decide +kernel), tyX1_ok, nmX1⟩
theorem flX2_11 : gFL RX2 11 2 0 RX2 TX2 2 tyX2 := ⟨inW2, rfl, by decide, gws 148 (by decide +kernel) (by decide +kernel), tyX2_ok, nmX2⟩
theorem flX2_18 : gFL RX2 18 2 1 RX2 TX2 2 tyX2 := ⟨inW2, rfl, by decide, gws 149 (by decide +kernel) (by decide +kernel), tyX2_ok, nmX2⟩
theorem flX3_11 : gFL RX3 11 3 0 RX3 TX3 10 tyX3 := ⟨inW3, rfl, by decide, gws 99 (by decide +kernel) (by decide +kernel), tyX3_ok, nmX3⟩
theorem flX3_131 : gFL RX3 131 1 6 RX1 TX1 9 tyX1 := ⟨inW1, rfl, by decide, gws 74 (by decide +kernel) (by decide +kernel), tyX1_ok, nmX1⟩
theorem flX3_146 : gFL RX3 146 1 5 RX1 TX1 9 tyX1 := ⟨inW1, rfl, by decide, gws 71 (by decide +kernel) (by decide +kernel), tyX1_ok, nmX1⟩
theorem flX3_18 : gFL RX3 18 3 2 RX3 TX3 10 tyX3 := ⟨inW3, rfl, by decide, gws 102 (by decide +kernel) (by decide +kernel), tyX3_ok, nmX3⟩
theorem flX3_22 : gFL RX3 22 3 7 RX3 TX3 10 tyX3 := ⟨inW3, rfl, by decide, gws 112 (by decide +kernel) (by decide +kernel), tyX3_ok, nmX3⟩
theorem flX3_25 : gFL RX3 25 3 9 RX3 TX3 10 tyX3 := ⟨inW3, rfl, by decide, gws 116 (by decide +kernel) (by decide +kernel), tyX3_ok, nmX3⟩
theorem flX3_32 : gFL RX3 32 3 1 RX3 TX3 10 tyX3 := ⟨inW3, rfl, by decide, gws 100 (by decide +kernel) (by decide +kernel), tyX3_ok, nmX3⟩
theorem flX3_35 : gFL RX3 35 3 3 RX3 TX3 10 tyX3 := ⟨inW3, rfl, by decide, gws 104 (by decide +kernel) (by decide +kernel), tyX3_ok, nmX3⟩
theorem flX3_38 : gFL RX3 38 3 4 RX3 TX3 10 tyX3 := ⟨inW3, rfl, by decide, gws 106 (by decide +kernel) (by decide +kernel), tyX3_ok, nmX3⟩
theorem flX3_41 : gFL RX3 41 3 5 RX3 TX3 10 tyX3 := ⟨inW3, rfl, by decide, gws 108 (by decide +kernel) (by decide +kernel), tyX3_ok, nmX3⟩
theorem flX3_44 : gFL RX3 44 3 6 RX3 TX3 10 tyX3 := ⟨inW3, rfl, by decide, gws 110 (by decide +kernel) (by decide +kernel), tyX3_ok, nmX3⟩
theorem flX3_47 : gFL RX3 47 3 8 RX3 TX3 10 tyX3 := ⟨inW3, rfl, by decide, gws 114 (by decide +kernel) (by decide +kernel), tyX3_ok, nmX3⟩
theorem flX3_56 : gFL RX3 56 1 4 RX1 TX1 9 tyX1 := ⟨inW1, rfl, by decide, gws 69 (by decide +kernel) (by decide +kernel), tyX1_ok, nmX1⟩
theorem flX3_68 : gFL RX3 68 1 2 RX1 TX1 9 tyX1 := ⟨inW1, rfl, by decide, gws 64 (by decide +kernel) (by decide +kernel), tyX1_ok, nmX1⟩
theorem flX3_85 : gFL RX3 85 1 3 RX1 TX1 9 tyX1 := ⟨inW1, rfl, by decide, gws 67 (by decide +kernel) (by decide +kernel), tyX1_ok, nmX1⟩
theorem flX3_92 : gFL RX3 92 1 7 RX1 TX1 9 tyX1 := ⟨inW1, rfl, by decide, gws 77 (by decide +kernel) (by decide +kernel), tyX1_ok, nmX1⟩
theorem flX4_10 : gFL RX4 10 4 0 RX4 TX4 3 tyX4 := ⟨inW4, rfl, by decide, gws 171 (by decide +kernel) (by decide +kernel), tyX4_ok, nmX4⟩
theorem flX4_104 : gFL RX4 104 3 9 RX3 TX3 10 tyX3 := ⟨inW3, rfl, by decide, gws 117 (by decide +kernel) (by decide +kernel), tyX3_ok, nmX3⟩
theorem flX4_153 : gFL RX4 153 2 1 RX2 TX2 2 tyX2 := ⟨inW2, rfl, by decide, gws 150 (by decide +kernel) (by decide +kernel), tyX2_ok, nmX2⟩
theorem flX4_19 : gFL RX4 19 4 1 RX4 TX4 3 tyX4 := ⟨inW4, rfl, by decide, gws 172 (by decide +kernel) (by decide +kernel), tyX4_ok, nmX4⟩
theorem flX4_208 : gFL RX4 208 0 1 RX0 TX0 2 tyX0 := ⟨inW0, rfl, by decide, gws 164 (by decide +kernel) (by decide +kernel), tyX0_ok, nmX0⟩
theorem flX4_220 : gFL RX4 220 3 1 RX3 TX3 10 tyX3 := ⟨inW3, rfl, by decide, gws 101 (by decide +kernel) (by decide +kernel), tyX3_ok, nmX3⟩
theorem flX4_223 : gFL RX4 223 3 2 RX3 TX3 10 tyX3 := ⟨inW3, rfl, by decide, gws 103 (by decide +kernel) (by decide +kernel), tyX3_ok, nmX3⟩
theorem flX4_232 : gFL RX4 232 3 3 RX3 TX3 10 tyX3 := ⟨inW3, rfl, by decide, gws 105 (by decide +kernel) (by decide +kernel), tyX3_ok, nmX3⟩
theorem flX4_235 : gFL RX4 235 3 4 RX3 TX3 10 tyX3 := ⟨inW3, rfl, by decide, gws 107 (by decide +kernel) (by decide +kernel), tyX3_ok, nmX3⟩
theorem flX4_238 : gFL RX4 238 3 5 RX3 TX3 10 tyX3 := ⟨inW3, rfl, by decide, gws 109 (by decide +kernel) (by decide +kernel), tyX3_ok, nmX3⟩
theorem flX4_241 : gFL RX4 241 3 6 RX3 TX3 10 tyX3 := ⟨inW3, rfl, by decide, gws 111 (by decide +kernel) (by decide +kernel), tyX3_ok, nmX3⟩
theorem flX4_244 : gFL RX4 244 3 7 RX3 TX3 10 tyX3 := ⟨inW3, rfl, by decide, gws 113 (by decide +kernel) (by decide +kernel), tyX3_ok, nmX3⟩
theorem flX4_247 : gFL RX4 247 3 8 RX3 TX3 10 tyX3 := ⟨inW3, rfl, by decide, gws 115 (by decide +kernel) (by decide +kernel), tyX3_ok, nmX3⟩
theorem flX4_26 : gFL RX4 26 4 2 RX4 TX4 3 tyX4 := ⟨inW4, rfl, by decide, gws 173 (by decide +kernel) (by decide +kernel), tyX4_ok, nmX4⟩
theorem flX4_281 : gFL RX4 281 1 2 RX1 TX1 9 tyX1 := ⟨inW1, rfl, by decide, gws 65 (by decide +kernel) (by decide +kernel), tyX1_ok, nmX1⟩
theorem flX4_80 : gFL RX4 80 1 7 RX1 TX1 9 tyX1 := ⟨inW1, rfl, by decide, gws 76 (by decide +kernel) (by decide +kernel), tyX1_ok, nmX1⟩
theorem flX4_90 : gFL RX4 90 1 6 RX1 TX1 9 tyX1 := ⟨inW1, rfl, by decide, gws 73 (by decide +kernel) (by decide +kernel), tyX1_ok, nmX1⟩
theorem flX5_113 : gFL RX5 113 5 5 RX5 TX5 11 tyX5 := ⟨inW5, rfl, by decide, gws 781 (by decide +kernel) (by decide +kernel), tyX5_ok, nmX5⟩
theorem flX5_116 : gFL RX5 116 5 7 RX5 TX5 11 tyX5 := ⟨inW5, rfl, by decide, gws 783 (by decide +kernel) (by decide +kernel), tyX5_ok, nmX5⟩
theorem flX5_119 : gFL RX5 119 5 8 RX5 TX5 11 tyX5 := ⟨inW5, rfl, by decide, gws 784 (by decide +kernel) (by decide +kernel), tyX5_ok, nmX5⟩
theorem flX5_13 : gFL RX5 13 5 1 RX5 TX5 11 tyX5 := ⟨inW5, rfl, by decide, gws 777 (by decide +kernel) (by decide +kernel), tyX5_ok, nmX5⟩
theorem flX5_131 : gFL RX5 131 5 10 RX5 TX5 11 tyX5 := ⟨inW5, rfl, by decide, gws 786 (by decide +kernel) (by decide +kernel), tyX5_ok, nmX5⟩
theorem flX5_16 : gFL RX5 16 5 2 RX5 TX5 11 tyX5 := ⟨inW5, rfl, by decide, gws 778 (by decide +kernel) (by decide +kernel), tyX5_ok, nmX5⟩
theorem flX5_19 : gFL RX5 19 5 4 RX5 TX5 11 tyX5 := ⟨inW5, rfl, by decide, gws 780 (by decide +kernel) (by decide +kernel), tyX5_ok, nmX5⟩
theorem flX5_22 : gFL RX5 22 5 9 RX5 TX5 11 tyX5 := ⟨inW5, rfl, by decide, gws 785 (by decide +kernel) (by decide +kernel), tyX5_ok, nmX5⟩
theorem flX5_25 : gFL RX5 25 5 6 RX5 TX5 11 tyX5 := ⟨inW5, rfl, by decide, gws 782 (by decide +kernel) (by decide +kernel), tyX5_ok, nmX5⟩
theorem flX5_37 : gFL RX5 37 5 3 RX5 TX5 11 tyX5 := ⟨inW5, rfl, by decide, gws 779 (by decide +kernel) (by decide +kernel), tyX5_ok, nmX5⟩
theorem flX5_7 : gFL RX5 7 5 0 RX5 TX5 11 tyX5 := ⟨inW5, rfl, by decide, gws 776 (by decide +kernel) (by decide +kernel), tyX5_ok, nmX5⟩
/-- a call's words: virtual, static, of a constructor -/
def gCV (own : String) (idx : Nat) (C : String) (y : MethodName) (cc : ByteArray) (nL : Nat) (ret : Option FieldType) : Prop := Cond.methodLink own idx y ∈ WS ∧ Cond.instanceMethod y ∈ WS ∧ Cond.selects C y y ∈ WS ∧ Cond.initialized C ∈ WS ∧ Cond.code y cc nL ret ∈ WS ∧ y.cls = C
def gCS (own : String) (idx : Nat) (y : MethodName) (cc : ByteArray) (nL : Nat) (ret : Option FieldType) : Prop := Cond.methodLink own idx y ∈ WS ∧ Cond.static y ∈ WS ∧ Cond.initialized y.cls ∈ WS ∧ Cond.code y cc nL ret ∈ WS
def gCI (own : String) (idx : Nat) (y : MethodName) (cc : ByteArray) (nL : Nat) : Prop := Cond.methodLink own idx y ∈ WS ∧ Cond.instanceMethod y ∈ WS ∧ Cond.initialized y.cls ∈ WS ∧ Cond.code y cc nL none ∈ WS ∧ y.name = "<init>"
theorem kcX4_init : Cond.code yX4_init cX4_init 1 none ∈ WS := gws 44 (by decide +kernel) (by decide +kernel)
theorem kcX3_init : Cond.code yX3_init cX3_init 2 none ∈ WS := gws 52 (by decide +kernel) (by decide +kernel)
theorem kcX1_init : Cond.code yX1_init cX1_init 1 none ∈ WS := gws 59 (by decide +kernel) (by decide +kernel)
theorem kcX2_init : Cond.code yX2_init cX2_init 2 none ∈ WS := gws 143 (by decide +kernel) (by decide +kernel)
theorem kcX0_init : Cond.code yX0_init cX0_init 1 none ∈ WS := gws 160 (by decide +kernel) (by decide +kernel)
theorem kcX4_clearBuffer : Cond.code yX4_clearBuffer cX4_clearBuffer 1 (some .int) ∈ WS := gws 184 (by decide +kernel) (by decide +kernel)
theorem kcX0_empty : Cond.code yX0_empty cX0_empty 2 (some .int) ∈ WS := gws 188 (by decide +kernel) (by decide +kernel)
theorem kcX4_firstError : Cond.code yX4_firstError cX4_firstError 1 (some .int) ∈ WS := gws 192 (by decide +kernel) (by decide +kernel)
theorem kcX0_errorPlace : Cond.code yX0_errorPlace cX0_errorPlace 3 (some .int) ∈ WS := gws 196 (by decide +kernel) (by decide +kernel)
theorem kcX0_codeAt : Cond.code yX0_codeAt cX0_codeAt 2 (some .int) ∈ WS := gws 200 (by decide +kernel) (by decide +kernel)
theorem kcX0_stateBehind : Cond.code yX0_stateBehind cX0_stateBehind 2 (some .int) ∈ WS := gws 203 (by decide +kernel) (by decide +kernel)
theorem kcX0_isDigit : Cond.code yX0_isDigit cX0_isDigit 3 (some .boolean) ∈ WS := gws 206 (by decide +kernel) (by decide +kernel)
theorem kcX0_stateBehindSign : Cond.code yX0_stateBehindSign cX0_stateBehindSign 1 (some .int) ∈ WS := gws 209 (by decide +kernel) (by decide +kernel)
theorem kcX4_nextForgotten : Cond.code yX4_nextForgotten cX4_nextForgotten 1 (some .int) ∈ WS := gws 213 (by decide +kernel) (by decide +kernel)
theorem kcX3_beatsToForgetting : Cond.code yX3_beatsToForgetting cX3_beatsToForgetting 4 (some .int) ∈ WS := gws 217 (by decide +kernel) (by decide +kernel)
theorem kcX3_beatsLit : Cond.code yX3_beatsLit cX3_beatsLit 3 (some .int) ∈ WS := gws 221 (by decide +kernel) (by decide +kernel)
theorem kcX3_roomAt : Cond.code yX3_roomAt cX3_roomAt 2 (some (.object "CandleRooms$Room")) ∈ WS := gws 225 (by decide +kernel) (by decide +kernel)
theorem kcJ9_floorMod_7cf53 : Cond.code yJ9_floorMod_7cf53 cJ9_floorMod_7cf53 3 (some .int) ∈ WS := gws 228 (by decide +kernel) (by decide +kernel)
theorem kcX3_isInDraught : Cond.code yX3_isInDraught cX3_isInDraught 2 (some .boolean) ∈ WS := gws 232 (by decide +kernel) (by decide +kernel)
theorem kcX3_roomsBlown : Cond.code yX3_roomsBlown cX3_roomsBlown 3 (some .int) ∈ WS := gws 236 (by decide +kernel) (by decide +kernel)
theorem kcX1_beatsUntrimmed : Cond.code yX1_beatsUntrimmed cX1_beatsUntrimmed 4 (some .int) ∈ WS := gws 240 (by decide +kernel) (by decide +kernel)
theorem kcX1_burntInBeat : Cond.code yX1_burntInBeat cX1_burntInBeat 1 (some .int) ∈ WS := gws 243 (by decide +kernel) (by decide +kernel)
theorem kcX4_asNumber : Cond.code yX4_asNumber cX4_asNumber 1 (some .int) ∈ WS := gws 246 (by decide +kernel) (by decide +kernel)
theorem kcJ9_min_7cf53 : Cond.code yJ9_min_7cf53 cJ9_min_7cf53 2 (some .int) ∈ WS := gws 249 (by decide +kernel) (by decide +kernel)
theorem kcX1_beatsToFirstForgotten : Cond.code yX1_beatsToFirstForgotten cX1_beatsToFirstForgotten 5 (some .int) ∈ WS := gws 253 (by decide +kernel) (by decide +kernel)
theorem kcJ9_max_7cf53 : Cond.code yJ9_max_7cf53 cJ9_max_7cf53 2 (some .int) ∈ WS := gws 256 (by decide +kernel) (by decide +kernel)
theorem kcX4_needy : Cond.code yX4_needy cX4_needy 1 (some .int) ∈ WS := gws 261 (by decide +kernel) (by decide +kernel)
theorem kcX3_neediest : Cond.code yX3_neediest cX3_neediest 3 (some .int) ∈ WS := gws 265 (by decide +kernel) (by decide +kernel)
theorem kcX3_isNeedier : Cond.code yX3_isNeedier cX3_isNeedier 5 (some .boolean) ∈ WS := gws 269 (by decide +kernel) (by decide +kernel)
theorem kcX4_lit : Cond.code yX4_lit cX4_lit 1 (some .double) ∈ WS := gws 273 (by decide +kernel) (by decide +kernel)
theorem kcX3_shareInLight : Cond.code yX3_shareInLight cX3_shareInLight 4 (some .double) ∈ WS := gws 277 (by decide +kernel) (by decide +kernel)
theorem kcX3_thingsInAll : Cond.code yX3_thingsInAll cX3_thingsInAll 3 (some .int) ∈ WS := gws 281 (by decide +kernel) (by decide +kernel)
theorem kcX4_digest : Cond.code yX4_digest cX4_digest 4 (some .long) ∈ WS := gws 285 (by decide +kernel) (by decide +kernel)
theorem kcX4_countNumber : Cond.code yX4_countNumber cX4_countNumber 2 (some .int) ∈ WS := gws 290 (by decide +kernel) (by decide +kernel)
theorem kcX3_candlesBurning : Cond.code yX3_candlesBurning cX3_candlesBurning 3 (some .int) ∈ WS := gws 294 (by decide +kernel) (by decide +kernel)
theorem kcX4_mix : Cond.code yX4_mix cX4_mix 4 (some .long) ∈ WS := gws 299 (by decide +kernel) (by decide +kernel)
theorem kcX4_mixRoom : Cond.code yX4_mixRoom cX4_mixRoom 8 (some .long) ∈ WS := gws 304 (by decide +kernel) (by decide +kernel)
theorem kcX1_number : Cond.code yX1_number cX1_number 2 (some .int) ∈ WS := gws 309 (by decide +kernel) (by decide +kernel)
theorem kcX1_keyAt : Cond.code yX1_keyAt cX1_keyAt 2 (some .int) ∈ WS := gws 313 (by decide +kernel) (by decide +kernel)
theorem kcX1_darkAt : Cond.code yX1_darkAt cX1_darkAt 2 (some .int) ∈ WS := gws 318 (by decide +kernel) (by decide +kernel)
theorem kcX3_candlesToLight : Cond.code yX3_candlesToLight cX3_candlesToLight 4 (some .int) ∈ WS := gws 323 (by decide +kernel) (by decide +kernel)
theorem kcX3_candlesOnWay : Cond.code yX3_candlesOnWay cX3_candlesOnWay 6 (some .int) ∈ WS := gws 328 (by decide +kernel) (by decide +kernel)
theorem kcX3_areJoined : Cond.code yX3_areJoined cX3_areJoined 3 (some .boolean) ∈ WS := gws 332 (by decide +kernel) (by decide +kernel)
theorem kcX1_beatsSaved : Cond.code yX1_beatsSaved cX1_beatsSaved 1 (some .int) ∈ WS := gws 336 (by decide +kernel) (by decide +kernel)
theorem kcX4_bitsOf : Cond.code yX4_bitsOf cX4_bitsOf 8 (some .long) ∈ WS := gws 340 (by decide +kernel) (by decide +kernel)
theorem kcX4_strike : Cond.code yX4_strike cX4_strike 2 (some .int) ∈ WS := gws 353 (by decide +kernel) (by decide +kernel)
theorem kcX4_requireRoom : Cond.code yX4_requireRoom cX4_requireRoom 1 none ∈ WS := gws 356 (by decide +kernel) (by decide +kernel)
theorem kcX4_isRoom : Cond.code yX4_isRoom cX4_isRoom 1 (some .boolean) ∈ WS := gws 359 (by decide +kernel) (by decide +kernel)
theorem kcX3_canStrike : Cond.code yX3_canStrike cX3_canStrike 2 (some .boolean) ∈ WS := gws 431 (by decide +kernel) (by decide +kernel)
theorem kcX2_push : Cond.code yX2_push cX2_push 2 none ∈ WS := gws 451 (by decide +kernel) (by decide +kernel)
theorem kcX2_dropOldest : Cond.code yX2_dropOldest cX2_dropOldest 3 none ∈ WS := gws 455 (by decide +kernel) (by decide +kernel)
theorem kcX3_copyFrom : Cond.code yX3_copyFrom cX3_copyFrom 3 none ∈ WS := gws 459 (by decide +kernel) (by decide +kernel)
theorem kcX1_copyRoom : Cond.code yX1_copyRoom cX1_copyRoom 2 none ∈ WS := gws 463 (by decide +kernel) (by decide +kernel)
theorem kcX3_kindle : Cond.code yX3_kindle cX3_kindle 3 (some .int) ∈ WS := gws 470 (by decide +kernel) (by decide +kernel)
theorem kcX4_light : Cond.code yX4_light cX4_light 3 (some .int) ∈ WS := gws 477 (by decide +kernel) (by decide +kernel)
theorem kcX3_canLight : Cond.code yX3_canLight cX3_canLight 4 (some .boolean) ∈ WS := gws 481 (by decide +kernel) (by decide +kernel)
theorem kcX4_fresh : Cond.code yX4_fresh cX4_fresh 2 (some .int) ∈ WS := gws 489 (by decide +kernel) (by decide +kernel)
theorem kcX3_hasNewCandle : Cond.code yX3_hasNewCandle cX3_hasNewCandle 1 (some .boolean) ∈ WS := gws 493 (by decide +kernel) (by decide +kernel)
theorem kcX3_putNewCandle : Cond.code yX3_putNewCandle cX3_putNewCandle 2 (some .int) ∈ WS := gws 498 (by decide +kernel) (by decide +kernel)
theorem kcX1_takeNewCandle : Cond.code yX1_takeNewCandle cX1_takeNewCandle 1 none ∈ WS := gws 502 (by decide +kernel) (by decide +kernel)
theorem kcX4_door : Cond.code yX4_door cX4_door 5 (some .int) ∈ WS := gws 509 (by decide +kernel) (by decide +kernel)
theorem kcX4_shield : Cond.code yX4_shield cX4_shield 5 (some .int) ∈ WS := gws 518 (by decide +kernel) (by decide +kernel)
theorem kcX4_draught : Cond.code yX4_draught cX4_draught 3 (some .int) ∈ WS := gws 526 (by decide +kernel) (by decide +kernel)
theorem kcX3_beginDraught : Cond.code yX3_beginDraught cX3_beginDraught 3 (some .int) ∈ WS := gws 546 (by decide +kernel) (by decide +kernel)
theorem kcX3_candlesBurningFrom : Cond.code yX3_candlesBurningFrom cX3_candlesBurningFrom 5 (some .int) ∈ WS := gws 550 (by decide +kernel) (by decide +kernel)
theorem kcX4_set : Cond.code yX4_set cX4_set 3 (some .int) ∈ WS := gws 557 (by decide +kernel) (by decide +kernel)
theorem kcX4_keep : Cond.code yX4_keep cX4_keep 3 (some .int) ∈ WS := gws 565 (by decide +kernel) (by decide +kernel)
theorem kcX4_requireKey : Cond.code yX4_requireKey cX4_requireKey 1 none ∈ WS := gws 568 (by decide +kernel) (by decide +kernel)
theorem kcX3_canKeep : Cond.code yX3_canKeep cX3_canKeep 3 (some .boolean) ∈ WS := gws 573 (by decide +kernel) (by decide +kernel)
theorem kcX3_roomOf : Cond.code yX3_roomOf cX3_roomOf 3 (some .int) ∈ WS := gws 577 (by decide +kernel) (by decide +kernel)
theorem kcX1_placeOf : Cond.code yX1_placeOf cX1_placeOf 3 (some .int) ∈ WS := gws 581 (by decide +kernel) (by decide +kernel)
theorem kcX3_putThing : Cond.code yX3_putThing cX3_putThing 4 (some .int) ∈ WS := gws 586 (by decide +kernel) (by decide +kernel)
theorem kcX1_addThing : Cond.code yX1_addThing cX1_addThing 2 none ∈ WS := gws 590 (by decide +kernel) (by decide +kernel)
theorem kcX4_read : Cond.code yX4_read cX4_read 2 (some .int) ∈ WS := gws 597 (by decide +kernel) (by decide +kernel)
theorem kcX3_readThing : Cond.code yX3_readThing cX3_readThing 4 (some .int) ∈ WS := gws 601 (by decide +kernel) (by decide +kernel)
theorem kcX3_passBeats : Cond.code yX3_passBeats cX3_passBeats 4 (some .int) ∈ WS := gws 605 (by decide +kernel) (by decide +kernel)
theorem kcX3_passBeat : Cond.code yX3_passBeat cX3_passBeat 3 (some .int) ∈ WS := gws 609 (by decide +kernel) (by decide +kernel)
theorem kcX1_burnForBeat : Cond.code yX1_burnForBeat cX1_burnForBeat 1 none ∈ WS := gws 613 (by decide +kernel) (by decide +kernel)
theorem kcX3_blow : Cond.code yX3_blow cX3_blow 3 none ∈ WS := gws 617 (by decide +kernel) (by decide +kernel)
theorem kcX1_ageThings : Cond.code yX1_ageThings cX1_ageThings 5 (some .int) ∈ WS := gws 621 (by decide +kernel) (by decide +kernel)
theorem kcX4_pass : Cond.code yX4_pass cX4_pass 2 (some .int) ∈ WS := gws 628 (by decide +kernel) (by decide +kernel)
theorem kcX4_append : Cond.code yX4_append cX4_append 2 (some .int) ∈ WS := gws 637 (by decide +kernel) (by decide +kernel)
theorem kcX0_isFull : Cond.code yX0_isFull cX0_isFull 1 (some .boolean) ∈ WS := gws 642 (by decide +kernel) (by decide +kernel)
theorem kcX0_add : Cond.code yX0_add cX0_add 2 (some .int) ∈ WS := gws 647 (by decide +kernel) (by decide +kernel)
theorem kcX4_play : Cond.code yX4_play cX4_play 2 (some .int) ∈ WS := gws 655 (by decide +kernel) (by decide +kernel)
theorem kcX0_isComplete : Cond.code yX0_isComplete cX0_isComplete 3 (some .boolean) ∈ WS := gws 659 (by decide +kernel) (by decide +kernel)
theorem kcX4_playDeeds : Cond.code yX4_playDeeds cX4_playDeeds 3 (some .int) ∈ WS := gws 664 (by decide +kernel) (by decide +kernel)
theorem kcX0_startsPart : Cond.code yX0_startsPart cX0_startsPart 2 (some .boolean) ∈ WS := gws 668 (by decide +kernel) (by decide +kernel)
theorem kcX4_playDeed : Cond.code yX4_playDeed cX4_playDeed 4 (some .boolean) ∈ WS := gws 672 (by decide +kernel) (by decide +kernel)
theorem kcX0_digitAt : Cond.code yX0_digitAt cX0_digitAt 3 (some .int) ∈ WS := gws 676 (by decide +kernel) (by decide +kernel)
theorem kcX0_numberFrom : Cond.code yX0_numberFrom cX0_numberFrom 4 (some .int) ∈ WS := gws 680 (by decide +kernel) (by decide +kernel)
theorem kcX3_strikeIfPossible : Cond.code yX3_strikeIfPossible cX3_strikeIfPossible 2 (some .boolean) ∈ WS := gws 686 (by decide +kernel) (by decide +kernel)
theorem kcX3_lightIfPossible : Cond.code yX3_lightIfPossible cX3_lightIfPossible 3 (some .boolean) ∈ WS := gws 693 (by decide +kernel) (by decide +kernel)
theorem kcX3_renewIfPossible : Cond.code yX3_renewIfPossible cX3_renewIfPossible 2 (some .boolean) ∈ WS := gws 698 (by decide +kernel) (by decide +kernel)
theorem kcX3_keepIfPossible : Cond.code yX3_keepIfPossible cX3_keepIfPossible 3 (some .boolean) ∈ WS := gws 704 (by decide +kernel) (by decide +kernel)
theorem kcX4_undo : Cond.code yX4_undo cX4_undo 1 (some .int) ∈ WS := gws 713 (by decide +kernel) (by decide +kernel)
theorem kcX2_popInto : Cond.code yX2_popInto cX2_popInto 2 (some .int) ∈ WS := gws 718 (by decide +kernel) (by decide +kernel)
theorem kcX4_room : Cond.code yX4_room cX4_room 3 (some .int) ∈ WS := gws 725 (by decide +kernel) (by decide +kernel)
theorem kcX4_requireNumber : Cond.code yX4_requireNumber cX4_requireNumber 2 none ∈ WS := gws 728 (by decide +kernel) (by decide +kernel)
theorem kcX4_thing : Cond.code yX4_thing cX4_thing 3 (some .int) ∈ WS := gws 736 (by decide +kernel) (by decide +kernel)
theorem kcX3_thingNumber : Cond.code yX3_thingNumber cX3_thingNumber 6 (some .int) ∈ WS := gws 740 (by decide +kernel) (by decide +kernel)
theorem kcX4_count : Cond.code yX4_count cX4_count 2 (some .int) ∈ WS := gws 748 (by decide +kernel) (by decide +kernel)
theorem kcX4_lasts : Cond.code yX4_lasts cX4_lasts 2 (some .int) ∈ WS := gws 755 (by decide +kernel) (by decide +kernel)
theorem kcX4_carried : Cond.code yX4_carried cX4_carried 2 (some .int) ∈ WS := gws 762 (by decide +kernel) (by decide +kernel)
theorem kcX4_saves : Cond.code yX4_saves cX4_saves 2 (some .int) ∈ WS := gws 769 (by decide +kernel) (by decide +kernel)
theorem kcX5_init : Cond.code yX5_init cX5_init 2 none ∈ WS := gws 774 (by decide +kernel) (by decide +kernel)
theorem kcX5_thrown : Cond.code yX5_thrown cX5_thrown 1 (some .int) ∈ WS := gws 813 (by decide +kernel) (by decide +kernel)
theorem kcX5_undo : Cond.code yX5_undo cX5_undo 1 (some .int) ∈ WS := gws 817 (by decide +kernel) (by decide +kernel)
theorem kcX5_fails : Cond.code yX5_fails cX5_fails 2 (some .int) ∈ WS := gws 821 (by decide +kernel) (by decide +kernel)
theorem kcX5_copies : Cond.code yX5_copies cX5_copies 5 none ∈ WS := gws 824 (by decide +kernel) (by decide +kernel)
theorem kcX5_strike : Cond.code yX5_strike cX5_strike 2 (some .int) ∈ WS := gws 828 (by decide +kernel) (by decide +kernel)
theorem kcX5_isRoom : Cond.code yX5_isRoom cX5_isRoom 1 (some .boolean) ∈ WS := gws 831 (by decide +kernel) (by decide +kernel)
theorem kcX5_in : Cond.code yX5_in cX5_in 3 (some .boolean) ∈ WS := gws 834 (by decide +kernel) (by decide +kernel)
theorem kcX5_mayStrike : Cond.code yX5_mayStrike cX5_mayStrike 2 (some .boolean) ∈ WS := gws 837 (by decide +kernel) (by decide +kernel)
theorem kcX5_burning : Cond.code yX5_burning cX5_burning 3 (some .int) ∈ WS := gws 840 (by decide +kernel) (by decide +kernel)
theorem kcX5_of : Cond.code yX5_of cX5_of 3 (some .int) ∈ WS := gws 843 (by decide +kernel) (by decide +kernel)
theorem kcX5_keepsState : Cond.code yX5_keepsState cX5_keepsState 2 none ∈ WS := gws 847 (by decide +kernel) (by decide +kernel)
theorem kcX5_lights : Cond.code yX5_lights cX5_lights 2 none ∈ WS := gws 850 (by decide +kernel) (by decide +kernel)
theorem kcX5_light : Cond.code yX5_light cX5_light 3 (some .int) ∈ WS := gws 854 (by decide +kernel) (by decide +kernel)
theorem kcX5_mayLight : Cond.code yX5_mayLight cX5_mayLight 3 (some .boolean) ∈ WS := gws 857 (by decide +kernel) (by decide +kernel)
theorem kcX5_isLit : Cond.code yX5_isLit cX5_isLit 2 (some .boolean) ∈ WS := gws 860 (by decide +kernel) (by decide +kernel)
theorem kcX5_isOpen : Cond.code yX5_isOpen cX5_isOpen 3 (some .boolean) ∈ WS := gws 863 (by decide +kernel) (by decide +kernel)
theorem kcX5_fresh : Cond.code yX5_fresh cX5_fresh 2 (some .int) ∈ WS := gws 867 (by decide +kernel) (by decide +kernel)
theorem kcX5_renews : Cond.code yX5_renews cX5_renews 2 none ∈ WS := gws 870 (by decide +kernel) (by decide +kernel)
theorem kcX5_door : Cond.code yX5_door cX5_door 3 (some .int) ∈ WS := gws 874 (by decide +kernel) (by decide +kernel)
theorem kcX5_switches : Cond.code yX5_switches cX5_switches 5 (some .int) ∈ WS := gws 878 (by decide +kernel) (by decide +kernel)
theorem kcX5_shield : Cond.code yX5_shield cX5_shield 3 (some .int) ∈ WS := gws 882 (by decide +kernel) (by decide +kernel)
theorem kcX5_draught : Cond.code yX5_draught cX5_draught 3 (some .int) ∈ WS := gws 886 (by decide +kernel) (by decide +kernel)
theorem kcX5_blows : Cond.code yX5_blows cX5_blows 5 (some .int) ∈ WS := gws 889 (by decide +kernel) (by decide +kernel)
theorem kcX5_reaches : Cond.code yX5_reaches cX5_reaches 5 (some .int) ∈ WS := gws 892 (by decide +kernel) (by decide +kernel)
theorem kcX5_set : Cond.code yX5_set cX5_set 3 (some .int) ∈ WS := gws 896 (by decide +kernel) (by decide +kernel)
theorem kcX5_keep : Cond.code yX5_keep cX5_keep 3 (some .int) ∈ WS := gws 900 (by decide +kernel) (by decide +kernel)
theorem kcX5_mayKeep : Cond.code yX5_mayKeep cX5_mayKeep 3 (some .boolean) ∈ WS := gws 903 (by decide +kernel) (by decide +kernel)
theorem kcX5_find : Cond.code yX5_find cX5_find 3 (some .int) ∈ WS := gws 906 (by decide +kernel) (by decide +kernel)
theorem kcX5_keeps : Cond.code yX5_keeps cX5_keeps 4 (some .int) ∈ WS := gws 909 (by decide +kernel) (by decide +kernel)
theorem kcX5_read : Cond.code yX5_read cX5_read 5 (some .int) ∈ WS := gws 913 (by decide +kernel) (by decide +kernel)
theorem kcX5_beats : Cond.code yX5_beats cX5_beats 4 none ∈ WS := gws 916 (by decide +kernel) (by decide +kernel)
theorem kcX5_burns : Cond.code yX5_burns cX5_burns 4 none ∈ WS := gws 919 (by decide +kernel) (by decide +kernel)
theorem kcX5_draws : Cond.code yX5_draws cX5_draws 3 none ∈ WS := gws 922 (by decide +kernel) (by decide +kernel)
theorem kcX5_ages : Cond.code yX5_ages cX5_ages 6 none ∈ WS := gws 925 (by decide +kernel) (by decide +kernel)
theorem kcX5_pass : Cond.code yX5_pass cX5_pass 3 (some .int) ∈ WS := gws 929 (by decide +kernel) (by decide +kernel)
theorem kcX5_append : Cond.code yX5_append cX5_append 2 (some .int) ∈ WS := gws 933 (by decide +kernel) (by decide +kernel)
theorem kcX5_clearBuffer : Cond.code yX5_clearBuffer cX5_clearBuffer 2 (some .int) ∈ WS := gws 937 (by decide +kernel) (by decide +kernel)
theorem kcX5_firstError : Cond.code yX5_firstError cX5_firstError 2 (some .int) ∈ WS := gws 941 (by decide +kernel) (by decide +kernel)
theorem kcX5_isText : Cond.code yX5_isText cX5_isText 2 (some .boolean) ∈ WS := gws 945 (by decide +kernel) (by decide +kernel)
theorem kcX5_isPart : Cond.code yX5_isPart cX5_isPart 2 (some .boolean) ∈ WS := gws 949 (by decide +kernel) (by decide +kernel)
theorem kcX5_isAt : Cond.code yX5_isAt cX5_isAt 3 (some .boolean) ∈ WS := gws 953 (by decide +kernel) (by decide +kernel)
theorem kcX5_stops : Cond.code yX5_stops cX5_stops 1 (some .boolean) ∈ WS := gws 957 (by decide +kernel) (by decide +kernel)
theorem kcX5_isNumber : Cond.code yX5_isNumber cX5_isNumber 5 (some .boolean) ∈ WS := gws 961 (by decide +kernel) (by decide +kernel)
theorem kcX5_play : Cond.code yX5_play cX5_play 2 (some .int) ∈ WS := gws 965 (by decide +kernel) (by decide +kernel)
theorem kcX5_does : Cond.code yX5_does cX5_does 8 (some .boolean) ∈ WS := gws 969 (by decide +kernel) (by decide +kernel)
theorem kcX5_room : Cond.code yX5_room cX5_room 3 (some .int) ∈ WS := gws 973 (by decide +kernel) (by decide +kernel)
theorem kcX5_ofRoom : Cond.code yX5_ofRoom cX5_ofRoom 3 (some .int) ∈ WS := gws 977 (by decide +kernel) (by decide +kernel)
theorem kcX5_thing : Cond.code yX5_thing cX5_thing 4 (some .int) ∈ WS := gws 981 (by decide +kernel) (by decide +kernel)
theorem kcX5_count : Cond.code yX5_count cX5_count 2 (some .int) ∈ WS := gws 985 (by decide +kernel) (by decide +kernel)
theorem kcX5_counted : Cond.code yX5_counted cX5_counted 2 (some .int) ∈ WS := gws 989 (by decide +kernel) (by decide +kernel)
theorem kcX5_things : Cond.code yX5_things cX5_things 3 (some .int) ∈ WS := gws 993 (by decide +kernel) (by decide +kernel)
theorem kcX5_lasts : Cond.code yX5_lasts cX5_lasts 2 (some .int) ∈ WS := gws 997 (by decide +kernel) (by decide +kernel)
theorem kcX5_stays : Cond.code yX5_stays cX5_stays 3 (some .int) ∈ WS := gws 1001 (by decide +kernel) (by decide +kernel)
theorem kcX5_nextForgotten : Cond.code yX5_nextForgotten cX5_nextForgotten 1 (some .int) ∈ WS := gws 1005 (by decide +kernel) (by decide +kernel)
theorem kcX5_firstForgotten : Cond.code yX5_firstForgotten cX5_firstForgotten 2 (some .int) ∈ WS := gws 1009 (by decide +kernel) (by decide +kernel)
theorem kcX5_carried : Cond.code yX5_carried cX5_carried 2 (some .int) ∈ WS := gws 1013 (by decide +kernel) (by decide +kernel)
theorem kcX5_fewest : Cond.code yX5_fewest cX5_fewest 4 (some .int) ∈ WS := gws 1017 (by decide +kernel) (by decide +kernel)
theorem kcX5_way : Cond.code yX5_way cX5_way 6 (some .int) ∈ WS := gws 1021 (by decide +kernel) (by decide +kernel)
theorem kcX5_needy : Cond.code yX5_needy cX5_needy 1 (some .int) ∈ WS := gws 1025 (by decide +kernel) (by decide +kernel)
theorem kcX5_neediest : Cond.code yX5_neediest cX5_neediest 4 (some .int) ∈ WS := gws 1029 (by decide +kernel) (by decide +kernel)
theorem kcX5_saves : Cond.code yX5_saves cX5_saves 2 (some .int) ∈ WS := gws 1033 (by decide +kernel) (by decide +kernel)
theorem kcX5_saved : Cond.code yX5_saved cX5_saved 3 (some .int) ∈ WS := gws 1037 (by decide +kernel) (by decide +kernel)
theorem kcX5_lit : Cond.code yX5_lit cX5_lit 1 (some .double) ∈ WS := gws 1041 (by decide +kernel) (by decide +kernel)
theorem kcX5_share : Cond.code yX5_share cX5_share 3 (some .double) ∈ WS := gws 1045 (by decide +kernel) (by decide +kernel)
theorem kcX5_digest : Cond.code yX5_digest cX5_digest 5 (some .long) ∈ WS := gws 1049 (by decide +kernel) (by decide +kernel)
theorem kcJxe99ae_doubleToLongBits_ccdee : Cond.code yJxe99ae_doubleToLongBits_ccdee cJxe99ae_doubleToLongBits_ccdee 2 (some .long) ∈ WS := gws 1054 (by decide +kernel) (by decide +kernel)
theorem kcJxe99ae_isNaN_b9ae7 : Cond.code yJxe99ae_isNaN_b9ae7 cJxe99ae_isNaN_b9ae7 2 (some .boolean) ∈ WS := gws 1057 (by decide +kernel) (by decide +kernel)
theorem cwX0_19 : gCV RX0 19 RX0 yX0_isFull cX0_isFull 1 (some .boolean) := ⟨gws 648 (by decide +kernel) (by decide +kernel), gws 640 (by decide +kernel) (by decide +kernel), gws 641 (by decide +kernel) (by decide +kernel), gws 29 (by decide +kernel) (by decide +kernel), kcX0_isFull, rfl⟩
theorem cwX0_23 : gCV RX0 23 RX0 yX0_codeAt cX0_codeAt 2 (some .int) := ⟨gws 197 (by decide +kernel) (by decide +kernel), gws 198 (by decide +kernel) (by decide +kernel), gws 199 (by decide +kernel) (by decide +kernel), gws 29 (by decide +kernel) (by decide +kernel), kcX0_codeAt, rfl⟩
theorem cwX0_27 : gCS RX0 27 yX0_isDigit cX0_isDigit 3 (some .boolean) := ⟨gws 204 (by decide +kernel) (by decide +kernel), gws 205 (by decide +kernel) (by decide +kernel), gws 29 (by decide +kernel) (by decide +kernel), kcX0_isDigit⟩
theorem cwX0_31 : gCV RX0 31 RX0 yX0_digitAt cX0_digitAt 3 (some .int) := ⟨gws 681 (by decide +kernel) (by decide +kernel), gws 674 (by decide +kernel) (by decide +kernel), gws 675 (by decide +kernel) (by decide +kernel), gws 29 (by decide +kernel) (by decide +kernel), kcX0_digitAt, rfl⟩
theorem cwX0_34 : gCS RX0 34 yJ9_max_7cf53 cJ9_max_7cf53 2 (some .int) := ⟨gws 682 (by decide +kernel) (by decide +kernel), gws 255 (by decide +kernel) (by decide +kernel), gws 35 (by decide +kernel) (by decide +kernel), kcJ9_max_7cf53⟩
theorem cwX0_40 : gCS RX0 40 yX0_stateBehind cX0_stateBehind 2 (some .int) := ⟨gws 201 (by decide +kernel) (by decide +kernel), gws 202 (by decide +kernel) (by decide +kernel), gws 29 (by decide +kernel) (by decide +kernel), kcX0_stateBehind⟩
theorem cwX0_43 : gCS RX0 43 yX0_stateBehindSign cX0_stateBehindSign 1 (some .int) := ⟨gws 207 (by decide +kernel) (by decide +kernel), gws 208 (by decide +kernel) (by decide +kernel), gws 29 (by decide +kernel) (by decide +kernel), kcX0_stateBehindSign⟩
theorem cwX1_51 : gCV RX1 51 RX1 yX1_keyAt cX1_keyAt 2 (some .int) := ⟨gws 310 (by decide +kernel) (by decide +kernel), gws 311 (by decide +kernel) (by decide +kernel), gws 312 (by decide +kernel) (by decide +kernel), gws 27 (by decide +kernel) (by decide +kernel), kcX1_keyAt, rfl⟩
theorem cwX1_55 : gCS RX1 55 yX1_burntInBeat cX1_burntInBeat 1 (some .int) := ⟨gws 241 (by decide +kernel) (by decide +kernel), gws 242 (by decide +kernel) (by decide +kernel), gws 27 (by decide +kernel) (by decide +kernel), kcX1_burntInBeat⟩
theorem cwX1_58 : gCS RX1 58 yJ9_max_7cf53 cJ9_max_7cf53 2 (some .int) := ⟨gws 254 (by decide +kernel) (by decide +kernel), gws 255 (by decide +kernel) (by decide +kernel), gws 35 (by decide +kernel) (by decide +kernel), kcJ9_max_7cf53⟩
theorem cwX1_64 : gCS RX1 64 yJ9_min_7cf53 cJ9_min_7cf53 2 (some .int) := ⟨gws 247 (by decide +kernel) (by decide +kernel), gws 248 (by decide +kernel) (by decide +kernel), gws 35 (by decide +kernel) (by decide +kernel), kcJ9_min_7cf53⟩
theorem cwX1_67 : gCV RX1 67 RX1 yX1_beatsUntrimmed cX1_beatsUntrimmed 4 (some .int) := ⟨gws 337 (by decide +kernel) (by decide +kernel), gws 238 (by decide +kernel) (by decide +kernel), gws 239 (by decide +kernel) (by decide +kernel), gws 27 (by decide +kernel) (by decide +kernel), kcX1_beatsUntrimmed, rfl⟩
theorem cwX2_17 : gCI RX2 17 yX3_init cX3_init 2 := ⟨gws 147 (by decide +kernel) (by decide +kernel), gws 51 (by decide +kernel) (by decide +kernel), gws 26 (by decide +kernel) (by decide +kernel), kcX3_init, rfl⟩
theorem cwX2_22 : gCV RX2 22 RX2 yX2_dropOldest cX2_dropOldest 3 none := ⟨gws 452 (by decide +kernel) (by decide +kernel), gws 453 (by decide +kernel) (by decide +kernel), gws 454 (by decide +kernel) (by decide +kernel), gws 28 (by decide +kernel) (by decide +kernel), kcX2_dropOldest, rfl⟩
theorem cwX2_25 : gCV RX2 25 RX3 yX3_copyFrom cX3_copyFrom 3 none := ⟨gws 456 (by decide +kernel) (by decide +kernel), gws 457 (by decide +kernel) (by decide +kernel), gws 458 (by decide +kernel) (by decide +kernel), gws 26 (by decide +kernel) (by decide +kernel), kcX3_copyFrom, rfl⟩
theorem cwX3_102 : gCV RX3 102 RX3 yX3_canLight cX3_canLight 4 (some .boolean) := ⟨gws 694 (by decide +kernel) (by decide +kernel), gws 479 (by decide +kernel) (by decide +kernel), gws 480 (by decide +kernel) (by decide +kernel), gws 26 (by decide +kernel) (by decide +kernel), kcX3_canLight, rfl⟩
theorem cwX3_105 : gCV RX3 105 RX1 yX1_takeNewCandle cX1_takeNewCandle 1 none := ⟨gws 499 (by decide +kernel) (by decide +kernel), gws 500 (by decide +kernel) (by decide +kernel), gws 501 (by decide +kernel) (by decide +kernel), gws 27 (by decide +kernel) (by decide +kernel), kcX1_takeNewCandle, rfl⟩
theorem cwX3_108 : gCV RX3 108 RX3 yX3_hasNewCandle cX3_hasNewCandle 1 (some .boolean) := ⟨gws 699 (by decide +kernel) (by decide +kernel), gws 491 (by decide +kernel) (by decide +kernel), gws 492 (by decide +kernel) (by decide +kernel), gws 26 (by decide +kernel) (by decide +kernel), kcX3_hasNewCandle, rfl⟩
theorem cwX3_112 : gCV RX3 112 RX3 yX3_putNewCandle cX3_putNewCandle 2 (some .int) := ⟨gws 700 (by decide +kernel) (by decide +kernel), gws 496 (by decide +kernel) (by decide +kernel), gws 497 (by decide +kernel) (by decide +kernel), gws 26 (by decide +kernel) (by decide +kernel), kcX3_putNewCandle, rfl⟩
theorem cwX3_115 : gCV RX3 115 RX1 yX1_addThing cX1_addThing 2 none := ⟨gws 587 (by decide +kernel) (by decide +kernel), gws 588 (by decide +kernel) (by decide +kernel), gws 589 (by decide +kernel) (by decide +kernel), gws 27 (by decide +kernel) (by decide +kernel), kcX1_addThing, rfl⟩
theorem cwX3_119 : gCV RX3 119 RX3 yX3_canKeep cX3_canKeep 3 (some .boolean) := ⟨gws 705 (by decide +kernel) (by decide +kernel), gws 571 (by decide +kernel) (by decide +kernel), gws 572 (by decide +kernel) (by decide +kernel), gws 26 (by decide +kernel) (by decide +kernel), kcX3_canKeep, rfl⟩
theorem cwX3_122 : gCV RX3 122 RX3 yX3_putThing cX3_putThing 4 (some .int) := ⟨gws 706 (by decide +kernel) (by decide +kernel), gws 584 (by decide +kernel) (by decide +kernel), gws 585 (by decide +kernel) (by decide +kernel), gws 26 (by decide +kernel) (by decide +kernel), kcX3_putThing, rfl⟩
theorem cwX3_125 : gCV RX3 125 RX3 yX3_roomsBlown cX3_roomsBlown 3 (some .int) := ⟨gws 233 (by decide +kernel) (by decide +kernel), gws 234 (by decide +kernel) (by decide +kernel), gws 235 (by decide +kernel) (by decide +kernel), gws 26 (by decide +kernel) (by decide +kernel), kcX3_roomsBlown, rfl⟩
theorem cwX3_128 : gCV RX3 128 RX3 yX3_candlesBurningFrom cX3_candlesBurningFrom 5 (some .int) := ⟨gws 547 (by decide +kernel) (by decide +kernel), gws 548 (by decide +kernel) (by decide +kernel), gws 549 (by decide +kernel) (by decide +kernel), gws 26 (by decide +kernel) (by decide +kernel), kcX3_candlesBurningFrom, rfl⟩
theorem cwX3_134 : gCV RX3 134 RX3 yX3_passBeat cX3_passBeat 3 (some .int) := ⟨gws 606 (by decide +kernel) (by decide +kernel), gws 607 (by decide +kernel) (by decide +kernel), gws 608 (by decide +kernel) (by decide +kernel), gws 26 (by decide +kernel) (by decide +kernel), kcX3_passBeat, rfl⟩
theorem cwX3_137 : gCV RX3 137 RX1 yX1_burnForBeat cX1_burnForBeat 1 none := ⟨gws 610 (by decide +kernel) (by decide +kernel), gws 611 (by decide +kernel) (by decide +kernel), gws 612 (by decide +kernel) (by decide +kernel), gws 27 (by decide +kernel) (by decide +kernel), kcX1_burnForBeat, rfl⟩
theorem cwX3_140 : gCV RX3 140 RX3 yX3_blow cX3_blow 3 none := ⟨gws 614 (by decide +kernel) (by decide +kernel), gws 615 (by decide +kernel) (by decide +kernel), gws 616 (by decide +kernel) (by decide +kernel), gws 26 (by decide +kernel) (by decide +kernel), kcX3_blow, rfl⟩
theorem cwX3_143 : gCV RX3 143 RX1 yX1_ageThings cX1_ageThings 5 (some .int) := ⟨gws 618 (by decide +kernel) (by decide +kernel), gws 619 (by decide +kernel) (by decide +kernel), gws 620 (by decide +kernel) (by decide +kernel), gws 27 (by decide +kernel) (by decide +kernel), kcX1_ageThings, rfl⟩
theorem cwX3_149 : gCV RX3 149 RX3 yX3_passBeats cX3_passBeats 4 (some .int) := ⟨gws 602 (by decide +kernel) (by decide +kernel), gws 603 (by decide +kernel) (by decide +kernel), gws 604 (by decide +kernel) (by decide +kernel), gws 26 (by decide +kernel) (by decide +kernel), kcX3_passBeats, rfl⟩
theorem cwX3_152 : gCV RX3 152 RX3 yX3_isInDraught cX3_isInDraught 2 (some .boolean) := ⟨gws 229 (by decide +kernel) (by decide +kernel), gws 230 (by decide +kernel) (by decide +kernel), gws 231 (by decide +kernel) (by decide +kernel), gws 26 (by decide +kernel) (by decide +kernel), kcX3_isInDraught, rfl⟩
theorem cwX3_155 : gCV RX3 155 RX1 yX1_beatsUntrimmed cX1_beatsUntrimmed 4 (some .int) := ⟨gws 237 (by decide +kernel) (by decide +kernel), gws 238 (by decide +kernel) (by decide +kernel), gws 239 (by decide +kernel) (by decide +kernel), gws 27 (by decide +kernel) (by decide +kernel), kcX1_beatsUntrimmed, rfl⟩
theorem cwX3_158 : gCV RX3 158 RX3 yX3_beatsLit cX3_beatsLit 3 (some .int) := ⟨gws 218 (by decide +kernel) (by decide +kernel), gws 219 (by decide +kernel) (by decide +kernel), gws 220 (by decide +kernel) (by decide +kernel), gws 26 (by decide +kernel) (by decide +kernel), kcX3_beatsLit, rfl⟩
theorem cwX3_161 : gCV RX3 161 RX1 yX1_beatsToFirstForgotten cX1_beatsToFirstForgotten 5 (some .int) := ⟨gws 250 (by decide +kernel) (by decide +kernel), gws 251 (by decide +kernel) (by decide +kernel), gws 252 (by decide +kernel) (by decide +kernel), gws 27 (by decide +kernel) (by decide +kernel), kcX1_beatsToFirstForgotten, rfl⟩
theorem cwX3_164 : gCS RX3 164 yJ9_min_7cf53 cJ9_min_7cf53 2 (some .int) := ⟨gws 257 (by decide +kernel) (by decide +kernel), gws 248 (by decide +kernel) (by decide +kernel), gws 35 (by decide +kernel) (by decide +kernel), kcJ9_min_7cf53⟩
theorem cwX3_167 : gCV RX3 167 RX3 yX3_candlesOnWay cX3_candlesOnWay 6 (some .int) := ⟨gws 325 (by decide +kernel) (by decide +kernel), gws 326 (by decide +kernel) (by decide +kernel), gws 327 (by decide +kernel) (by decide +kernel), gws 26 (by decide +kernel) (by decide +kernel), kcX3_candlesOnWay, rfl⟩
theorem cwX3_17 : gCI RX3 17 yX1_init cX1_init 1 := ⟨gws 57 (by decide +kernel) (by decide +kernel), gws 58 (by decide +kernel) (by decide +kernel), gws 27 (by decide +kernel) (by decide +kernel), kcX1_init, rfl⟩
theorem cwX3_170 : gCV RX3 170 RX3 yX3_isNeedier cX3_isNeedier 5 (some .boolean) := ⟨gws 266 (by decide +kernel) (by decide +kernel), gws 267 (by decide +kernel) (by decide +kernel), gws 268 (by decide +kernel) (by decide +kernel), gws 26 (by decide +kernel) (by decide +kernel), kcX3_isNeedier, rfl⟩
theorem cwX3_173 : gCV RX3 173 RX3 yX3_thingsInAll cX3_thingsInAll 3 (some .int) := ⟨gws 278 (by decide +kernel) (by decide +kernel), gws 279 (by decide +kernel) (by decide +kernel), gws 280 (by decide +kernel) (by decide +kernel), gws 26 (by decide +kernel) (by decide +kernel), kcX3_thingsInAll, rfl⟩
theorem cwX3_28 : gCV RX3 28 RX1 yX1_copyRoom cX1_copyRoom 2 none := ⟨gws 460 (by decide +kernel) (by decide +kernel), gws 461 (by decide +kernel) (by decide +kernel), gws 462 (by decide +kernel) (by decide +kernel), gws 27 (by decide +kernel) (by decide +kernel), kcX1_copyRoom, rfl⟩
theorem cwX3_50 : gCS RX3 50 yJ9_floorMod_7cf53 cJ9_floorMod_7cf53 3 (some .int) := ⟨gws 226 (by decide +kernel) (by decide +kernel), gws 227 (by decide +kernel) (by decide +kernel), gws 35 (by decide +kernel) (by decide +kernel), kcJ9_floorMod_7cf53⟩
theorem cwX3_64 : gCV RX3 64 RX3 yX3_roomAt cX3_roomAt 2 (some (.object "CandleRooms$Room")) := ⟨gws 222 (by decide +kernel) (by decide +kernel), gws 223 (by decide +kernel) (by decide +kernel), gws 224 (by decide +kernel) (by decide +kernel), gws 26 (by decide +kernel) (by decide +kernel), kcX3_roomAt, rfl⟩
theorem cwX3_71 : gCV RX3 71 RX1 yX1_placeOf cX1_placeOf 3 (some .int) := ⟨gws 578 (by decide +kernel) (by decide +kernel), gws 579 (by decide +kernel) (by decide +kernel), gws 580 (by decide +kernel) (by decide +kernel), gws 27 (by decide +kernel) (by decide +kernel), kcX1_placeOf, rfl⟩
theorem cwX3_75 : gCV RX3 75 RX3 yX3_roomOf cX3_roomOf 3 (some .int) := ⟨gws 574 (by decide +kernel) (by decide +kernel), gws 575 (by decide +kernel) (by decide +kernel), gws 576 (by decide +kernel) (by decide +kernel), gws 26 (by decide +kernel) (by decide +kernel), kcX3_roomOf, rfl⟩
theorem cwX3_78 : gCV RX3 78 RX1 yX1_darkAt cX1_darkAt 2 (some .int) := ⟨gws 741 (by decide +kernel) (by decide +kernel), gws 316 (by decide +kernel) (by decide +kernel), gws 317 (by decide +kernel) (by decide +kernel), gws 27 (by decide +kernel) (by decide +kernel), kcX1_darkAt, rfl⟩
theorem cwX3_81 : gCV RX3 81 RX3 yX3_candlesBurning cX3_candlesBurning 3 (some .int) := ⟨gws 324 (by decide +kernel) (by decide +kernel), gws 292 (by decide +kernel) (by decide +kernel), gws 293 (by decide +kernel) (by decide +kernel), gws 26 (by decide +kernel) (by decide +kernel), kcX3_candlesBurning, rfl⟩
theorem cwX3_88 : gCV RX3 88 RX3 yX3_areJoined cX3_areJoined 3 (some .boolean) := ⟨gws 329 (by decide +kernel) (by decide +kernel), gws 330 (by decide +kernel) (by decide +kernel), gws 331 (by decide +kernel) (by decide +kernel), gws 26 (by decide +kernel) (by decide +kernel), kcX3_areJoined, rfl⟩
theorem cwX3_95 : gCV RX3 95 RX3 yX3_canStrike cX3_canStrike 2 (some .boolean) := ⟨gws 687 (by decide +kernel) (by decide +kernel), gws 429 (by decide +kernel) (by decide +kernel), gws 430 (by decide +kernel) (by decide +kernel), gws 26 (by decide +kernel) (by decide +kernel), kcX3_canStrike, rfl⟩
theorem cwX3_99 : gCV RX3 99 RX3 yX3_kindle cX3_kindle 3 (some .int) := ⟨gws 688 (by decide +kernel) (by decide +kernel), gws 468 (by decide +kernel) (by decide +kernel), gws 469 (by decide +kernel) (by decide +kernel), gws 26 (by decide +kernel) (by decide +kernel), kcX3_kindle, rfl⟩
theorem cwX4_108 : gCS RX4 108 yX4_requireKey cX4_requireKey 1 none := ⟨gws 566 (by decide +kernel) (by decide +kernel), gws 567 (by decide +kernel) (by decide +kernel), gws 25 (by decide +kernel) (by decide +kernel), kcX4_requireKey⟩
theorem cwX4_111 : gCV RX4 111 RX3 yX3_canKeep cX3_canKeep 3 (some .boolean) := ⟨gws 570 (by decide +kernel) (by decide +kernel), gws 571 (by decide +kernel) (by decide +kernel), gws 572 (by decide +kernel) (by decide +kernel), gws 26 (by decide +kernel) (by decide +kernel), kcX3_canKeep, rfl⟩
theorem cwX4_116 : gCV RX4 116 RX3 yX3_putThing cX3_putThing 4 (some .int) := ⟨gws 583 (by decide +kernel) (by decide +kernel), gws 584 (by decide +kernel) (by decide +kernel), gws 585 (by decide +kernel) (by decide +kernel), gws 26 (by decide +kernel) (by decide +kernel), kcX3_putThing, rfl⟩
theorem cwX4_119 : gCV RX4 119 RX3 yX3_readThing cX3_readThing 4 (some .int) := ⟨gws 598 (by decide +kernel) (by decide +kernel), gws 599 (by decide +kernel) (by decide +kernel), gws 600 (by decide +kernel) (by decide +kernel), gws 26 (by decide +kernel) (by decide +kernel), kcX3_readThing, rfl⟩
theorem cwX4_124 : gCV RX4 124 RX3 yX3_passBeats cX3_passBeats 4 (some .int) := ⟨gws 630 (by decide +kernel) (by decide +kernel), gws 603 (by decide +kernel) (by decide +kernel), gws 604 (by decide +kernel) (by decide +kernel), gws 26 (by decide +kernel) (by decide +kernel), kcX3_passBeats, rfl⟩
theorem cwX4_129 : gCV RX4 129 RX0 yX0_isFull cX0_isFull 1 (some .boolean) := ⟨gws 639 (by decide +kernel) (by decide +kernel), gws 640 (by decide +kernel) (by decide +kernel), gws 641 (by decide +kernel) (by decide +kernel), gws 29 (by decide +kernel) (by decide +kernel), kcX0_isFull, rfl⟩
theorem cwX4_134 : gCV RX4 134 RX0 yX0_add cX0_add 2 (some .int) := ⟨gws 644 (by decide +kernel) (by decide +kernel), gws 645 (by decide +kernel) (by decide +kernel), gws 646 (by decide +kernel) (by decide +kernel), gws 29 (by decide +kernel) (by decide +kernel), kcX0_add, rfl⟩
theorem cwX4_138 : gCV RX4 138 RX0 yX0_empty cX0_empty 2 (some .int) := ⟨gws 185 (by decide +kernel) (by decide +kernel), gws 186 (by decide +kernel) (by decide +kernel), gws 187 (by decide +kernel) (by decide +kernel), gws 29 (by decide +kernel) (by decide +kernel), kcX0_empty, rfl⟩
theorem cwX4_142 : gCV RX4 142 RX0 yX0_errorPlace cX0_errorPlace 3 (some .int) := ⟨gws 193 (by decide +kernel) (by decide +kernel), gws 194 (by decide +kernel) (by decide +kernel), gws 195 (by decide +kernel) (by decide +kernel), gws 29 (by decide +kernel) (by decide +kernel), kcX0_errorPlace, rfl⟩
theorem cwX4_145 : gCV RX4 145 RX0 yX0_isComplete cX0_isComplete 3 (some .boolean) := ⟨gws 656 (by decide +kernel) (by decide +kernel), gws 657 (by decide +kernel) (by decide +kernel), gws 658 (by decide +kernel) (by decide +kernel), gws 29 (by decide +kernel) (by decide +kernel), kcX0_isComplete, rfl⟩
theorem cwX4_150 : gCV RX4 150 RX4 yX4_playDeeds cX4_playDeeds 3 (some .int) := ⟨gws 661 (by decide +kernel) (by decide +kernel), gws 663 (by decide +kernel) (by decide +kernel), gws 3 (by decide +kernel) (by decide +kernel), gws 25 (by decide +kernel) (by decide +kernel), kcX4_playDeeds, rfl⟩
theorem cwX4_158 : gCV RX4 158 RX2 yX2_popInto cX2_popInto 2 (some .int) := ⟨gws 715 (by decide +kernel) (by decide +kernel), gws 716 (by decide +kernel) (by decide +kernel), gws 717 (by decide +kernel) (by decide +kernel), gws 28 (by decide +kernel) (by decide +kernel), kcX2_popInto, rfl⟩
theorem cwX4_162 : gCS RX4 162 yX4_requireNumber cX4_requireNumber 2 none := ⟨gws 726 (by decide +kernel) (by decide +kernel), gws 727 (by decide +kernel) (by decide +kernel), gws 25 (by decide +kernel) (by decide +kernel), kcX4_requireNumber⟩
theorem cwX4_166 : gCV RX4 166 RX1 yX1_number cX1_number 2 (some .int) := ⟨gws 306 (by decide +kernel) (by decide +kernel), gws 307 (by decide +kernel) (by decide +kernel), gws 308 (by decide +kernel) (by decide +kernel), gws 27 (by decide +kernel) (by decide +kernel), kcX1_number, rfl⟩
theorem cwX4_169 : gCV RX4 169 RX3 yX3_thingNumber cX3_thingNumber 6 (some .int) := ⟨gws 737 (by decide +kernel) (by decide +kernel), gws 738 (by decide +kernel) (by decide +kernel), gws 739 (by decide +kernel) (by decide +kernel), gws 26 (by decide +kernel) (by decide +kernel), kcX3_thingNumber, rfl⟩
theorem cwX4_172 : gCV RX4 172 RX4 yX4_countNumber cX4_countNumber 2 (some .int) := ⟨gws 287 (by decide +kernel) (by decide +kernel), gws 289 (by decide +kernel) (by decide +kernel), gws 0 (by decide +kernel) (by decide +kernel), gws 25 (by decide +kernel) (by decide +kernel), kcX4_countNumber, rfl⟩
theorem cwX4_175 : gCV RX4 175 RX3 yX3_beatsLit cX3_beatsLit 3 (some .int) := ⟨gws 319 (by decide +kernel) (by decide +kernel), gws 219 (by decide +kernel) (by decide +kernel), gws 220 (by decide +kernel) (by decide +kernel), gws 26 (by decide +kernel) (by decide +kernel), kcX3_beatsLit, rfl⟩
theorem cwX4_178 : gCV RX4 178 RX3 yX3_beatsToForgetting cX3_beatsToForgetting 4 (some .int) := ⟨gws 214 (by decide +kernel) (by decide +kernel), gws 215 (by decide +kernel) (by decide +kernel), gws 216 (by decide +kernel) (by decide +kernel), gws 26 (by decide +kernel) (by decide +kernel), kcX3_beatsToForgetting, rfl⟩
theorem cwX4_18 : gCI RX4 18 yX2_init cX2_init 2 := ⟨gws 141 (by decide +kernel) (by decide +kernel), gws 142 (by decide +kernel) (by decide +kernel), gws 28 (by decide +kernel) (by decide +kernel), kcX2_init, rfl⟩
theorem cwX4_181 : gCV RX4 181 RX3 yX3_candlesToLight cX3_candlesToLight 4 (some .int) := ⟨gws 320 (by decide +kernel) (by decide +kernel), gws 321 (by decide +kernel) (by decide +kernel), gws 322 (by decide +kernel) (by decide +kernel), gws 26 (by decide +kernel) (by decide +kernel), kcX3_candlesToLight, rfl⟩
theorem cwX4_184 : gCV RX4 184 RX3 yX3_neediest cX3_neediest 3 (some .int) := ⟨gws 262 (by decide +kernel) (by decide +kernel), gws 263 (by decide +kernel) (by decide +kernel), gws 264 (by decide +kernel) (by decide +kernel), gws 26 (by decide +kernel) (by decide +kernel), kcX3_neediest, rfl⟩
theorem cwX4_187 : gCV RX4 187 RX1 yX1_beatsSaved cX1_beatsSaved 1 (some .int) := ⟨gws 333 (by decide +kernel) (by decide +kernel), gws 334 (by decide +kernel) (by decide +kernel), gws 335 (by decide +kernel) (by decide +kernel), gws 27 (by decide +kernel) (by decide +kernel), kcX1_beatsSaved, rfl⟩
theorem cwX4_190 : gCV RX4 190 RX3 yX3_shareInLight cX3_shareInLight 4 (some .double) := ⟨gws 274 (by decide +kernel) (by decide +kernel), gws 275 (by decide +kernel) (by decide +kernel), gws 276 (by decide +kernel) (by decide +kernel), gws 26 (by decide +kernel) (by decide +kernel), kcX3_shareInLight, rfl⟩
theorem cwX4_196 : gCS RX4 196 yX4_mix cX4_mix 4 (some .long) := ⟨gws 297 (by decide +kernel) (by decide +kernel), gws 298 (by decide +kernel) (by decide +kernel), gws 25 (by decide +kernel) (by decide +kernel), kcX4_mix⟩
theorem cwX4_200 : gCV RX4 200 RX4 yX4_mixRoom cX4_mixRoom 8 (some .long) := ⟨gws 301 (by decide +kernel) (by decide +kernel), gws 303 (by decide +kernel) (by decide +kernel), gws 1 (by decide +kernel) (by decide +kernel), gws 25 (by decide +kernel) (by decide +kernel), kcX4_mixRoom, rfl⟩
theorem cwX4_204 : gCS RX4 204 yX4_bitsOf cX4_bitsOf 8 (some .long) := ⟨gws 338 (by decide +kernel) (by decide +kernel), gws 339 (by decide +kernel) (by decide +kernel), gws 25 (by decide +kernel) (by decide +kernel), kcX4_bitsOf⟩
theorem cwX4_211 : gCV RX4 211 RX0 yX0_codeAt cX0_codeAt 2 (some .int) := ⟨gws 344 (by decide +kernel) (by decide +kernel), gws 198 (by decide +kernel) (by decide +kernel), gws 199 (by decide +kernel) (by decide +kernel), gws 29 (by decide +kernel) (by decide +kernel), kcX0_codeAt, rfl⟩
theorem cwX4_226 : gCV RX4 226 RX3 yX3_candlesBurning cX3_candlesBurning 3 (some .int) := ⟨gws 291 (by decide +kernel) (by decide +kernel), gws 292 (by decide +kernel) (by decide +kernel), gws 293 (by decide +kernel) (by decide +kernel), gws 26 (by decide +kernel) (by decide +kernel), kcX3_candlesBurning, rfl⟩
theorem cwX4_229 : gCV RX4 229 RX3 yX3_thingsInAll cX3_thingsInAll 3 (some .int) := ⟨gws 296 (by decide +kernel) (by decide +kernel), gws 279 (by decide +kernel) (by decide +kernel), gws 280 (by decide +kernel) (by decide +kernel), gws 26 (by decide +kernel) (by decide +kernel), kcX3_thingsInAll, rfl⟩
theorem cwX4_25 : gCI RX4 25 yX0_init cX0_init 1 := ⟨gws 158 (by decide +kernel) (by decide +kernel), gws 159 (by decide +kernel) (by decide +kernel), gws 29 (by decide +kernel) (by decide +kernel), kcX0_init, rfl⟩
theorem cwX4_250 : gCV RX4 250 RX0 yX0_startsPart cX0_startsPart 2 (some .boolean) := ⟨gws 665 (by decide +kernel) (by decide +kernel), gws 666 (by decide +kernel) (by decide +kernel), gws 667 (by decide +kernel) (by decide +kernel), gws 29 (by decide +kernel) (by decide +kernel), kcX0_startsPart, rfl⟩
theorem cwX4_253 : gCV RX4 253 RX4 yX4_playDeed cX4_playDeed 4 (some .boolean) := ⟨gws 669 (by decide +kernel) (by decide +kernel), gws 671 (by decide +kernel) (by decide +kernel), gws 4 (by decide +kernel) (by decide +kernel), gws 25 (by decide +kernel) (by decide +kernel), kcX4_playDeed, rfl⟩
theorem cwX4_256 : gCV RX4 256 RX0 yX0_digitAt cX0_digitAt 3 (some .int) := ⟨gws 673 (by decide +kernel) (by decide +kernel), gws 674 (by decide +kernel) (by decide +kernel), gws 675 (by decide +kernel) (by decide +kernel), gws 29 (by decide +kernel) (by decide +kernel), kcX0_digitAt, rfl⟩
theorem cwX4_259 : gCV RX4 259 RX0 yX0_numberFrom cX0_numberFrom 4 (some .int) := ⟨gws 677 (by decide +kernel) (by decide +kernel), gws 678 (by decide +kernel) (by decide +kernel), gws 679 (by decide +kernel) (by decide +kernel), gws 29 (by decide +kernel) (by decide +kernel), kcX0_numberFrom, rfl⟩
theorem cwX4_262 : gCV RX4 262 RX3 yX3_strikeIfPossible cX3_strikeIfPossible 2 (some .boolean) := ⟨gws 683 (by decide +kernel) (by decide +kernel), gws 684 (by decide +kernel) (by decide +kernel), gws 685 (by decide +kernel) (by decide +kernel), gws 26 (by decide +kernel) (by decide +kernel), kcX3_strikeIfPossible, rfl⟩
theorem cwX4_265 : gCS RX4 265 yJ9_floorMod_7cf53 cJ9_floorMod_7cf53 3 (some .int) := ⟨gws 689 (by decide +kernel) (by decide +kernel), gws 227 (by decide +kernel) (by decide +kernel), gws 35 (by decide +kernel) (by decide +kernel), kcJ9_floorMod_7cf53⟩
theorem cwX4_270 : gCV RX4 270 RX3 yX3_lightIfPossible cX3_lightIfPossible 3 (some .boolean) := ⟨gws 690 (by decide +kernel) (by decide +kernel), gws 691 (by decide +kernel) (by decide +kernel), gws 692 (by decide +kernel) (by decide +kernel), gws 26 (by decide +kernel) (by decide +kernel), kcX3_lightIfPossible, rfl⟩
theorem cwX4_273 : gCV RX4 273 RX3 yX3_renewIfPossible cX3_renewIfPossible 2 (some .boolean) := ⟨gws 695 (by decide +kernel) (by decide +kernel), gws 696 (by decide +kernel) (by decide +kernel), gws 697 (by decide +kernel) (by decide +kernel), gws 26 (by decide +kernel) (by decide +kernel), kcX3_renewIfPossible, rfl⟩
theorem cwX4_276 : gCV RX4 276 RX3 yX3_keepIfPossible cX3_keepIfPossible 3 (some .boolean) := ⟨gws 701 (by decide +kernel) (by decide +kernel), gws 702 (by decide +kernel) (by decide +kernel), gws 703 (by decide +kernel) (by decide +kernel), gws 26 (by decide +kernel) (by decide +kernel), kcX3_keepIfPossible, rfl⟩
theorem cwX4_284 : gCV RX4 284 RX1 yX1_keyAt cX1_keyAt 2 (some .int) := ⟨gws 314 (by decide +kernel) (by decide +kernel), gws 311 (by decide +kernel) (by decide +kernel), gws 312 (by decide +kernel) (by decide +kernel), gws 27 (by decide +kernel) (by decide +kernel), kcX1_keyAt, rfl⟩
theorem cwX4_287 : gCV RX4 287 RX1 yX1_darkAt cX1_darkAt 2 (some .int) := ⟨gws 315 (by decide +kernel) (by decide +kernel), gws 316 (by decide +kernel) (by decide +kernel), gws 317 (by decide +kernel) (by decide +kernel), gws 27 (by decide +kernel) (by decide +kernel), kcX1_darkAt, rfl⟩
theorem cwX4_30 : gCS RX4 30 yX4_requireRoom cX4_requireRoom 1 none := ⟨gws 354 (by decide +kernel) (by decide +kernel), gws 355 (by decide +kernel) (by decide +kernel), gws 25 (by decide +kernel) (by decide +kernel), kcX4_requireRoom⟩
theorem cwX4_34 : gCV RX4 34 RX3 yX3_canStrike cX3_canStrike 2 (some .boolean) := ⟨gws 428 (by decide +kernel) (by decide +kernel), gws 429 (by decide +kernel) (by decide +kernel), gws 430 (by decide +kernel) (by decide +kernel), gws 26 (by decide +kernel) (by decide +kernel), kcX3_canStrike, rfl⟩
theorem cwX4_45 : gCV RX4 45 RX2 yX2_push cX2_push 2 none := ⟨gws 448 (by decide +kernel) (by decide +kernel), gws 449 (by decide +kernel) (by decide +kernel), gws 450 (by decide +kernel) (by decide +kernel), gws 28 (by decide +kernel) (by decide +kernel), kcX2_push, rfl⟩
theorem cwX4_49 : gCV RX4 49 RX3 yX3_kindle cX3_kindle 3 (some .int) := ⟨gws 467 (by decide +kernel) (by decide +kernel), gws 468 (by decide +kernel) (by decide +kernel), gws 469 (by decide +kernel) (by decide +kernel), gws 26 (by decide +kernel) (by decide +kernel), kcX3_kindle, rfl⟩
theorem cwX4_53 : gCV RX4 53 RX3 yX3_canLight cX3_canLight 4 (some .boolean) := ⟨gws 478 (by decide +kernel) (by decide +kernel), gws 479 (by decide +kernel) (by decide +kernel), gws 480 (by decide +kernel) (by decide +kernel), gws 26 (by decide +kernel) (by decide +kernel), kcX3_canLight, rfl⟩
theorem cwX4_59 : gCV RX4 59 RX3 yX3_hasNewCandle cX3_hasNewCandle 1 (some .boolean) := ⟨gws 490 (by decide +kernel) (by decide +kernel), gws 491 (by decide +kernel) (by decide +kernel), gws 492 (by decide +kernel) (by decide +kernel), gws 26 (by decide +kernel) (by decide +kernel), kcX3_hasNewCandle, rfl⟩
theorem cwX4_65 : gCV RX4 65 RX3 yX3_putNewCandle cX3_putNewCandle 2 (some .int) := ⟨gws 495 (by decide +kernel) (by decide +kernel), gws 496 (by decide +kernel) (by decide +kernel), gws 497 (by decide +kernel) (by decide +kernel), gws 26 (by decide +kernel) (by decide +kernel), kcX3_putNewCandle, rfl⟩
theorem cwX4_68 : gCS RX4 68 yX4_isRoom cX4_isRoom 1 (some .boolean) := ⟨gws 357 (by decide +kernel) (by decide +kernel), gws 358 (by decide +kernel) (by decide +kernel), gws 25 (by decide +kernel) (by decide +kernel), kcX4_isRoom⟩
theorem cwX4_76 : gCV RX4 76 RX3 yX3_roomAt cX3_roomAt 2 (some (.object "CandleRooms$Room")) := ⟨gws 305 (by decide +kernel) (by decide +kernel), gws 223 (by decide +kernel) (by decide +kernel), gws 224 (by decide +kernel) (by decide +kernel), gws 26 (by decide +kernel) (by decide +kernel), kcX3_roomAt, rfl⟩
theorem cwX4_86 : gCS RX4 86 yX4_asNumber cX4_asNumber 1 (some .int) := ⟨gws 511 (by decide +kernel) (by decide +kernel), gws 245 (by decide +kernel) (by decide +kernel), gws 25 (by decide +kernel) (by decide +kernel), kcX4_asNumber⟩
theorem cwX4_9 : gCI RX4 9 yX3_init cX3_init 2 := ⟨gws 50 (by decide +kernel) (by decide +kernel), gws 51 (by decide +kernel) (by decide +kernel), gws 26 (by decide +kernel) (by decide +kernel), kcX3_init, rfl⟩
theorem cwX4_98 : gCV RX4 98 RX3 yX3_beginDraught cX3_beginDraught 3 (some .int) := ⟨gws 543 (by decide +kernel) (by decide +kernel), gws 544 (by decide +kernel) (by decide +kernel), gws 545 (by decide +kernel) (by decide +kernel), gws 26 (by decide +kernel) (by decide +kernel), kcX3_beginDraught, rfl⟩
theorem cwL_102 : gCV RL 102 RX5 yX5_shield cX5_shield 3 (some .int) := ⟨gws 879 (by decide +kernel) (by decide +kernel), gws 880 (by decide +kernel) (by decide +kernel), gws 881 (by decide +kernel) (by decide +kernel), gws 30 (by decide +kernel) (by decide +kernel), kcX5_shield, rfl⟩
theorem cwL_105 : gCV RL 105 RX5 yX5_draught cX5_draught 3 (some .int) := ⟨gws 883 (by decide +kernel) (by decide +kernel), gws 884 (by decide +kernel) (by decide +kernel), gws 885 (by decide +kernel) (by decide +kernel), gws 30 (by decide +kernel) (by decide +kernel), kcX5_draught, rfl⟩
theorem cwL_108 : gCV RL 108 RX5 yX5_set cX5_set 3 (some .int) := ⟨gws 893 (by decide +kernel) (by decide +kernel), gws 894 (by decide +kernel) (by decide +kernel), gws 895 (by decide +kernel) (by decide +kernel), gws 30 (by decide +kernel) (by decide +kernel), kcX5_set, rfl⟩
theorem cwL_111 : gCV RL 111 RX5 yX5_keep cX5_keep 3 (some .int) := ⟨gws 897 (by decide +kernel) (by decide +kernel), gws 898 (by decide +kernel) (by decide +kernel), gws 899 (by decide +kernel) (by decide +kernel), gws 30 (by decide +kernel) (by decide +kernel), kcX5_keep, rfl⟩
theorem cwL_114 : gCV RL 114 RX5 yX5_read cX5_read 5 (some .int) := ⟨gws 910 (by decide +kernel) (by decide +kernel), gws 911 (by decide +kernel) (by decide +kernel), gws 912 (by decide +kernel) (by decide +kernel), gws 30 (by decide +kernel) (by decide +kernel), kcX5_read, rfl⟩
theorem cwL_117 : gCV RL 117 RX5 yX5_pass cX5_pass 3 (some .int) := ⟨gws 926 (by decide +kernel) (by decide +kernel), gws 927 (by decide +kernel) (by decide +kernel), gws 928 (by decide +kernel) (by decide +kernel), gws 30 (by decide +kernel) (by decide +kernel), kcX5_pass, rfl⟩
theorem cwL_120 : gCV RL 120 RX5 yX5_append cX5_append 2 (some .int) := ⟨gws 930 (by decide +kernel) (by decide +kernel), gws 931 (by decide +kernel) (by decide +kernel), gws 932 (by decide +kernel) (by decide +kernel), gws 30 (by decide +kernel) (by decide +kernel), kcX5_append, rfl⟩
theorem cwL_121 : gCV RL 121 RX4 yX4_clearBuffer cX4_clearBuffer 1 (some .int) := ⟨gws 181 (by decide +kernel) (by decide +kernel), gws 182 (by decide +kernel) (by decide +kernel), gws 183 (by decide +kernel) (by decide +kernel), gws 25 (by decide +kernel) (by decide +kernel), kcX4_clearBuffer, rfl⟩
theorem cwL_124 : gCV RL 124 RX5 yX5_clearBuffer cX5_clearBuffer 2 (some .int) := ⟨gws 934 (by decide +kernel) (by decide +kernel), gws 935 (by decide +kernel) (by decide +kernel), gws 936 (by decide +kernel) (by decide +kernel), gws 30 (by decide +kernel) (by decide +kernel), kcX5_clearBuffer, rfl⟩
theorem cwL_125 : gCV RL 125 RX4 yX4_firstError cX4_firstError 1 (some .int) := ⟨gws 189 (by decide +kernel) (by decide +kernel), gws 190 (by decide +kernel) (by decide +kernel), gws 191 (by decide +kernel) (by decide +kernel), gws 25 (by decide +kernel) (by decide +kernel), kcX4_firstError, rfl⟩
theorem cwL_128 : gCV RL 128 RX5 yX5_firstError cX5_firstError 2 (some .int) := ⟨gws 938 (by decide +kernel) (by decide +kernel), gws 939 (by decide +kernel) (by decide +kernel), gws 940 (by decide +kernel) (by decide +kernel), gws 30 (by decide +kernel) (by decide +kernel), kcX5_firstError, rfl⟩
theorem cwL_132 : gCV RL 132 RX5 yX5_play cX5_play 2 (some .int) := ⟨gws 962 (by decide +kernel) (by decide +kernel), gws 963 (by decide +kernel) (by decide +kernel), gws 964 (by decide +kernel) (by decide +kernel), gws 30 (by decide +kernel) (by decide +kernel), kcX5_play, rfl⟩
theorem cwL_135 : gCV RL 135 RX5 yX5_undo cX5_undo 1 (some .int) := ⟨gws 814 (by decide +kernel) (by decide +kernel), gws 815 (by decide +kernel) (by decide +kernel), gws 816 (by decide +kernel) (by decide +kernel), gws 30 (by decide +kernel) (by decide +kernel), kcX5_undo, rfl⟩
theorem cwL_138 : gCV RL 138 RX5 yX5_room cX5_room 3 (some .int) := ⟨gws 970 (by decide +kernel) (by decide +kernel), gws 971 (by decide +kernel) (by decide +kernel), gws 972 (by decide +kernel) (by decide +kernel), gws 30 (by decide +kernel) (by decide +kernel), kcX5_room, rfl⟩
theorem cwL_141 : gCV RL 141 RX5 yX5_thing cX5_thing 4 (some .int) := ⟨gws 978 (by decide +kernel) (by decide +kernel), gws 979 (by decide +kernel) (by decide +kernel), gws 980 (by decide +kernel) (by decide +kernel), gws 30 (by decide +kernel) (by decide +kernel), kcX5_thing, rfl⟩
theorem cwL_144 : gCV RL 144 RX5 yX5_count cX5_count 2 (some .int) := ⟨gws 982 (by decide +kernel) (by decide +kernel), gws 983 (by decide +kernel) (by decide +kernel), gws 984 (by decide +kernel) (by decide +kernel), gws 30 (by decide +kernel) (by decide +kernel), kcX5_count, rfl⟩
theorem cwL_147 : gCV RL 147 RX5 yX5_lasts cX5_lasts 2 (some .int) := ⟨gws 994 (by decide +kernel) (by decide +kernel), gws 995 (by decide +kernel) (by decide +kernel), gws 996 (by decide +kernel) (by decide +kernel), gws 30 (by decide +kernel) (by decide +kernel), kcX5_lasts, rfl⟩
theorem cwL_148 : gCV RL 148 RX4 yX4_nextForgotten cX4_nextForgotten 1 (some .int) := ⟨gws 210 (by decide +kernel) (by decide +kernel), gws 211 (by decide +kernel) (by decide +kernel), gws 212 (by decide +kernel) (by decide +kernel), gws 25 (by decide +kernel) (by decide +kernel), kcX4_nextForgotten, rfl⟩
theorem cwL_151 : gCV RL 151 RX5 yX5_nextForgotten cX5_nextForgotten 1 (some .int) := ⟨gws 1002 (by decide +kernel) (by decide +kernel), gws 1003 (by decide +kernel) (by decide +kernel), gws 1004 (by decide +kernel) (by decide +kernel), gws 30 (by decide +kernel) (by decide +kernel), kcX5_nextForgotten, rfl⟩
theorem cwL_154 : gCV RL 154 RX5 yX5_carried cX5_carried 2 (some .int) := ⟨gws 1010 (by decide +kernel) (by decide +kernel), gws 1011 (by decide +kernel) (by decide +kernel), gws 1012 (by decide +kernel) (by decide +kernel), gws 30 (by decide +kernel) (by decide +kernel), kcX5_carried, rfl⟩
theorem cwL_155 : gCV RL 155 RX4 yX4_needy cX4_needy 1 (some .int) := ⟨gws 258 (by decide +kernel) (by decide +kernel), gws 259 (by decide +kernel) (by decide +kernel), gws 260 (by decide +kernel) (by decide +kernel), gws 25 (by decide +kernel) (by decide +kernel), kcX4_needy, rfl⟩
theorem cwL_158 : gCV RL 158 RX5 yX5_needy cX5_needy 1 (some .int) := ⟨gws 1022 (by decide +kernel) (by decide +kernel), gws 1023 (by decide +kernel) (by decide +kernel), gws 1024 (by decide +kernel) (by decide +kernel), gws 30 (by decide +kernel) (by decide +kernel), kcX5_needy, rfl⟩
theorem cwL_161 : gCV RL 161 RX5 yX5_saves cX5_saves 2 (some .int) := ⟨gws 1030 (by decide +kernel) (by decide +kernel), gws 1031 (by decide +kernel) (by decide +kernel), gws 1032 (by decide +kernel) (by decide +kernel), gws 30 (by decide +kernel) (by decide +kernel), kcX5_saves, rfl⟩
theorem cwL_162 : gCV RL 162 RX4 yX4_lit cX4_lit 1 (some .double) := ⟨gws 270 (by decide +kernel) (by decide +kernel), gws 271 (by decide +kernel) (by decide +kernel), gws 272 (by decide +kernel) (by decide +kernel), gws 25 (by decide +kernel) (by decide +kernel), kcX4_lit, rfl⟩
theorem cwL_166 : gCV RL 166 RX5 yX5_lit cX5_lit 1 (some .double) := ⟨gws 1038 (by decide +kernel) (by decide +kernel), gws 1039 (by decide +kernel) (by decide +kernel), gws 1040 (by decide +kernel) (by decide +kernel), gws 30 (by decide +kernel) (by decide +kernel), kcX5_lit, rfl⟩
theorem cwL_167 : gCV RL 167 RX4 yX4_digest cX4_digest 4 (some .long) := ⟨gws 282 (by decide +kernel) (by decide +kernel), gws 283 (by decide +kernel) (by decide +kernel), gws 284 (by decide +kernel) (by decide +kernel), gws 25 (by decide +kernel) (by decide +kernel), kcX4_digest, rfl⟩
theorem cwL_17 : gCV RL 17 RX4 yX4_light cX4_light 3 (some .int) := ⟨gws 474 (by decide +kernel) (by decide +kernel), gws 475 (by decide +kernel) (by decide +kernel), gws 476 (by decide +kernel) (by decide +kernel), gws 25 (by decide +kernel) (by decide +kernel), kcX4_light, rfl⟩
theorem cwL_171 : gCV RL 171 RX5 yX5_digest cX5_digest 5 (some .long) := ⟨gws 1046 (by decide +kernel) (by decide +kernel), gws 1047 (by decide +kernel) (by decide +kernel), gws 1048 (by decide +kernel) (by decide +kernel), gws 30 (by decide +kernel) (by decide +kernel), kcX5_digest, rfl⟩
theorem cwL_21 : gCV RL 21 RX4 yX4_fresh cX4_fresh 2 (some .int) := ⟨gws 486 (by decide +kernel) (by decide +kernel), gws 487 (by decide +kernel) (by decide +kernel), gws 488 (by decide +kernel) (by decide +kernel), gws 25 (by decide +kernel) (by decide +kernel), kcX4_fresh, rfl⟩
theorem cwL_24 : gCV RL 24 RX4 yX4_door cX4_door 5 (some .int) := ⟨gws 506 (by decide +kernel) (by decide +kernel), gws 507 (by decide +kernel) (by decide +kernel), gws 508 (by decide +kernel) (by decide +kernel), gws 25 (by decide +kernel) (by decide +kernel), kcX4_door, rfl⟩
theorem cwL_28 : gCV RL 28 RX4 yX4_shield cX4_shield 5 (some .int) := ⟨gws 515 (by decide +kernel) (by decide +kernel), gws 516 (by decide +kernel) (by decide +kernel), gws 517 (by decide +kernel) (by decide +kernel), gws 25 (by decide +kernel) (by decide +kernel), kcX4_shield, rfl⟩
theorem cwL_31 : gCV RL 31 RX4 yX4_draught cX4_draught 3 (some .int) := ⟨gws 523 (by decide +kernel) (by decide +kernel), gws 524 (by decide +kernel) (by decide +kernel), gws 525 (by decide +kernel) (by decide +kernel), gws 25 (by decide +kernel) (by decide +kernel), kcX4_draught, rfl⟩
theorem cwL_36 : gCV RL 36 RX4 yX4_set cX4_set 3 (some .int) := ⟨gws 554 (by decide +kernel) (by decide +kernel), gws 555 (by decide +kernel) (by decide +kernel), gws 556 (by decide +kernel) (by decide +kernel), gws 25 (by decide +kernel) (by decide +kernel), kcX4_set, rfl⟩
theorem cwL_39 : gCV RL 39 RX4 yX4_keep cX4_keep 3 (some .int) := ⟨gws 562 (by decide +kernel) (by decide +kernel), gws 563 (by decide +kernel) (by decide +kernel), gws 564 (by decide +kernel) (by decide +kernel), gws 25 (by decide +kernel) (by decide +kernel), kcX4_keep, rfl⟩
theorem cwL_42 : gCV RL 42 RX4 yX4_read cX4_read 2 (some .int) := ⟨gws 594 (by decide +kernel) (by decide +kernel), gws 595 (by decide +kernel) (by decide +kernel), gws 596 (by decide +kernel) (by decide +kernel), gws 25 (by decide +kernel) (by decide +kernel), kcX4_read, rfl⟩
theorem cwL_45 : gCV RL 45 RX4 yX4_pass cX4_pass 2 (some .int) := ⟨gws 625 (by decide +kernel) (by decide +kernel), gws 626 (by decide +kernel) (by decide +kernel), gws 627 (by decide +kernel) (by decide +kernel), gws 25 (by decide +kernel) (by decide +kernel), kcX4_pass, rfl⟩
theorem cwL_48 : gCV RL 48 RX4 yX4_append cX4_append 2 (some .int) := ⟨gws 634 (by decide +kernel) (by decide +kernel), gws 635 (by decide +kernel) (by decide +kernel), gws 636 (by decide +kernel) (by decide +kernel), gws 25 (by decide +kernel) (by decide +kernel), kcX4_append, rfl⟩
theorem cwL_51 : gCV RL 51 RX4 yX4_play cX4_play 2 (some .int) := ⟨gws 652 (by decide +kernel) (by decide +kernel), gws 653 (by decide +kernel) (by decide +kernel), gws 654 (by decide +kernel) (by decide +kernel), gws 25 (by decide +kernel) (by decide +kernel), kcX4_play, rfl⟩
theorem cwL_55 : gCV RL 55 RX4 yX4_undo cX4_undo 1 (some .int) := ⟨gws 710 (by decide +kernel) (by decide +kernel), gws 711 (by decide +kernel) (by decide +kernel), gws 712 (by decide +kernel) (by decide +kernel), gws 25 (by decide +kernel) (by decide +kernel), kcX4_undo, rfl⟩
theorem cwL_58 : gCV RL 58 RX4 yX4_room cX4_room 3 (some .int) := ⟨gws 722 (by decide +kernel) (by decide +kernel), gws 723 (by decide +kernel) (by decide +kernel), gws 724 (by decide +kernel) (by decide +kernel), gws 25 (by decide +kernel) (by decide +kernel), kcX4_room, rfl⟩
theorem cwL_61 : gCV RL 61 RX4 yX4_thing cX4_thing 3 (some .int) := ⟨gws 733 (by decide +kernel) (by decide +kernel), gws 734 (by decide +kernel) (by decide +kernel), gws 735 (by decide +kernel) (by decide +kernel), gws 25 (by decide +kernel) (by decide +kernel), kcX4_thing, rfl⟩
theorem cwL_64 : gCV RL 64 RX4 yX4_count cX4_count 2 (some .int) := ⟨gws 745 (by decide +kernel) (by decide +kernel), gws 746 (by decide +kernel) (by decide +kernel), gws 747 (by decide +kernel) (by decide +kernel), gws 25 (by decide +kernel) (by decide +kernel), kcX4_count, rfl⟩
theorem cwL_67 : gCV RL 67 RX4 yX4_lasts cX4_lasts 2 (some .int) := ⟨gws 752 (by decide +kernel) (by decide +kernel), gws 753 (by decide +kernel) (by decide +kernel), gws 754 (by decide +kernel) (by decide +kernel), gws 25 (by decide +kernel) (by decide +kernel), kcX4_lasts, rfl⟩
theorem cwL_7 : gCV RL 7 RX4 yX4_strike cX4_strike 2 (some .int) := ⟨gws 350 (by decide +kernel) (by decide +kernel), gws 351 (by decide +kernel) (by decide +kernel), gws 352 (by decide +kernel) (by decide +kernel), gws 25 (by decide +kernel) (by decide +kernel), kcX4_strike, rfl⟩
theorem cwL_70 : gCV RL 70 RX4 yX4_carried cX4_carried 2 (some .int) := ⟨gws 759 (by decide +kernel) (by decide +kernel), gws 760 (by decide +kernel) (by decide +kernel), gws 761 (by decide +kernel) (by decide +kernel), gws 25 (by decide +kernel) (by decide +kernel), kcX4_carried, rfl⟩
theorem cwL_73 : gCV RL 73 RX4 yX4_saves cX4_saves 2 (some .int) := ⟨gws 766 (by decide +kernel) (by decide +kernel), gws 767 (by decide +kernel) (by decide +kernel), gws 768 (by decide +kernel) (by decide +kernel), gws 25 (by decide +kernel) (by decide +kernel), kcX4_saves, rfl⟩
theorem cwL_76 : gCI RL 76 yX4_init cX4_init 1 := ⟨gws 42 (by decide +kernel) (by decide +kernel), gws 43 (by decide +kernel) (by decide +kernel), gws 25 (by decide +kernel) (by decide +kernel), kcX4_init, rfl⟩
theorem cwL_79 : gCI RL 79 yX5_init cX5_init 2 := ⟨gws 772 (by decide +kernel) (by decide +kernel), gws 773 (by decide +kernel) (by decide +kernel), gws 30 (by decide +kernel) (by decide +kernel), kcX5_init, rfl⟩
theorem cwL_85 : gCV RL 85 RX5 yX5_strike cX5_strike 2 (some .int) := ⟨gws 825 (by decide +kernel) (by decide +kernel), gws 826 (by decide +kernel) (by decide +kernel), gws 827 (by decide +kernel) (by decide +kernel), gws 30 (by decide +kernel) (by decide +kernel), kcX5_strike, rfl⟩
theorem cwL_86 : gCV RL 86 RX5 yX5_thrown cX5_thrown 1 (some .int) := ⟨gws 810 (by decide +kernel) (by decide +kernel), gws 811 (by decide +kernel) (by decide +kernel), gws 812 (by decide +kernel) (by decide +kernel), gws 30 (by decide +kernel) (by decide +kernel), kcX5_thrown, rfl⟩
theorem cwL_92 : gCV RL 92 RX5 yX5_light cX5_light 3 (some .int) := ⟨gws 851 (by decide +kernel) (by decide +kernel), gws 852 (by decide +kernel) (by decide +kernel), gws 853 (by decide +kernel) (by decide +kernel), gws 30 (by decide +kernel) (by decide +kernel), kcX5_light, rfl⟩
theorem cwL_95 : gCV RL 95 RX5 yX5_fresh cX5_fresh 2 (some .int) := ⟨gws 864 (by decide +kernel) (by decide +kernel), gws 865 (by decide +kernel) (by decide +kernel), gws 866 (by decide +kernel) (by decide +kernel), gws 30 (by decide +kernel) (by decide +kernel), kcX5_fresh, rfl⟩
theorem cwL_99 : gCV RL 99 RX5 yX5_door cX5_door 3 (some .int) := ⟨gws 871 (by decide +kernel) (by decide +kernel), gws 872 (by decide +kernel) (by decide +kernel), gws 873 (by decide +kernel) (by decide +kernel), gws 30 (by decide +kernel) (by decide +kernel), kcX5_door, rfl⟩
theorem cwX5_100 : gCS RX5 100 yX5_find cX5_find 3 (some .int) := ⟨gws 904 (by decide +kernel) (by decide +kernel), gws 905 (by decide +kernel) (by decide +kernel), gws 30 (by decide +kernel) (by decide +kernel), kcX5_find⟩
theorem cwX5_104 : gCS RX5 104 yX5_mayKeep cX5_mayKeep 3 (some .boolean) := ⟨gws 901 (by decide +kernel) (by decide +kernel), gws 902 (by decide +kernel) (by decide +kernel), gws 30 (by decide +kernel) (by decide +kernel), kcX5_mayKeep⟩
theorem cwX5_107 : gCS RX5 107 yX5_keeps cX5_keeps 4 (some .int) := ⟨gws 907 (by decide +kernel) (by decide +kernel), gws 908 (by decide +kernel) (by decide +kernel), gws 30 (by decide +kernel) (by decide +kernel), kcX5_keeps⟩
theorem cwX5_110 : gCS RX5 110 yX5_beats cX5_beats 4 none := ⟨gws 914 (by decide +kernel) (by decide +kernel), gws 915 (by decide +kernel) (by decide +kernel), gws 30 (by decide +kernel) (by decide +kernel), kcX5_beats⟩
theorem cwX5_123 : gCV RX5 123 RX5 yX5_isAt cX5_isAt 3 (some .boolean) := ⟨gws 950 (by decide +kernel) (by decide +kernel), gws 952 (by decide +kernel) (by decide +kernel), gws 10 (by decide +kernel) (by decide +kernel), gws 30 (by decide +kernel) (by decide +kernel), kcX5_isAt, rfl⟩
theorem cwX5_127 : gCV RX5 127 RX5 yX5_stops cX5_stops 1 (some .boolean) := ⟨gws 954 (by decide +kernel) (by decide +kernel), gws 956 (by decide +kernel) (by decide +kernel), gws 11 (by decide +kernel) (by decide +kernel), gws 30 (by decide +kernel) (by decide +kernel), kcX5_stops, rfl⟩
theorem cwX5_134 : gCV RX5 134 RX5 yX5_isNumber cX5_isNumber 5 (some .boolean) := ⟨gws 958 (by decide +kernel) (by decide +kernel), gws 960 (by decide +kernel) (by decide +kernel), gws 12 (by decide +kernel) (by decide +kernel), gws 30 (by decide +kernel) (by decide +kernel), kcX5_isNumber, rfl⟩
theorem cwX5_138 : gCV RX5 138 RX5 yX5_isPart cX5_isPart 2 (some .boolean) := ⟨gws 946 (by decide +kernel) (by decide +kernel), gws 948 (by decide +kernel) (by decide +kernel), gws 9 (by decide +kernel) (by decide +kernel), gws 30 (by decide +kernel) (by decide +kernel), kcX5_isPart, rfl⟩
theorem cwX5_141 : gCV RX5 141 RX5 yX5_isText cX5_isText 2 (some .boolean) := ⟨gws 942 (by decide +kernel) (by decide +kernel), gws 944 (by decide +kernel) (by decide +kernel), gws 8 (by decide +kernel) (by decide +kernel), gws 30 (by decide +kernel) (by decide +kernel), kcX5_isText, rfl⟩
theorem cwX5_144 : gCV RX5 144 RX5 yX5_does cX5_does 8 (some .boolean) := ⟨gws 966 (by decide +kernel) (by decide +kernel), gws 968 (by decide +kernel) (by decide +kernel), gws 13 (by decide +kernel) (by decide +kernel), gws 30 (by decide +kernel) (by decide +kernel), kcX5_does, rfl⟩
theorem cwX5_147 : gCV RX5 147 RX5 yX5_ofRoom cX5_ofRoom 3 (some .int) := ⟨gws 974 (by decide +kernel) (by decide +kernel), gws 976 (by decide +kernel) (by decide +kernel), gws 14 (by decide +kernel) (by decide +kernel), gws 30 (by decide +kernel) (by decide +kernel), kcX5_ofRoom, rfl⟩
theorem cwX5_151 : gCV RX5 151 RX5 yX5_things cX5_things 3 (some .int) := ⟨gws 990 (by decide +kernel) (by decide +kernel), gws 992 (by decide +kernel) (by decide +kernel), gws 16 (by decide +kernel) (by decide +kernel), gws 30 (by decide +kernel) (by decide +kernel), kcX5_things, rfl⟩
theorem cwX5_155 : gCV RX5 155 RX5 yX5_counted cX5_counted 2 (some .int) := ⟨gws 986 (by decide +kernel) (by decide +kernel), gws 988 (by decide +kernel) (by decide +kernel), gws 15 (by decide +kernel) (by decide +kernel), gws 30 (by decide +kernel) (by decide +kernel), kcX5_counted, rfl⟩
theorem cwX5_158 : gCV RX5 158 RX5 yX5_stays cX5_stays 3 (some .int) := ⟨gws 998 (by decide +kernel) (by decide +kernel), gws 1000 (by decide +kernel) (by decide +kernel), gws 17 (by decide +kernel) (by decide +kernel), gws 30 (by decide +kernel) (by decide +kernel), kcX5_stays, rfl⟩
theorem cwX5_161 : gCV RX5 161 RX5 yX5_firstForgotten cX5_firstForgotten 2 (some .int) := ⟨gws 1006 (by decide +kernel) (by decide +kernel), gws 1008 (by decide +kernel) (by decide +kernel), gws 18 (by decide +kernel) (by decide +kernel), gws 30 (by decide +kernel) (by decide +kernel), kcX5_firstForgotten, rfl⟩
theorem cwX5_164 : gCV RX5 164 RX5 yX5_way cX5_way 6 (some .int) := ⟨gws 1018 (by decide +kernel) (by decide +kernel), gws 1020 (by decide +kernel) (by decide +kernel), gws 20 (by decide +kernel) (by decide +kernel), gws 30 (by decide +kernel) (by decide +kernel), kcX5_way, rfl⟩
theorem cwX5_167 : gCV RX5 167 RX5 yX5_fewest cX5_fewest 4 (some .int) := ⟨gws 1014 (by decide +kernel) (by decide +kernel), gws 1016 (by decide +kernel) (by decide +kernel), gws 19 (by decide +kernel) (by decide +kernel), gws 30 (by decide +kernel) (by decide +kernel), kcX5_fewest, rfl⟩
theorem cwX5_170 : gCV RX5 170 RX5 yX5_neediest cX5_neediest 4 (some .int) := ⟨gws 1026 (by decide +kernel) (by decide +kernel), gws 1028 (by decide +kernel) (by decide +kernel), gws 21 (by decide +kernel) (by decide +kernel), gws 30 (by decide +kernel) (by decide +kernel), kcX5_neediest, rfl⟩
theorem cwX5_173 : gCV RX5 173 RX5 yX5_saved cX5_saved 3 (some .int) := ⟨gws 1034 (by decide +kernel) (by decide +kernel), gws 1036 (by decide +kernel) (by decide +kernel), gws 22 (by decide +kernel) (by decide +kernel), gws 30 (by decide +kernel) (by decide +kernel), kcX5_saved, rfl⟩
theorem cwX5_176 : gCV RX5 176 RX5 yX5_share cX5_share 3 (some .double) := ⟨gws 1042 (by decide +kernel) (by decide +kernel), gws 1044 (by decide +kernel) (by decide +kernel), gws 23 (by decide +kernel) (by decide +kernel), gws 30 (by decide +kernel) (by decide +kernel), kcX5_share, rfl⟩
theorem cwX5_184 : gCS RX5 184 yJxe99ae_doubleToLongBits_ccdee cJxe99ae_doubleToLongBits_ccdee 2 (some .long) := ⟨gws 1052 (by decide +kernel) (by decide +kernel), gws 1053 (by decide +kernel) (by decide +kernel), gws 39 (by decide +kernel) (by decide +kernel), kcJxe99ae_doubleToLongBits_ccdee⟩
theorem cwX5_29 : gCS RX5 29 yX5_in cX5_in 3 (some .boolean) := ⟨gws 832 (by decide +kernel) (by decide +kernel), gws 833 (by decide +kernel) (by decide +kernel), gws 30 (by decide +kernel) (by decide +kernel), kcX5_in⟩
theorem cwX5_33 : gCS RX5 33 yX5_of cX5_of 3 (some .int) := ⟨gws 841 (by decide +kernel) (by decide +kernel), gws 842 (by decide +kernel) (by decide +kernel), gws 30 (by decide +kernel) (by decide +kernel), kcX5_of⟩
theorem cwX5_40 : gCS RX5 40 yX5_copies cX5_copies 5 none := ⟨gws 822 (by decide +kernel) (by decide +kernel), gws 823 (by decide +kernel) (by decide +kernel), gws 30 (by decide +kernel) (by decide +kernel), kcX5_copies⟩
theorem cwX5_44 : gCV RX5 44 RX5 yX5_fails cX5_fails 2 (some .int) := ⟨gws 818 (by decide +kernel) (by decide +kernel), gws 820 (by decide +kernel) (by decide +kernel), gws 5 (by decide +kernel) (by decide +kernel), gws 30 (by decide +kernel) (by decide +kernel), kcX5_fails, rfl⟩
theorem cwX5_48 : gCS RX5 48 yX5_burning cX5_burning 3 (some .int) := ⟨gws 838 (by decide +kernel) (by decide +kernel), gws 839 (by decide +kernel) (by decide +kernel), gws 30 (by decide +kernel) (by decide +kernel), kcX5_burning⟩
theorem cwX5_52 : gCS RX5 52 yX5_isLit cX5_isLit 2 (some .boolean) := ⟨gws 858 (by decide +kernel) (by decide +kernel), gws 859 (by decide +kernel) (by decide +kernel), gws 30 (by decide +kernel) (by decide +kernel), kcX5_isLit⟩
theorem cwX5_56 : gCS RX5 56 yX5_isOpen cX5_isOpen 3 (some .boolean) := ⟨gws 861 (by decide +kernel) (by decide +kernel), gws 862 (by decide +kernel) (by decide +kernel), gws 30 (by decide +kernel) (by decide +kernel), kcX5_isOpen⟩
theorem cwX5_60 : gCS RX5 60 yX5_reaches cX5_reaches 5 (some .int) := ⟨gws 890 (by decide +kernel) (by decide +kernel), gws 891 (by decide +kernel) (by decide +kernel), gws 30 (by decide +kernel) (by decide +kernel), kcX5_reaches⟩
theorem cwX5_63 : gCS RX5 63 yX5_isRoom cX5_isRoom 1 (some .boolean) := ⟨gws 829 (by decide +kernel) (by decide +kernel), gws 830 (by decide +kernel) (by decide +kernel), gws 30 (by decide +kernel) (by decide +kernel), kcX5_isRoom⟩
theorem cwX5_67 : gCS RX5 67 yX5_mayStrike cX5_mayStrike 2 (some .boolean) := ⟨gws 835 (by decide +kernel) (by decide +kernel), gws 836 (by decide +kernel) (by decide +kernel), gws 30 (by decide +kernel) (by decide +kernel), kcX5_mayStrike⟩
theorem cwX5_70 : gCV RX5 70 RX5 yX5_keepsState cX5_keepsState 2 none := ⟨gws 844 (by decide +kernel) (by decide +kernel), gws 846 (by decide +kernel) (by decide +kernel), gws 6 (by decide +kernel) (by decide +kernel), gws 30 (by decide +kernel) (by decide +kernel), kcX5_keepsState, rfl⟩
theorem cwX5_73 : gCS RX5 73 yX5_lights cX5_lights 2 none := ⟨gws 848 (by decide +kernel) (by decide +kernel), gws 849 (by decide +kernel) (by decide +kernel), gws 30 (by decide +kernel) (by decide +kernel), kcX5_lights⟩
theorem cwX5_77 : gCS RX5 77 yX5_mayLight cX5_mayLight 3 (some .boolean) := ⟨gws 855 (by decide +kernel) (by decide +kernel), gws 856 (by decide +kernel) (by decide +kernel), gws 30 (by decide +kernel) (by decide +kernel), kcX5_mayLight⟩
theorem cwX5_80 : gCS RX5 80 yX5_renews cX5_renews 2 none := ⟨gws 868 (by decide +kernel) (by decide +kernel), gws 869 (by decide +kernel) (by decide +kernel), gws 30 (by decide +kernel) (by decide +kernel), kcX5_renews⟩
theorem cwX5_83 : gCV RX5 83 RX5 yX5_switches cX5_switches 5 (some .int) := ⟨gws 875 (by decide +kernel) (by decide +kernel), gws 877 (by decide +kernel) (by decide +kernel), gws 7 (by decide +kernel) (by decide +kernel), gws 30 (by decide +kernel) (by decide +kernel), kcX5_switches, rfl⟩
theorem cwX5_87 : gCS RX5 87 yX5_blows cX5_blows 5 (some .int) := ⟨gws 887 (by decide +kernel) (by decide +kernel), gws 888 (by decide +kernel) (by decide +kernel), gws 30 (by decide +kernel) (by decide +kernel), kcX5_blows⟩
theorem cwX5_90 : gCS RX5 90 yX5_burns cX5_burns 4 none := ⟨gws 917 (by decide +kernel) (by decide +kernel), gws 918 (by decide +kernel) (by decide +kernel), gws 30 (by decide +kernel) (by decide +kernel), kcX5_burns⟩
theorem cwX5_93 : gCS RX5 93 yX5_draws cX5_draws 3 none := ⟨gws 920 (by decide +kernel) (by decide +kernel), gws 921 (by decide +kernel) (by decide +kernel), gws 30 (by decide +kernel) (by decide +kernel), kcX5_draws⟩
theorem cwX5_97 : gCS RX5 97 yX5_ages cX5_ages 6 none := ⟨gws 923 (by decide +kernel) (by decide +kernel), gws 924 (by decide +kernel) (by decide +kernel), gws 30 (by decide +kernel) (by decide +kernel), kcX5_ages⟩
theorem cwJxe99ae_122 : gCS RJxe99ae 122 yJxe99ae_isNaN_b9ae7 cJxe99ae_isNaN_b9ae7 2 (some .boolean) := ⟨gws 1055 (by decide +kernel) (by decide +kernel), gws 1056 (by decide +kernel) (by decide +kernel), gws 39 (by decide +kernel) (by decide +kernel), kcJxe99ae_isNaN_b9ae7⟩
end
