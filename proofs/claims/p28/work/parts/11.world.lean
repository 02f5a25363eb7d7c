/-! what a walk knows, the world as a function of places, the judgement V -/
abbrev gT : Type := Program × Launch × Env × Room × State × MethodId × Array Value × List Frame × Method × Code × va_G × (Nat → ClassId) × (Nat → Prop)
def gpr (X : gT) : Program := X.1
def gln (X : gT) : Launch := X.2.1
def gev (X : gT) : Env := X.2.2.1
def gRm (X : gT) : Room := X.2.2.2.1
def gst (X : gT) : State := X.2.2.2.2.1
def gmi (X : gT) : MethodId := X.2.2.2.2.2.1
def gar (X : gT) : Array Value := X.2.2.2.2.2.2.1
def gbl (X : gT) : List Frame := X.2.2.2.2.2.2.2.1
def gme (X : gT) : Method := X.2.2.2.2.2.2.2.2.1
def gco (X : gT) : Code := X.2.2.2.2.2.2.2.2.2.1
def gDD (X : gT) : va_G := X.2.2.2.2.2.2.2.2.2.2.1
def gty (X : gT) : Nat → ClassId := X.2.2.2.2.2.2.2.2.2.2.2.1
def gAA (X : gT) : Nat → Prop := X.2.2.2.2.2.2.2.2.2.2.2.2
def gtys (ty : Nat → ClassId) : List (ClassId × FieldType) := [(ty 0, .int), (ty 1, .char), (ty 2, .int), (ty 3, .object RX1), (ty 4, .object RX3)]
/-- locals: by their places; none: not known -/
def lpos : Nat → List (Option Value) → List (Nat × Value)
  | _, [] => []
  | i, none :: l => lpos (i + 1) l
  | i, some v :: l => (i, v) :: lpos (i + 1) l
theorem lpos_mem : ∀ {l : List (Option Value)} {b i : Nat} {v : Value}, (i, v) ∈ lpos b l ↔ b ≤ i ∧ l[i - b]? = some (some v)
  | [], b, i, v => by simp [lpos]
  | none :: l, b, i, v => by
    simp only [lpos]
    rw [lpos_mem (l := l)]
    constructor
    · rintro ⟨h1, h2⟩
      refine ⟨by omega, ?_⟩
      rw [show i - b = (i - (b + 1)) + 1 by omega]
      simpa using h2
    · rintro ⟨h1, h2⟩
      rcases Nat.eq_or_lt_of_le h1 with h | h
      · subst h; simp at h2
      · refine ⟨h, ?_⟩
        rw [show i - b = (i - (b + 1)) + 1 by omega] at h2
        simpa using h2
  | some w :: l, b, i, v => by
    simp only [lpos, List.mem_cons, Prod.mk.injEq]
    rw [lpos_mem (l := l)]
    constructor
    · rintro (⟨h1, h2⟩ | ⟨h1, h2⟩)
      · subst h1; subst h2; simp
      · refine ⟨by omega, ?_⟩
        rw [show i - b = (i - (b + 1)) + 1 by omega]
        simpa using h2
    · rintro ⟨h1, h2⟩
      rcases Nat.eq_or_lt_of_le h1 with h | h
      · subst h; simp at h2; exact Or.inl ⟨rfl, h2.symm⟩
      · right
        refine ⟨h, ?_⟩
        rw [show i - b = (i - (b + 1)) + 1 by omega] at h2
        simpa using h2
theorem lv_mono {ls : Array Slot} {n : Nat} {l l' : List (Nat × Value)} (h : lv_has ls n l) (hs : ∀ q ∈ l', q ∈ l) : lv_has ls n l' := ⟨h.1, h.2.1, fun q hq => h.2.2 q (hs q hq)⟩
theorem lpos_at {ls : Array Slot} {n : Nat} {L : List (Option Value)} {i : Nat} {v : Value} (h : lv_has ls n (lpos 0 L)) (hi : L[i]? = some (some v)) : ls[i]? = some (.val v) :=
  h.2.2 (i, v) (lpos_mem.mpr ⟨Nat.zero_le _, by simpa using hi⟩)
/-- the place before holds nothing of two slots -/
def lok (L : List (Option Value)) : Nat → Bool
  | 0 => true
  | i + 1 => match L[i]? with
    | some (some v) => v.category == 1
    | _ => true
theorem lpos_set1 {ls : Array Slot} {n : Nat} {L : List (Option Value)} {i : Nat} {v : Value} (hk : lok L i = true) (h : lv_has ls n ((i, v) :: (lpos 0 L).filter (fun q => !(q.1 == i) && !(q.1 + 1 == i && q.2.category == 2)))) : lv_has ls n (lpos 0 (L.set i (some v))) := by
  refine lv_mono h fun q hq => ?_
  obtain ⟨j, w⟩ := q
  obtain ⟨-, h2⟩ := lpos_mem.mp hq
  simp only [Nat.sub_zero] at h2
  by_cases hj : i = j
  · subst hj
    rw [List.getElem?_set] at h2
    simp only [if_true] at h2
    split at h2
    · cases h2; exact List.mem_cons_self
    · cases h2
  · rw [List.getElem?_set, if_neg hj] at h2
    refine List.mem_cons_of_mem _ (List.mem_filter.mpr ⟨lpos_mem.mpr ⟨Nat.zero_le _, by simpa using h2⟩, ?_⟩)
    have h3 : ¬ (j + 1 = i ∧ w.category = 2) := by
      rintro ⟨e, c⟩
      subst e
      simp [lok, h2, c] at hk
    by_cases e : j + 1 = i
    · have : ¬ w.category = 2 := fun c => h3 ⟨e, c⟩
      simp [Ne.symm hj, this]
    · simp [Ne.symm hj, e]
theorem lpos_set2 {ls : Array Slot} {n : Nat} {L : List (Option Value)} {i : Nat} {v : Value} (hk : lok L i = true) (h : lv_has ls n ((i, v) :: (lpos 0 L).filter (fun q => !(q.1 == i) && (!(q.1 == i + 1) && !(q.1 + 1 == i && q.2.category == 2))))) : lv_has ls n (lpos 0 ((L.set i (some v)).set (i + 1) none)) := by
  refine lv_mono h fun q hq => ?_
  obtain ⟨j, w⟩ := q
  obtain ⟨-, h2⟩ := lpos_mem.mp hq
  simp only [Nat.sub_zero] at h2
  by_cases hj1 : i + 1 = j
  · subst hj1
    rw [List.getElem?_set] at h2
    simp only [if_true] at h2
    split at h2 <;> simp at h2
  · rw [List.getElem?_set, if_neg hj1] at h2
    by_cases hj : i = j
    · subst hj
      rw [List.getElem?_set] at h2
      simp only [if_true] at h2
      split at h2
      · cases h2; exact List.mem_cons_self
      · cases h2
    · rw [List.getElem?_set, if_neg hj] at h2
      refine List.mem_cons_of_mem _ (List.mem_filter.mpr ⟨lpos_mem.mpr ⟨Nat.zero_le _, by simpa using h2⟩, ?_⟩)
      have h3 : ¬ (j + 1 = i ∧ w.category = 2) := by
        rintro ⟨e, c⟩
        subst e
        simp [lok, h2, c] at hk
      by_cases e : j + 1 = i
      · have : ¬ w.category = 2 := fun c => h3 ⟨e, c⟩
        simp [Ne.symm hj, Ne.symm hj1, this]
      · simp [Ne.symm hj, Ne.symm hj1, e]
/-- the locals of a call -/
def gent : List Value → List (Option Value)
  | [] => []
  | v :: vs => if v.category = 2 then some v :: none :: gent vs else some v :: gent vs
theorem gent_args : ∀ (vs : List Value) (b : Nat) (n : Nat), lpos b (gent vs ++ List.replicate n none) = lv_args b vs
  | [], b, n => by
    have : ∀ (n b : Nat), lpos b (List.replicate n none) = [] := by
      intro n
      induction n with
      | zero => intro b; rfl
      | succ n ih => intro b; rw [List.replicate_succ]; exact ih (b + 1)
    simp [gent, lv_args, this]
  | v :: vs, b, n => by
    unfold gent lv_args
    by_cases h : v.category = 2
    · simp only [h, if_true, List.cons_append, lpos]
      rw [gent_args vs (b + 2) n]
    · simp only [h, if_false, List.cons_append, lpos]
      rw [gent_args vs (b + 1) n]
/-! the world: places 0 .. N - 1, ad: their addresses, σ: what they hold -/
def gl (ad : Int → Nat) (N : Int) (σ : Int → va_E) : va_W := (List.range N.toNat).map (fun (k : Nat) => (ad (k : Int), σ (k : Int)))
theorem gl_at {ad : Int → Nat} {N : Int} {σ : Int → va_E} {k : Int} (h : 0 ≤ k ∧ k < N) : (gl ad N σ)[k.toNat]? = some (ad k, σ k) := by
  have h1 : k.toNat < N.toNat := by omega
  have h2 : ((k.toNat : Nat) : Int) = k := Int.toNat_of_nonneg h.1
  simp [gl, List.getElem?_range h1, h2]
theorem gl_of {ad : Int → Nat} {N : Int} {σ : Int → va_E} {i : Nat} {q : Nat × va_E} (h : (gl ad N σ)[i]? = some q) : (0 ≤ (i : Int) ∧ (i : Int) < N) ∧ q = (ad i, σ i) := by
  unfold gl at h
  rw [List.getElem?_map] at h
  by_cases h1 : i < N.toNat
  · rw [List.getElem?_range h1] at h
    simp at h
    exact ⟨by omega, h.symm⟩
  · rw [List.getElem?_eq_none (by simpa using h1)] at h
    simp at h
theorem gl_set {ad : Int → Nat} {N : Int} {σ : Int → va_E} {k : Int} (h : 0 ≤ k ∧ k < N) (e : va_E) : (gl ad N σ).set k.toNat (ad k, e) = gl ad N (up σ k e) := by
  apply List.ext_getElem?
  intro i
  have hlen : (gl ad N σ).length = N.toNat := by simp [gl]
  rw [List.getElem?_set]
  by_cases hi : k.toNat = i
  · subst hi
    rw [if_pos rfl, if_pos (by rw [hlen]; omega), gl_at h, up_s]
  · rw [if_neg hi]
    by_cases h1 : i < N.toNat
    · have e1 := gl_at (ad := ad) (N := N) (σ := σ) (k := i) (by omega)
      have e2 := gl_at (ad := ad) (N := N) (σ := up σ k e) (k := i) (by omega)
      rw [Int.toNat_natCast] at e1 e2
      rw [e1, e2, up_n (by omega)]
    · rw [List.getElem?_eq_none (by rw [hlen]; omega), List.getElem?_eq_none (by simp [gl]; omega)]
theorem gl_push {ad : Int → Nat} {N : Int} {σ : Int → va_E} (h : 0 ≤ N) (q : Nat) (e : va_E) : gl ad N σ ++ [(q, e)] = gl (up ad N q) (N + 1) (up σ N e) := by
  unfold gl
  rw [show (N + 1).toNat = N.toNat + 1 by omega, List.range_succ, List.map_append]
  congr 1
  · apply List.map_congr_left
    intro k hk
    have : k < N.toNat := List.mem_range.mp hk
    rw [up_n (by omega), up_n (by omega)]
  · simp [Int.toNat_of_nonneg h, up_s]
def gA (ad : Int → Nat) (N : Int) (sz : Nat) : Nat → Prop := fun q => (∃ k : Int, (0 ≤ k ∧ k < N) ∧ ad k = q) ∨ sz ≤ q
def gN1 : Cond := .methodLinkNest RX1 47 yX4_asNumber RX4
def gN2 : Cond := .methodLinkNest RX3 60 yX4_asNumber RX4
/-- the links of nest mates -/
def gNs (U : State) : Prop := va_Nw gN1 U ∧ va_Nw gN2 U
theorem gNs.warm {s U : State} (hW : s.WarmedH U.vm) (h : gNs s) : gNs U := ⟨va_Nw.warmM hW h.1, va_Nw.warmM hW h.2⟩
theorem gNs.same {u U : State} (e : u.vm = U.vm) (h : gNs u) : gNs U := ⟨va_Nw.same rfl e h.1, va_Nw.same rfl e h.2⟩
/-- the world, as a state has it -/
def gw (D : va_G) (ty : Nat → ClassId) (ad : Int → Nat) (N : Int) (σ : Int → va_E) (U : State) : Prop :=
  va_P D vwCl (gl ad N σ) U.heap ∧ va_K D vwCl (gtys ty) U ∧ va_D (fun _ => True) (gl ad N σ) ∧ va_AO RX1 U ∧ va_AO RX3 U ∧ gNs U
/-- the world, as a walk has it -/
def gWd (X : gT) (ad : Int → Nat) (N : Int) (σ : Int → va_E) (H : Heap) (locs : List Loc) : Prop :=
  va_P (gDD X) vwCl (gl ad N σ) H ∧ va_D (gAA X) (gl ad N σ) ∧ va_S (gAA X) (gst X).heap H locs
/-- what is known throughout a walk -/
def gOk (X : gT) (cc : ByteArray) (nL : Nat) (own : String) (R : Room) (ret : Option FieldType) : Prop :=
  (gpr X).tables.exec = Jvm.exec ∧ (gco X).code = cc ∧ (gco X).maxLocals = nL ∧ (gst X).vm.findClass own = some (gmi X).cls ∧ (∀ w ∈ WS, w.before (gar X) (gst X) = true) ∧ (gme X).locks = false ∧ (gme X).sig.returnType = ret ∧ gRm X = R ∧ va_K (gDD X) vwCl (gtys (gty X)) (gst X) ∧ (∀ q, (gst X).heap.size ≤ q → gAA X q) ∧ va_AO RX1 (gst X) ∧ va_AO RX3 (gst X) ∧ gNs (gst X)
abbrev gW (X : gT) (H : Heap) (locs : List Loc) (k n : Nat) (Q : State → Prop) (g : JFrame) : Prop := W (gpr X) (gln X) (gev X) (gRm X) (gst X) (gmi X) (gar X) (gbl X) (gme X) (gco X) H locs k n Q g
/-- the judgement: from pc, with locals L, stack st, in the world (ad, N, σ), k cells and n slots made so far, the machine comes to Q -/
def V (X : gT) (k n : Nat) (Q : State → Prop) (pc : Nat) (L : List (Option Value)) (st : List Value) (ad : Int → Nat) (N : Int) (σ : Int → va_E) : Prop :=
  ∀ (ls : Array Slot) (H : Heap) (locs : List Loc), lv_has ls L.length (lpos 0 L) → gWd X ad N σ H locs → gW X H locs k n Q (F0 (gmi X) pc ls st)
def gPost : Type := Option Value → (Int → Nat) → Int → (Int → va_E) → Prop
def gQc (D : va_G) (ty : Nat → ClassId) (A : Nat → Prop) (post : gPost) : Array Value → State → Outcome → State → Prop := fun _ st oc t =>
  (∃ (rv : Option Value) (ad' : Int → Nat) (N' : Int) (σ' : Int → va_E), oc = .returned rv ∧ post rv ad' N' σ' ∧ gw D ty ad' N' σ' t ∧ ∀ k : Int, 0 ≤ k ∧ k < N' → A (ad' k)) ∧ va_F A st t
/-- a method's contract -/
def gMet (l : Launch) (y : MethodName) (cc : ByteArray) (nL : Nat) (ret : Option FieldType) (R : Room) (av : List Value) (D : va_G) (ty : Nat → ClassId) (ad : Int → Nat) (N : Int) (σ : Int → va_E) (post : gPost) : Prop :=
  ∀ sz : Nat, Met l y (.code y cc nL ret :: WS) R (va_Pc av (fun U => U.heap.size = sz ∧ gw D ty ad N σ U)) (gQc D ty (gA ad N sz) post) R.cells R.slots (gA ad N sz)
/-- a contract's end -/
def gQ (X : gT) (post : gPost) (mc ms : Nat) : State → Prop := MQ (gbl X) (gQc (gDD X) (gty X) (gAA X) post) (gar X) (gst X) mc ms (gAA X)
/-- one answer, one world behind it, nothing made -/
def gD (rv : Option Value) (ad : Int → Nat) (N : Int) (σ : Int → va_E) : gPost := fun rv' ad' N' σ' => rv' = rv ∧ ad' = ad ∧ N' = N ∧ σ' = σ
/-- the contract of a method that makes nothing: f frames, lo words of locals -/
abbrev gM0 (l : Launch) (y : MethodName) (cc : ByteArray) (nL : Nat) (ret : Option FieldType) (f lo : Nat) (av : List Value) (D : va_G) (ty : Nat → ClassId) (ad : Int → Nat) (N : Int) (σ : Int → va_E) (rv : Option Value) (σ' : Int → va_E) : Prop :=
  gMet l y cc nL ret { frames := f, cells := 0, slots := 0, locals := lo } av D ty ad N σ (gD rv ad N σ')
theorem gA_free {X : gT} {ad : Int → Nat} {N : Int} {σ : Int → va_E} {H : Heap} {locs : List Loc} (hA : ∀ q, (gst X).heap.size ≤ q → gAA X q) (hw : gWd X ad N σ H locs) : ∀ q, gA ad N H.size q → gAA X q := by
  intro q h
  rcases h with ⟨k, hk, e⟩ | h
  · rw [← e]
    exact hw.2.1.2 k.toNat (ad k, σ k) (gl_at hk)
  · exact hA q (Nat.le_trans hw.2.2.1 h)
theorem Met_ofF {y : MethodName} {ws ws' : List Cond} {l : Launch} {rm : Room} {Pc : Array Value → State → Prop} {Qc : Array Value → State → Outcome → State → Prop} {mc ms : Nat} {free : Addr → Prop} {cc : ByteArray} {maxL : Nat} {ret : Option FieldType}
    (hy : plainFor y = true) (hw : ws = Cond.code y cc maxL ret :: ws')
    (body : ∀ p e s m args below meth c s₁, BodyLoose p l y (headSpec ws rm) cc maxL ret e s m args below meth c s₁ → c.maxLocals = maxL → Pc args s →
      W p l e (headSpec ws rm).room s m args below meth c s.heap [] 0 0 (MQ below Qc args s mc ms free) (entryFrame m args maxL)) : Met l y ws rm Pc Qc mc ms free := by
  refine MetFree.of_bodySF (code := cc) (maxLocals := maxL) (ret := ret) hy ?_ ?_
  · intro args s m h hn
    obtain ⟨meth, c, h1, h2, h3, h4, h5, h6, -, -⟩ := Cond.code_spec hn (atoms_spec (ws := ws) h _ (by rw [hw]; exact List.mem_cons_self))
    exact ⟨meth, c, h1, h2, h3, h4, h5, h6⟩
  · intro p e s m args below meth c s₁ B hml hP _
    have hh0 : s₁.heap = s.heap := by rw [B.state]; rfl
    obtain ⟨t, a1, o, b1, b2, b3⟩ := body p e s m args below meth c s₁ B hml hP s₁ hh0 (Stand.of_body B)
    exact ⟨t, o, a1, b1, b2, ⟨b3.1, b3.2⟩⟩
theorem gMet_of {l : Launch} {y : MethodName} {cc : ByteArray} {nL : Nat} {ret : Option FieldType} {R : Room} {av : List Value} {D : va_G} {ty : Nat → ClassId} {ad : Int → Nat} {N : Int} {σ : Int → va_E} {post : gPost} (L : List (Option Value))
    (hy : plainFor y = true) (hL : gent av ++ List.replicate (nL - (gent av).length) none = L) (hn : (lg_sl av).length ≤ nL) (hn2 : L.length = nL)
    (body : ∀ X : gT, gln X = l → gDD X = D → gty X = ty → gOk X cc nL y.cls R ret → (gme X).name = y.name → V X 0 0 (gQ X post R.cells R.slots) 0 L [] ad N σ) : gMet l y cc nL ret R av D ty ad N σ post := by
  intro sz
  refine Met_ofF (cc := cc) (maxL := nL) (ret := ret) hy rfl ?_
  intro p e s m args below meth c s₁ B hml hv
  obtain ⟨rfl, hsz, hP, hK, hD0, hO1, hO3, hNs⟩ := hv
  have hts := atoms_spec (ws := .code y cc nL ret :: WS) B.pre
  subst hsz
  have hb := body (p, l, e, R, s, m, av.toArray, below, meth, c, D, ty, gA ad N s.heap.size) rfl rfl rfl
    ⟨B.exec, B.bytes, hml, findClass_of_methodNamed B.named, fun w hw => hts w (List.mem_cons_of_mem _ hw), B.notSynchronized, B.returns, rfl, hK, fun q h => Or.inr h, hO1, hO3, hNs⟩
    (name_of_methodNamed B.named B.method).1
  have hl := lv_entry av (n := nL) hn
  rw [lg_entry_eq]
  generalize (lg_sl av ++ List.replicate (nL - (lg_sl av).length) Slot.unset).toArray = ls at hl ⊢
  refine hb ls s.heap [] ?_ ⟨hP, ⟨hD0.1, fun k q hq => ?_⟩, va_S.rf⟩
  · rw [← hL, gent_args, hL, hn2]; exact hl
  · obtain ⟨h1, h2⟩ := gl_of hq
    exact Or.inl ⟨k, h1, by rw [h2]⟩
theorem V_sub {X : gT} {k n : Nat} {Q : State → Prop} {pc : Nat} {L L' : List (Option Value)} {st : List Value} {ad : Int → Nat} {N : Int} {σ : Int → va_E} (hlen : L'.length = L.length) (h : ∀ (i : Nat) (v : Value), L'[i]? = some (some v) → L[i]? = some (some v)) (kk : V X k n Q pc L' st ad N σ) : V X k n Q pc L st ad N σ := by
  intro ls H locs hl hw
  refine kk ls H locs ?_ hw
  rw [hlen]
  refine lv_mono hl fun q hq => ?_
  obtain ⟨i, v⟩ := q
  obtain ⟨h1, h2⟩ := lpos_mem.mp hq
  exact lpos_mem.mpr ⟨h1, by simpa using h i v (by simpa using h2)⟩
