/-! THE CLAIM OUT OF ONE WALK OF THE LAW'S BODY. Your part is whole_start (and what it stands on); all else here is the same for every law, but numbers. -/
def R_law : String := "CandleRoomsLaw"
def lw_P (b : Addr) (xs : List Int32) (args : Array Value) (s : State) : Prop := args = #[.ref b] ∧ s.IntsAt b xs ∧ xs.length ≤ 260 ∧ (Jvm.Cond.and given_1 narrow_1).before args s = true
/-- what a walk over the start with the record d0 says of its end, said of the start itself -/
theorem lw_closed {s t : State} {o : Outcome} {d0 : Drawn} {L : List Loc} {k n : Nat} (hd0 : s.drawn.sameBut d0 lw_cs) (hv : ∃ v, o = .returned v) (hW : (s.setDrawn d0).WarmedH t.vm) (hs : (s.setDrawn d0).sameButNew ({ t with vm := s.vm } : State) L k n) : State.butDraws s t lw_cs (fun t1 => Framed s o t1 L k n) := by
  have h2 : t.drawn = d0 := congrArg State.drawn hs.1
  refine ⟨⟨hv, hW, State.sameButNew.setDrawn hs s.drawn⟩, ?_, by decide⟩
  rw [h2]
  exact hd0
def lw_Q (_ : Array Value) (s : State) (o : Outcome) (t : State) : Prop := o = .returned (some (.int 1)) ∧ State.butDraws s t lw_cs (fun t1 => Framed s o t1 [] 704810 6986752)
def lw_Z (below : List Frame) (a : Array Value) (s : State) : State → Prop := fun t => ∃ o, t.status = .running ∧ Ended t below o ∧ lw_Q a s o t
/-- the law's own end, with 1 on the stack, nothing written that was there before, its room as the claim has it; d0: the record of draws at this point (at the entry s.drawn: begin with 'refine W.base ?_' and 'have hd0 := Drawn.sameBut.refl s.drawn lw_cs') -/
theorem lw_ret {p : Program} {l : Launch} {e : Env} {s : State} {m : MethodId} {below : List Frame} {meth : Method} {c : Code} {b : Nat} {d0 : Drawn} (hd0 : s.drawn.sameBut d0 lw_cs) (hx : p.tables.exec = Jvm.exec) (hb : c.code = code) (hr : meth.sig.returnType = ret) (hlocks : meth.locks = false) {pc : Nat} {H : Heap} {ls : Array Slot} (hdg : decode code pc = .ok (.ireturn, 1)) : W p l e room_1 (s.setDrawn d0) m #[Value.ref b] below meth c H [] 704810 6986752 (lw_Z below #[Value.ref b] s) (F0 m pc ls [.int 1]) := by
  intro T hT X
  obtain ⟨fs, hret, hrun, hended, hW, hframe⟩ := X.leave (v := some (.int 1)) (hlocks := hlocks) (fun h => by rw [hr] at h; cases h)
  have hmeth' : T.vm.method? m = some meth := X.method'
  refine ⟨T.setFrames fs, ?_, .returned (some (.int 1)), hrun, hended, rfl, lw_closed hd0 ⟨_, rfl⟩ hW hframe⟩
  jvm_step X.here [X.here.top, hx, hb, hdg, hmeth', hr, ret, narrow_b1]
  (try refine ⟨rfl, ?_⟩); (try refine ⟨rfl, ?_⟩)
  first | (intro acts; rw [hret _ acts rfl rfl rfl]) | rw [hret _ _ rfl rfl rfl]
  exact Steps.refl _
/-- what holds at the law's entry: the machine, the code, the tables' words (any of lw_tbl by 'hts w (by decide +kernel)'), the script of L ints xs at the cell b, what the Statement gives of the start (any of its parts by flat_of_before) -/
def lw_At (p : Program) (s : State) (m : MethodId) (meth : Method) (c : Code) (b L : Nat) (xs : Nat → Int32) : Prop :=
  p.tables.exec = Jvm.exec ∧ c.code = code ∧ meth.sig.returnType = ret ∧ c.maxLocals = 19 ∧ s.vm.findClass R_law = some m.cls ∧ (∀ w ∈ lw_tbl, w.before #[Value.ref b] s = true) ∧ va_X b L xs s s.heap ∧ b < s.heap.size ∧ meth.locks = false ∧ (Jvm.Cond.and given_1 narrow_1).before #[Value.ref b] s = true
theorem gI_1 : gI 1 = 1 := by decide +kernel
theorem dput_ad {ad ad' : Int → Nat} {ty : Nat → ClassId} {σ : Int → va_E} {k len j : Int} {tx : Int → Int} (h : ad (k + 1) = ad' (k + 1)) : dput ad ty σ k len tx j = dput ad' ty σ k len tx j := by
  unfold dput; rw [h]
theorem xput_ad {ad ad' : Int → Nat} {ty : Nat → ClassId} {σ : Int → va_E} {x n k len j : Int} {u : Int → Int → Int} {s tx : Int → Int} (h : ∀ i : Int, x ≤ i → i < x + 145 → ad i = ad' i) : xput ad ty σ x s n k u len tx j = xput ad' ty σ x s n k u len tx j := by
  unfold xput
  split
  · rw [h (x + 1) (by omega) (by omega), h (x + 21) (by omega) (by omega), h (x + 143) (by omega) (by omega)]
  · split
    · exact sput_ad fun i h1 h2 => h i (by omega) (by omega)
    · split
      · exact vputF_ad fun i h1 h2 => h i (by omega) (by omega)
      · split
        · exact dput_ad (h _ (by omega) (by omega))
        · rfl
theorem arr_prim {args : Array Value} {s : State} {ty : FieldType} (h : (Cond.arrayClass ty).before args s = true) (hp : ty = .int ∨ ty = .char ∨ ty = .long) : ∃ cA : ClassId, ArrOfT s cA ty ∧ va_RA s cA ty := by
  obtain ⟨c, k, comp, h1, h2, h3⟩ := Cond.arrayClass_spec h
  exact ⟨c, fun n z => ⟨fun k h => (by cases h), k, h2, comp, h3⟩, by rcases hp with rfl | rfl | rfl <;> exact h1⟩
theorem arr_obj {args : Array Value} {s : State} {C : String} (h : (Cond.arrayOver (.object C)).before args s = true) : ∃ cA : ClassId, ArrOfT s cA (.object C) ∧ va_RA s cA (.object C) := by
  obtain ⟨comp, c, k, h1, h2, h3, h4, h5⟩ := Cond.arrayOver_spec h
  exact ⟨c, fun n z => ⟨fun k h => (by cases h), k, h3, comp, h4⟩, k, comp, h3, h4, h1, h5⟩
theorem str_words : ∀ q ∈ gStr, Cond.stringRef RX4 q.1 q.2 ∈ lw_tbl ∧ Cond.exactly (Term.string RX4 q.1) "java/lang/String" ∈ flatC (Jvm.Cond.and given_1 narrow_1) := by decide +kernel
theorem dcl_words : ∀ y ∈ gDcl, Cond.declares y ∈ lw_tbl := by decide +kernel
/-- what throwing needs, at the law's start -/
theorem start_E {s : State} {b : Nat} (hts : ∀ w ∈ lw_tbl, w.before #[Value.ref b] s = true) (hgv : (Jvm.Cond.and given_1 narrow_1).before #[Value.ref b] s = true) : gE (fun q : Nat => s.heap.size ≤ q) s s.heap := by
  have hfl := flat_of_before _ hgv
  have hA : ∀ a : Nat, a < s.heap.size → ¬ s.heap.size ≤ a := fun a h => Nat.not_le.mpr h
  refine ⟨⟨vx_Zqof (hts _ (List.mem_of_getElem? (i := 185) (by decide +kernel))) (hts _ (List.mem_of_getElem? (i := 8) (by decide +kernel))) (hfl _ (by decide +kernel)) hA, vx_Zqof (hts _ (List.mem_of_getElem? (i := 187) (by decide +kernel))) (hts _ (List.mem_of_getElem? (i := 8) (by decide +kernel))) (hfl _ (by decide +kernel)) hA⟩,
    ⟨va_Nw.of rfl (hts _ (List.mem_of_getElem? (i := 305) (by decide +kernel))), va_Nw.of rfl (hts _ (List.mem_of_getElem? (i := 160) (by decide +kernel))), va_Nw.of rfl (hts _ (List.mem_of_getElem? (i := 477) (by decide +kernel)))⟩,
    ⟨va_Nc.of (hfl (.not (.castable eI eS)) (by decide +kernel)), va_Nc.of (hfl (.not (.castable eA eS)) (by decide +kernel)), va_Nc.of (hfl (.not (.castable eA eS)) (by decide +kernel))⟩, fun q hq => ?_, fun y hy => va_Nw.of rfl (hts _ (dcl_words y hy))⟩
  obtain ⟨h1, h2⟩ := str_words q hq
  obtain ⟨a, c, cA, kA, q1, -⟩ := Cond.exactly_spec (args := #[Value.ref b]) (first := s) (o := none) (s := s) (idx := []) (t := Term.string RX4 q.1) (cls := "java/lang/String") (hfl _ h2)
  exact ⟨a, vk_R.of (hts _ h1) q1⟩
theorem start_K {s : State} {args : Array Value} (hts : ∀ w ∈ lw_tbl, w.before args s = true) : ∃ (D : va_G) (ty : Nat → ClassId), va_K D vwCl (gtys ty) s := by
  obtain ⟨c0, i0, k0⟩ := u_known (C := RX0) (T := TX0) (N := 2) (n := 2) hts (fun w h => WS_tbl (inW0 w h)) (hts _ (WS_tbl knX4_23.2.1))
  obtain ⟨c1, i1, k1⟩ := u_known (C := RX1) (T := TX1) (N := 9) (n := 9) hts (fun w h => WS_tbl (inW1 w h)) (hts _ (WS_tbl knX3_9.2.1))
  obtain ⟨c2, i2, k2⟩ := u_known (C := RX2) (T := TX2) (N := 2) (n := 2) hts (fun w h => WS_tbl (inW2 w h)) (hts _ (WS_tbl knX4_16.2.1))
  obtain ⟨c3, i3, k3⟩ := u_known (C := RX3) (T := TX3) (N := 10) (n := 10) hts (fun w h => WS_tbl (inW3 w h)) (hts _ (WS_tbl knX4_7.2.1))
  obtain ⟨c4, i4, k4⟩ := u_known (C := RX4) (T := TX4) (N := 3) (n := 3) hts (fun w h => WS_tbl (inW4 w h)) (hts _ (WS_tbl knL_10.2.1))
  obtain ⟨a0, x0, y0⟩ := arr_prim (ty := .int) (hts _ (WS_tbl kar_int)) (Or.inl rfl)
  obtain ⟨a1, x1, y1⟩ := arr_prim (ty := .char) (hts _ (WS_tbl kar_char)) (Or.inr (Or.inl rfl))
  obtain ⟨a3, x3, y3⟩ := arr_obj (C := RX1) (hts _ (List.mem_of_getElem? (i := 31) (by decide +kernel)))
  obtain ⟨a4, x4, y4⟩ := arr_obj (C := RX3) (hts _ (List.mem_of_getElem? (i := 121) (by decide +kernel)))
  refine ⟨(fun k => match k with | 0 => c0 | 1 => c1 | 2 => c2 | 3 => c3 | _ => c4, fun k => match k with | 0 => i0 | 1 => i1 | 2 => i2 | 3 => i3 | _ => i4), fun k => match k with | 0 => a0 | 1 => a1 | 2 => a0 | 3 => a3 | _ => a4, fun k q hq => ?_, fun k q hq => ?_⟩
  · match k, hq with
    | 0, hq => cases hq; exact k0
    | 1, hq => cases hq; exact k1
    | 2, hq => cases hq; exact k2
    | 3, hq => cases hq; exact k3
    | 4, hq => cases hq; exact k4
    | k + 5, hq => simp [vwCl] at hq
  · match k, hq with
    | 0, hq => cases hq; exact ⟨x0, y0⟩
    | 1, hq => cases hq; exact ⟨x1, y1⟩
    | 2, hq => cases hq; exact ⟨x0, y0⟩
    | 3, hq => cases hq; exact ⟨x3, y3⟩
    | 4, hq => cases hq; exact ⟨x4, y4⟩
    | k + 5, hq => simp [gtys] at hq
