/-! the law's loop -/
set_option maxHeartbeats 4000000 in
theorem lo_strike {X : gT} {rt : Option FieldType} {kc kn : Nat} {Q : State → Prop} {ad : Int → Nat} {σ : Int → va_E} {b Ls : Nat} {xz : Int → Int} {i : Int} {s tx v t p q : Int → Int} {n k len : Int} {u : Int → Int → Int} {g : Nat → Int64} (C : gOk X cL_law 9 RL room_1 rt) (hX : gXk X) (hsc : gSc X b Ls xz) (hi : 0 ≤ i ∧ i + 3 ≤ Ls) (hc : kc + 1 ≤ 628140 ∧ kn + 6 ≤ 7211684) (I : LI s n k u len tx v p) (K : LK X ad σ Q kc kn b i) : V X kc kn Q 152 (LL b ad i) [] ad 152 (LW ad (gty X) σ s n k u len tx v s t p tx q g) := by
  by_cases hr : 0 ≤ xz (i + 1) ∧ xz (i + 1) < 6
  · by_cases hm : mayS s (xz (i + 1))
    · exact lw_strike C hX hsc hi hc I K hr hm
    · exact lw_strike_f2 C hX hsc hi hc I K hr hm
  · exact lw_strike_f1 C hX hsc hi hc I K hr

set_option maxHeartbeats 4000000 in
theorem lo_light {X : gT} {rt : Option FieldType} {kc kn : Nat} {Q : State → Prop} {ad : Int → Nat} {σ : Int → va_E} {b Ls : Nat} {xz : Int → Int} {i : Int} {s tx v t p q : Int → Int} {n k len : Int} {u : Int → Int → Int} {g : Nat → Int64} (C : gOk X cL_law 9 RL room_1 rt) (hX : gXk X) (hsc : gSc X b Ls xz) (hi : 0 ≤ i ∧ i + 3 ≤ Ls) (hc : kc + 1 ≤ 628140 ∧ kn + 6 ≤ 7211684) (I : LI s n k u len tx v p) (K : LK X ad σ Q kc kn b i) : V X kc kn Q 208 (LL b ad i) [] ad 152 (LW ad (gty X) σ s n k u len tx v s t p tx q g) := by
  by_cases hr : 0 ≤ xz (i + 1) ∧ xz (i + 1) < 6
  · by_cases ho : 0 ≤ xz (i + 2) ∧ xz (i + 2) < 6
    · by_cases hm : mayL s (xz (i + 1)) (xz (i + 2))
      · exact lw_light C hX hsc hi hc I K hr ho hm
      · exact lw_light_f2 C hX hsc hi hc I K hr ho hm
    · exact lw_light_f1b C hX hsc hi hc I K hr ho
  · exact lw_light_f1 C hX hsc hi hc I K hr

set_option maxHeartbeats 4000000 in
theorem lo_fresh {X : gT} {rt : Option FieldType} {kc kn : Nat} {Q : State → Prop} {ad : Int → Nat} {σ : Int → va_E} {b Ls : Nat} {xz : Int → Int} {i : Int} {s tx v t p q : Int → Int} {n k len : Int} {u : Int → Int → Int} {g : Nat → Int64} (C : gOk X cL_law 9 RL room_1 rt) (hX : gXk X) (hsc : gSc X b Ls xz) (hi : 0 ≤ i ∧ i + 3 ≤ Ls) (hc : kc + 1 ≤ 628140 ∧ kn + 6 ≤ 7211684) (I : LI s n k u len tx v p) (K : LK X ad σ Q kc kn b i) : V X kc kn Q 276 (LL b ad i) [] ad 152 (LW ad (gty X) σ s n k u len tx v s t p tx q g) := by
  by_cases hr : 0 ≤ xz (i + 1) ∧ xz (i + 1) < 6
  · by_cases hm : 0 < s 1
    · exact lw_fresh C hX hsc hi hc I K hr hm
    · exact lw_fresh_f2 C hX hsc hi hc I K hr hm
  · exact lw_fresh_f1 C hX hsc hi hc I K hr

set_option maxHeartbeats 4000000 in
theorem lo_door {X : gT} {rt : Option FieldType} {kc kn : Nat} {Q : State → Prop} {ad : Int → Nat} {σ : Int → va_E} {b Ls : Nat} {xz : Int → Int} {i : Int} {s tx v t p q : Int → Int} {n k len : Int} {u : Int → Int → Int} {g : Nat → Int64} (C : gOk X cL_law 9 RL room_1 rt) (hX : gXk X) (hsc : gSc X b Ls xz) (hi : 0 ≤ i ∧ i + 3 ≤ Ls) (hc : kc + 1 ≤ 628140 ∧ kn + 6 ≤ 7211684) (I : LI s n k u len tx v p) (K : LK X ad σ Q kc kn b i) : V X kc kn Q 332 (LL b ad i) [] ad 152 (LW ad (gty X) σ s n k u len tx v s t p tx q g) := by
  by_cases hr : 0 ≤ xz (i + 1) ∧ xz (i + 1) < 6
  · by_cases hb : xz (i + 2) = 0
    · exact lw_door0 C hX hsc hi hc I K hr hb
    · exact lw_door1 C hX hsc hi hc I K hr hb
  · by_cases hb : xz (i + 2) = 0
    · exact lw_door_f10 C hX hsc hi hc I K hr hb
    · exact lw_door_f11 C hX hsc hi hc I K hr hb

set_option maxHeartbeats 4000000 in
theorem lo_shield {X : gT} {rt : Option FieldType} {kc kn : Nat} {Q : State → Prop} {ad : Int → Nat} {σ : Int → va_E} {b Ls : Nat} {xz : Int → Int} {i : Int} {s tx v t p q : Int → Int} {n k len : Int} {u : Int → Int → Int} {g : Nat → Int64} (C : gOk X cL_law 9 RL room_1 rt) (hX : gXk X) (hsc : gSc X b Ls xz) (hi : 0 ≤ i ∧ i + 3 ≤ Ls) (hc : kc + 1 ≤ 628140 ∧ kn + 6 ≤ 7211684) (I : LI s n k u len tx v p) (K : LK X ad σ Q kc kn b i) : V X kc kn Q 416 (LL b ad i) [] ad 152 (LW ad (gty X) σ s n k u len tx v s t p tx q g) := by
  by_cases hr : 0 ≤ xz (i + 1) ∧ xz (i + 1) < 6
  · by_cases hb : xz (i + 2) = 0
    · exact lw_shield0 C hX hsc hi hc I K hr hb
    · exact lw_shield1 C hX hsc hi hc I K hr hb
  · by_cases hb : xz (i + 2) = 0
    · exact lw_shield_f10 C hX hsc hi hc I K hr hb
    · exact lw_shield_f11 C hX hsc hi hc I K hr hb

set_option maxHeartbeats 4000000 in
theorem lo_draught {X : gT} {rt : Option FieldType} {kc kn : Nat} {Q : State → Prop} {ad : Int → Nat} {σ : Int → va_E} {b Ls : Nat} {xz : Int → Int} {i : Int} {s tx v t p q : Int → Int} {n k len : Int} {u : Int → Int → Int} {g : Nat → Int64} (C : gOk X cL_law 9 RL room_1 rt) (hX : gXk X) (hsc : gSc X b Ls xz) (hi : 0 ≤ i ∧ i + 3 ≤ Ls) (hc : kc + 1 ≤ 628140 ∧ kn + 6 ≤ 7211684) (I : LI s n k u len tx v p) (K : LK X ad σ Q kc kn b i) : V X kc kn Q 500 (LL b ad i) [] ad 152 (LW ad (gty X) σ s n k u len tx v s t p tx q g) := by
  by_cases hr : 0 ≤ xz (i + 1) ∧ xz (i + 1) < 6
  · by_cases ht : 1 ≤ xz (i + 2) ∧ xz (i + 2) ≤ 6
    · exact lw_draught C hX hsc hi hc I K hr ht
    · exact lw_draught_f2 C hX hsc hi hc I K hr ht
  · exact lw_draught_f1 C hX hsc hi hc I K hr

set_option maxHeartbeats 4000000 in
theorem lo_set {X : gT} {rt : Option FieldType} {kc kn : Nat} {Q : State → Prop} {ad : Int → Nat} {σ : Int → va_E} {b Ls : Nat} {xz : Int → Int} {i : Int} {s tx v t p q : Int → Int} {n k len : Int} {u : Int → Int → Int} {g : Nat → Int64} (C : gOk X cL_law 9 RL room_1 rt) (hX : gXk X) (hsc : gSc X b Ls xz) (hi : 0 ≤ i ∧ i + 3 ≤ Ls) (hc : kc + 1 ≤ 628140 ∧ kn + 6 ≤ 7211684) (I : LI s n k u len tx v p) (K : LK X ad σ Q kc kn b i) : V X kc kn Q 568 (LL b ad i) [] ad 152 (LW ad (gty X) σ s n k u len tx v s t p tx q g) := by
  by_cases h1 : 1 ≤ xz (i + 1) ∧ xz (i + 1) ≤ 50
  · exact lw_set C hX hsc hi hc I K h1
  · exact lw_set_f1 C hX hsc hi hc I K h1

set_option maxHeartbeats 4000000 in
theorem lo_keep {X : gT} {rt : Option FieldType} {kc kn : Nat} {Q : State → Prop} {ad : Int → Nat} {σ : Int → va_E} {b Ls : Nat} {xz : Int → Int} {i : Int} {s tx v t p q : Int → Int} {n k len : Int} {u : Int → Int → Int} {g : Nat → Int64} (C : gOk X cL_law 9 RL room_1 rt) (hX : gXk X) (hsc : gSc X b Ls xz) (hi : 0 ≤ i ∧ i + 3 ≤ Ls) (hc : kc + 1 ≤ 628140 ∧ kn + 6 ≤ 7211684) (I : LI s n k u len tx v p) (K : LK X ad σ Q kc kn b i) : V X kc kn Q 624 (LL b ad i) [] ad 152 (LW ad (gty X) σ s n k u len tx v s t p tx q g) := by
  by_cases hr : 0 ≤ xz (i + 1) ∧ xz (i + 1) < 6
  · by_cases hk : 0 ≤ xz (i + 2) ∧ xz (i + 2) < 100
    · by_cases hm : mayK s (xz (i + 1)) (xz (i + 2))
      · exact lw_keep C hX hsc hi hc I K hr hk hm
      · exact lw_keep_f3 C hX hsc hi hc I K hr hk hm
    · exact lw_keep_f2 C hX hsc hi hc I K hr hk
  · exact lw_keep_f1 C hX hsc hi hc I K hr

set_option maxHeartbeats 4000000 in
theorem lo_read {X : gT} {rt : Option FieldType} {kc kn : Nat} {Q : State → Prop} {ad : Int → Nat} {σ : Int → va_E} {b Ls : Nat} {xz : Int → Int} {i : Int} {s tx v t p q : Int → Int} {n k len : Int} {u : Int → Int → Int} {g : Nat → Int64} (C : gOk X cL_law 9 RL room_1 rt) (hX : gXk X) (hsc : gSc X b Ls xz) (hi : 0 ≤ i ∧ i + 3 ≤ Ls) (hc : kc + 1 ≤ 628140 ∧ kn + 6 ≤ 7211684) (I : LI s n k u len tx v p) (K : LK X ad σ Q kc kn b i) : V X kc kn Q 692 (LL b ad i) [] ad 152 (LW ad (gty X) σ s n k u len tx v s t p tx q g) := by
  by_cases hk : 0 ≤ xz (i + 1) ∧ xz (i + 1) < 100
  · by_cases hno : rof s (xz (i + 1)) = -1
    · exact lw_read_a C hX hsc hi hc I K hk hno
    · by_cases hl : rm s (rof s (xz (i + 1))) 1 = 1
      · exact lw_read_l C hX hsc hi hc I K hk hno hl
      · exact lw_read_d C hX hsc hi hc I K hk hno hl
  · exact lw_read_f1 C hX hsc hi hc I K hk

set_option maxHeartbeats 4000000 in
theorem lo_pass {X : gT} {rt : Option FieldType} {kc kn : Nat} {Q : State → Prop} {ad : Int → Nat} {σ : Int → va_E} {b Ls : Nat} {xz : Int → Int} {i : Int} {s tx v t p q : Int → Int} {n k len : Int} {u : Int → Int → Int} {g : Nat → Int64} (C : gOk X cL_law 9 RL room_1 rt) (hX : gXk X) (hsc : gSc X b Ls xz) (hi : 0 ≤ i ∧ i + 3 ≤ Ls) (hc : kc + 1 ≤ 628140 ∧ kn + 6 ≤ 7211684) (I : LI s n k u len tx v p) (K : LK X ad σ Q kc kn b i) : V X kc kn Q 748 (LL b ad i) [] ad 152 (LW ad (gty X) σ s n k u len tx v s t p tx q g) := by
  by_cases h1 : 1 ≤ xz (i + 1) ∧ xz (i + 1) ≤ 60
  · exact lw_pass C hX hsc hi hc I K h1
  · exact lw_pass_f1 C hX hsc hi hc I K h1

set_option maxHeartbeats 4000000 in
theorem lo_append {X : gT} {rt : Option FieldType} {kc kn : Nat} {Q : State → Prop} {ad : Int → Nat} {σ : Int → va_E} {b Ls : Nat} {xz : Int → Int} {i : Int} {s tx v t p q : Int → Int} {n k len : Int} {u : Int → Int → Int} {g : Nat → Int64} (C : gOk X cL_law 9 RL room_1 rt) (hX : gXk X) (hsc : gSc X b Ls xz) (hi : 0 ≤ i ∧ i + 3 ≤ Ls) (hc : kc + 1 ≤ 628140 ∧ kn + 6 ≤ 7211684) (I : LI s n k u len tx v p) (K : LK X ad σ Q kc kn b i) : V X kc kn Q 804 (LL b ad i) [] ad 152 (LW ad (gty X) σ s n k u len tx v s t p tx q g) := by
  by_cases hz : 33 ≤ xz (i + 1) ∧ xz (i + 1) ≤ 126
  · by_cases hl : v 5 < 60
    · exact lw_append C hX hsc hi hc I K hz hl
    · exact lw_append_f2 C hX hsc hi hc I K hz hl
  · exact lw_append_f1 C hX hsc hi hc I K hz

set_option maxHeartbeats 4000000 in
theorem lo_play {X : gT} {rt : Option FieldType} {kc kn : Nat} {Q : State → Prop} {ad : Int → Nat} {σ : Int → va_E} {b Ls : Nat} {xz : Int → Int} {i : Int} {s tx v t p q : Int → Int} {n k len : Int} {u : Int → Int → Int} {g : Nat → Int64} (C : gOk X cL_law 9 RL room_1 rt) (hX : gXk X) (hsc : gSc X b Ls xz) (hi : 0 ≤ i ∧ i + 3 ≤ Ls) (hc : kc + 1 ≤ 628140 ∧ kn + 6 ≤ 7211684) (I : LI s n k u len tx v p) (K : LK X ad σ Q kc kn b i) : V X kc kn Q 886 (LL b ad i) [] ad 152 (LW ad (gty X) σ s n k u len tx v s t p tx q g) := by
  by_cases h1 : cmpl (v 5) tx
  · exact lw_play C hX hsc hi hc I K h1
  · exact lw_play_f1 C hX hsc hi hc I K h1

set_option maxHeartbeats 4000000 in
theorem lo_undo {X : gT} {rt : Option FieldType} {kc kn : Nat} {Q : State → Prop} {ad : Int → Nat} {σ : Int → va_E} {b Ls : Nat} {xz : Int → Int} {i : Int} {s tx v t p q : Int → Int} {n k len : Int} {u : Int → Int → Int} {g : Nat → Int64} (C : gOk X cL_law 9 RL room_1 rt) (hX : gXk X) (hsc : gSc X b Ls xz) (hi : 0 ≤ i ∧ i + 3 ≤ Ls) (hc : kc + 1 ≤ 628140 ∧ kn + 6 ≤ 7211684) (I : LI s n k u len tx v p) (K : LK X ad σ Q kc kn b i) : V X kc kn Q 930 (LL b ad i) [] ad 152 (LW ad (gty X) σ s n k u len tx v s t p tx q g) := by
  have hv3 := I.2.2.1
  have hv5 := I.2.2.2
  have hn := I.1.2.1
  by_cases h1 : 1 ≤ v 3
  · exact lw_undo C hX hsc hi hc I K h1
  · exact lw_undo_f1 C hX hsc hi hc I K (by omega)

set_option maxHeartbeats 4000000 in
theorem lo_room {X : gT} {rt : Option FieldType} {kc kn : Nat} {Q : State → Prop} {ad : Int → Nat} {σ : Int → va_E} {b Ls : Nat} {xz : Int → Int} {i : Int} {s tx v t p q : Int → Int} {n k len : Int} {u : Int → Int → Int} {g : Nat → Int64} (C : gOk X cL_law 9 RL room_1 rt) (hX : gXk X) (hsc : gSc X b Ls xz) (hi : 0 ≤ i ∧ i + 3 ≤ Ls) (hc : kc + 1 ≤ 628140 ∧ kn + 6 ≤ 7211684) (I : LI s n k u len tx v p) (K : LK X ad σ Q kc kn b i) : V X kc kn Q 974 (LL b ad i) [] ad 152 (LW ad (gty X) σ s n k u len tx v s t p tx q g) := by
  by_cases hr : 0 ≤ xz (i + 1) ∧ xz (i + 1) < 6
  · by_cases hw : 0 ≤ xz (i + 2) ∧ xz (i + 2) < 8
    · exact lw_room C hX hsc hi hc I K hr hw
    · exact lw_room_f2 C hX hsc hi hc I K hr hw
  · exact lw_room_f1 C hX hsc hi hc I K hr

set_option maxHeartbeats 4000000 in
theorem lo_thing {X : gT} {rt : Option FieldType} {kc kn : Nat} {Q : State → Prop} {ad : Int → Nat} {σ : Int → va_E} {b Ls : Nat} {xz : Int → Int} {i : Int} {s tx v t p q : Int → Int} {n k len : Int} {u : Int → Int → Int} {g : Nat → Int64} (C : gOk X cL_law 9 RL room_1 rt) (hX : gXk X) (hsc : gSc X b Ls xz) (hi : 0 ≤ i ∧ i + 3 ≤ Ls) (hc : kc + 1 ≤ 628140 ∧ kn + 6 ≤ 7211684) (I : LI s n k u len tx v p) (K : LK X ad σ Q kc kn b i) : V X kc kn Q 1042 (LL b ad i) [] ad 152 (LW ad (gty X) σ s n k u len tx v s t p tx q g) := by
  by_cases hk : 0 ≤ xz (i + 1) ∧ xz (i + 1) < 100
  · by_cases hw : 0 ≤ xz (i + 2) ∧ xz (i + 2) < 3
    · exact lw_thing C hX hsc hi hc I K hk hw
    · exact lw_thing_f2 C hX hsc hi hc I K hk hw
  · exact lw_thing_f1 C hX hsc hi hc I K hk

set_option maxHeartbeats 4000000 in
theorem lo_count {X : gT} {rt : Option FieldType} {kc kn : Nat} {Q : State → Prop} {ad : Int → Nat} {σ : Int → va_E} {b Ls : Nat} {xz : Int → Int} {i : Int} {s tx v t p q : Int → Int} {n k len : Int} {u : Int → Int → Int} {g : Nat → Int64} (C : gOk X cL_law 9 RL room_1 rt) (hX : gXk X) (hsc : gSc X b Ls xz) (hi : 0 ≤ i ∧ i + 3 ≤ Ls) (hc : kc + 1 ≤ 628140 ∧ kn + 6 ≤ 7211684) (I : LI s n k u len tx v p) (K : LK X ad σ Q kc kn b i) : V X kc kn Q 1110 (LL b ad i) [] ad 152 (LW ad (gty X) σ s n k u len tx v s t p tx q g) := by
  by_cases h1 : 0 ≤ xz (i + 1) ∧ xz (i + 1) < 12
  · exact lw_count C hX hsc hi hc I K h1
  · exact lw_count_f1 C hX hsc hi hc I K h1

set_option maxHeartbeats 4000000 in
theorem lo_lasts {X : gT} {rt : Option FieldType} {kc kn : Nat} {Q : State → Prop} {ad : Int → Nat} {σ : Int → va_E} {b Ls : Nat} {xz : Int → Int} {i : Int} {s tx v t p q : Int → Int} {n k len : Int} {u : Int → Int → Int} {g : Nat → Int64} (C : gOk X cL_law 9 RL room_1 rt) (hX : gXk X) (hsc : gSc X b Ls xz) (hi : 0 ≤ i ∧ i + 3 ≤ Ls) (hc : kc + 1 ≤ 628140 ∧ kn + 6 ≤ 7211684) (I : LI s n k u len tx v p) (K : LK X ad σ Q kc kn b i) : V X kc kn Q 1166 (LL b ad i) [] ad 152 (LW ad (gty X) σ s n k u len tx v s t p tx q g) := by
  by_cases h1 : 0 ≤ xz (i + 1) ∧ xz (i + 1) < 6
  · exact lw_lasts C hX hsc hi hc I K h1
  · exact lw_lasts_f1 C hX hsc hi hc I K h1

set_option maxHeartbeats 4000000 in
theorem lo_carried {X : gT} {rt : Option FieldType} {kc kn : Nat} {Q : State → Prop} {ad : Int → Nat} {σ : Int → va_E} {b Ls : Nat} {xz : Int → Int} {i : Int} {s tx v t p q : Int → Int} {n k len : Int} {u : Int → Int → Int} {g : Nat → Int64} (C : gOk X cL_law 9 RL room_1 rt) (hX : gXk X) (hsc : gSc X b Ls xz) (hi : 0 ≤ i ∧ i + 3 ≤ Ls) (hc : kc + 1 ≤ 628140 ∧ kn + 6 ≤ 7211684) (I : LI s n k u len tx v p) (K : LK X ad σ Q kc kn b i) : V X kc kn Q 1235 (LL b ad i) [] ad 152 (LW ad (gty X) σ s n k u len tx v s t p tx q g) := by
  by_cases h1 : 0 ≤ xz (i + 1) ∧ xz (i + 1) < 6
  · exact lw_carried C hX hsc hi hc I K h1
  · exact lw_carried_f1 C hX hsc hi hc I K h1

set_option maxHeartbeats 4000000 in
theorem lo_saves {X : gT} {rt : Option FieldType} {kc kn : Nat} {Q : State → Prop} {ad : Int → Nat} {σ : Int → va_E} {b Ls : Nat} {xz : Int → Int} {i : Int} {s tx v t p q : Int → Int} {n k len : Int} {u : Int → Int → Int} {g : Nat → Int64} (C : gOk X cL_law 9 RL room_1 rt) (hX : gXk X) (hsc : gSc X b Ls xz) (hi : 0 ≤ i ∧ i + 3 ≤ Ls) (hc : kc + 1 ≤ 628140 ∧ kn + 6 ≤ 7211684) (I : LI s n k u len tx v p) (K : LK X ad σ Q kc kn b i) : V X kc kn Q 1304 (LL b ad i) [] ad 152 (LW ad (gty X) σ s n k u len tx v s t p tx q g) := by
  by_cases h1 : 0 ≤ xz (i + 1) ∧ xz (i + 1) < 6
  · exact lw_saves C hX hsc hi hc I K h1
  · exact lw_saves_f1 C hX hsc hi hc I K h1

set_option maxHeartbeats 4000000 in
theorem lo_clearBuffer {X : gT} {rt : Option FieldType} {kc kn : Nat} {Q : State → Prop} {ad : Int → Nat} {σ : Int → va_E} {b Ls : Nat} {xz : Int → Int} {i : Int} {s tx v t p q : Int → Int} {n k len : Int} {u : Int → Int → Int} {g : Nat → Int64} (C : gOk X cL_law 9 RL room_1 rt) (hX : gXk X) (hsc : gSc X b Ls xz) (hi : 0 ≤ i ∧ i + 3 ≤ Ls) (hc : kc + 1 ≤ 628140 ∧ kn + 6 ≤ 7211684) (I : LI s n k u len tx v p) (K : LK X ad σ Q kc kn b i) : V X kc kn Q 860 (LL b ad i) [] ad 152 (LW ad (gty X) σ s n k u len tx v s t p tx q g) := by
  exact lw_clearBuffer C hX hsc hi hc I K

set_option maxHeartbeats 4000000 in
theorem lo_firstError {X : gT} {rt : Option FieldType} {kc kn : Nat} {Q : State → Prop} {ad : Int → Nat} {σ : Int → va_E} {b Ls : Nat} {xz : Int → Int} {i : Int} {s tx v t p q : Int → Int} {n k len : Int} {u : Int → Int → Int} {g : Nat → Int64} (C : gOk X cL_law 9 RL room_1 rt) (hX : gXk X) (hsc : gSc X b Ls xz) (hi : 0 ≤ i ∧ i + 3 ≤ Ls) (hc : kc + 1 ≤ 628140 ∧ kn + 6 ≤ 7211684) (I : LI s n k u len tx v p) (K : LK X ad σ Q kc kn b i) : V X kc kn Q 873 (LL b ad i) [] ad 152 (LW ad (gty X) σ s n k u len tx v s t p tx q g) := by
  exact lw_firstError C hX hsc hi hc I K

set_option maxHeartbeats 4000000 in
theorem lo_nextForgotten {X : gT} {rt : Option FieldType} {kc kn : Nat} {Q : State → Prop} {ad : Int → Nat} {σ : Int → va_E} {b Ls : Nat} {xz : Int → Int} {i : Int} {s tx v t p q : Int → Int} {n k len : Int} {u : Int → Int → Int} {g : Nat → Int64} (C : gOk X cL_law 9 RL room_1 rt) (hX : gXk X) (hsc : gSc X b Ls xz) (hi : 0 ≤ i ∧ i + 3 ≤ Ls) (hc : kc + 1 ≤ 628140 ∧ kn + 6 ≤ 7211684) (I : LI s n k u len tx v p) (K : LK X ad σ Q kc kn b i) : V X kc kn Q 1222 (LL b ad i) [] ad 152 (LW ad (gty X) σ s n k u len tx v s t p tx q g) := by
  exact lw_nextForgotten C hX hsc hi hc I K

set_option maxHeartbeats 4000000 in
theorem lo_needy {X : gT} {rt : Option FieldType} {kc kn : Nat} {Q : State → Prop} {ad : Int → Nat} {σ : Int → va_E} {b Ls : Nat} {xz : Int → Int} {i : Int} {s tx v t p q : Int → Int} {n k len : Int} {u : Int → Int → Int} {g : Nat → Int64} (C : gOk X cL_law 9 RL room_1 rt) (hX : gXk X) (hsc : gSc X b Ls xz) (hi : 0 ≤ i ∧ i + 3 ≤ Ls) (hc : kc + 1 ≤ 628140 ∧ kn + 6 ≤ 7211684) (I : LI s n k u len tx v p) (K : LK X ad σ Q kc kn b i) : V X kc kn Q 1291 (LL b ad i) [] ad 152 (LW ad (gty X) σ s n k u len tx v s t p tx q g) := by
  exact lw_needy C hX hsc hi hc I K

set_option maxHeartbeats 4000000 in
theorem lo_lit {X : gT} {rt : Option FieldType} {kc kn : Nat} {Q : State → Prop} {ad : Int → Nat} {σ : Int → va_E} {b Ls : Nat} {xz : Int → Int} {i : Int} {s tx v t p q : Int → Int} {n k len : Int} {u : Int → Int → Int} {g : Nat → Int64} (C : gOk X cL_law 9 RL room_1 rt) (hX : gXk X) (hsc : gSc X b Ls xz) (hi : 0 ≤ i ∧ i + 3 ≤ Ls) (hc : kc + 1 ≤ 628140 ∧ kn + 6 ≤ 7211684) (I : LI s n k u len tx v p) (K : LK X ad σ Q kc kn b i) : V X kc kn Q 1360 (LL b ad i) [] ad 152 (LW ad (gty X) σ s n k u len tx v s t p tx q g) := by
  exact lw_lit C hX hsc hi hc I K

set_option maxHeartbeats 4000000 in
theorem lo_digest {X : gT} {rt : Option FieldType} {kc kn : Nat} {Q : State → Prop} {ad : Int → Nat} {σ : Int → va_E} {b Ls : Nat} {xz : Int → Int} {i : Int} {s tx v t p q : Int → Int} {n k len : Int} {u : Int → Int → Int} {g : Nat → Int64} (C : gOk X cL_law 9 RL room_1 rt) (hX : gXk X) (hsc : gSc X b Ls xz) (hi : 0 ≤ i ∧ i + 3 ≤ Ls) (hc : kc + 1 ≤ 628140 ∧ kn + 6 ≤ 7211684) (I : LI s n k u len tx v p) (K : LK X ad σ Q kc kn b i) : V X kc kn Q 1401 (LL b ad i) [] ad 152 (LW ad (gty X) σ s n k u len tx v s t p tx q g) := by
  exact lw_digest C hX hsc hi hc I K

set_option maxRecDepth 100000 in
set_option maxHeartbeats 4000000 in
/-- from the head of the loop -/
theorem law_loop {X : gT} {rt : Option FieldType} {Q : State → Prop} {ad : Int → Nat} {σ : Int → va_E} {b Ls : Nat} {xz : Int → Int}  (C : gOk X cL_law 9 RL room_1 rt) (hX : gXk X) (hsc : gSc X b Ls xz) (KE : ∀ (i : Int) (σ9 : Int → va_E), V X 628140 7211684 Q 1421 (LL b ad i) [] ad 152 σ9) : ∀ (n9 : Nat) (i : Int) (kc kn : Nat) (s : Int → Int) (n k : Int) (u : Int → Int → Int) (len : Int) (tx v t p q : Int → Int) (g : Nat → Int64), 0 ≤ i → i ≤ Ls → (Ls : Int) < i + 3 * n9 → kc + n9 ≤ 628140 → kn + 6 * n9 ≤ 7211684 → LI s n k u len tx v p → V X kc kn Q 23 (LL b ad i) [] ad 152 (LW ad (gty X) σ s n k u len tx v s t p tx q g) := by
  have hL := hsc.2.1
  intro n9
  induction n9 with
  | zero =>
    intro i kc kn s n k u len tx v t p q g h0 h1 h2
    exact absurd h2 (by omega)
  | succ n9 ih =>
    intro i kc kn s n k u len tx v t p q g h0 h1 h2 hkc hkn I
    show V X kc kn Q 23 [some (.ref b), some (.ref (ad 0)), some (.ref (ad 145)), some (.ref (ad 151)), some (.int (gI i)), none, none, none, none] [] ad 152 _
    refine r_iload C dL_law_23 rfl ?_
    refine r_aload_n C dL_law_25 rfl rfl ?_
    refine r_slen C hsc dL_law_26 ?_
    refine r_iconst C dL_law_27 ?_
    refine r_isub C dL_law_28 ?_
    refine r_icmp_gt (tgt := 1421) C dL_law_29 (by decide) (by omega) (by omega) (fun h29 => ?_) (fun h29 => ?_)
    · exact r_wid (by omega) (by omega) (KE i _)
    · refine r_aload_n C dL_law_32 rfl rfl ?_
      refine r_iload C dL_law_33 rfl ?_
      refine r_sld C hsc dL_law_35 (by omega) ?_
      refine r_bipush C dL_law_36 (by decide) ?_
      refine r_iand C dL_law_38 ?_
      obtain ⟨z, hz, e⟩ := gI_ex (gI (xz i) &&& gI 31)
      rw [e]
      have hi3 : 0 ≤ i ∧ i + 3 ≤ Ls := by omega
      have hc : kc + 1 ≤ 628140 ∧ kn + 6 ≤ 7211684 := by omega
      have K : LK X ad σ Q kc kn b i := by
        intro s n k u len tx v t p q g I
        show V X (kc + 1) (kn + 6) Q 1415 [some (.ref b), some (.ref (ad 0)), some (.ref (ad 145)), some (.ref (ad 151)), some (.int (gI i)), none, none, none, none] [] ad 152 _
        refine r_iinc C dL_law_1415 rfl rfl ?_
        dsimp only [List.set]
        refine r_goto (tgt := 23) C dL_law_1418 (by decide) ?_
        exact ih (i + 3) (kc + 1) (kn + 6) s n k u len tx v t p q g (by omega) (by omega) (by omega) (by omega) (by omega) I
      by_cases hz2 : 0 ≤ z ∧ z ≤ 24
      · rcases (show z = 0 ∨ z = 1 ∨ z = 2 ∨ z = 3 ∨ z = 4 ∨ z = 5 ∨ z = 6 ∨ z = 7 ∨ z = 8 ∨ z = 9 ∨ z = 10 ∨ z = 11 ∨ z = 12 ∨ z = 13 ∨ z = 14 ∨ z = 15 ∨ z = 16 ∨ z = 17 ∨ z = 18 ∨ z = 19 ∨ z = 20 ∨ z = 21 ∨ z = 22 ∨ z = 23 ∨ z = 24 by omega) with rfl | rfl | rfl | rfl | rfl | rfl | rfl | rfl | rfl | rfl | rfl | rfl | rfl | rfl | rfl | rfl | rfl | rfl | rfl | rfl | rfl | rfl | rfl | rfl | rfl
        · exact r_tabIn (tgt := 152) C dL_law_39 (by decide) (by decide) (by decide) rfl (by decide) (lo_strike C hX hsc hi3 hc I K)
        · exact r_tabIn (tgt := 208) C dL_law_39 (by decide) (by decide) (by decide) rfl (by decide) (lo_light C hX hsc hi3 hc I K)
        · exact r_tabIn (tgt := 276) C dL_law_39 (by decide) (by decide) (by decide) rfl (by decide) (lo_fresh C hX hsc hi3 hc I K)
        · exact r_tabIn (tgt := 332) C dL_law_39 (by decide) (by decide) (by decide) rfl (by decide) (lo_door C hX hsc hi3 hc I K)
        · exact r_tabIn (tgt := 416) C dL_law_39 (by decide) (by decide) (by decide) rfl (by decide) (lo_shield C hX hsc hi3 hc I K)
        · exact r_tabIn (tgt := 500) C dL_law_39 (by decide) (by decide) (by decide) rfl (by decide) (lo_draught C hX hsc hi3 hc I K)
        · exact r_tabIn (tgt := 568) C dL_law_39 (by decide) (by decide) (by decide) rfl (by decide) (lo_set C hX hsc hi3 hc I K)
        · exact r_tabIn (tgt := 624) C dL_law_39 (by decide) (by decide) (by decide) rfl (by decide) (lo_keep C hX hsc hi3 hc I K)
        · exact r_tabIn (tgt := 692) C dL_law_39 (by decide) (by decide) (by decide) rfl (by decide) (lo_read C hX hsc hi3 hc I K)
        · exact r_tabIn (tgt := 748) C dL_law_39 (by decide) (by decide) (by decide) rfl (by decide) (lo_pass C hX hsc hi3 hc I K)
        · exact r_tabIn (tgt := 804) C dL_law_39 (by decide) (by decide) (by decide) rfl (by decide) (lo_append C hX hsc hi3 hc I K)
        · exact r_tabIn (tgt := 860) C dL_law_39 (by decide) (by decide) (by decide) rfl (by decide) (lo_clearBuffer C hX hsc hi3 hc I K)
        · exact r_tabIn (tgt := 873) C dL_law_39 (by decide) (by decide) (by decide) rfl (by decide) (lo_firstError C hX hsc hi3 hc I K)
        · exact r_tabIn (tgt := 886) C dL_law_39 (by decide) (by decide) (by decide) rfl (by decide) (lo_play C hX hsc hi3 hc I K)
        · exact r_tabIn (tgt := 930) C dL_law_39 (by decide) (by decide) (by decide) rfl (by decide) (lo_undo C hX hsc hi3 hc I K)
        · exact r_tabIn (tgt := 974) C dL_law_39 (by decide) (by decide) (by decide) rfl (by decide) (lo_room C hX hsc hi3 hc I K)
        · exact r_tabIn (tgt := 1042) C dL_law_39 (by decide) (by decide) (by decide) rfl (by decide) (lo_thing C hX hsc hi3 hc I K)
        · exact r_tabIn (tgt := 1110) C dL_law_39 (by decide) (by decide) (by decide) rfl (by decide) (lo_count C hX hsc hi3 hc I K)
        · exact r_tabIn (tgt := 1166) C dL_law_39 (by decide) (by decide) (by decide) rfl (by decide) (lo_lasts C hX hsc hi3 hc I K)
        · exact r_tabIn (tgt := 1222) C dL_law_39 (by decide) (by decide) (by decide) rfl (by decide) (lo_nextForgotten C hX hsc hi3 hc I K)
        · exact r_tabIn (tgt := 1235) C dL_law_39 (by decide) (by decide) (by decide) rfl (by decide) (lo_carried C hX hsc hi3 hc I K)
        · exact r_tabIn (tgt := 1291) C dL_law_39 (by decide) (by decide) (by decide) rfl (by decide) (lo_needy C hX hsc hi3 hc I K)
        · exact r_tabIn (tgt := 1304) C dL_law_39 (by decide) (by decide) (by decide) rfl (by decide) (lo_saves C hX hsc hi3 hc I K)
        · exact r_tabIn (tgt := 1360) C dL_law_39 (by decide) (by decide) (by decide) rfl (by decide) (lo_lit C hX hsc hi3 hc I K)
        · exact r_tabIn (tgt := 1401) C dL_law_39 (by decide) (by decide) (by decide) rfl (by decide) (lo_digest C hX hsc hi3 hc I K)
      · refine r_tabOut (tgt := 1415) C dL_law_39 hz (by omega) (by decide) ?_
        exact r_wid (by omega) (by omega) (K _ _ _ _ _ _ _ _ _ _ _ I)

