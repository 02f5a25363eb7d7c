/-! constructors: a room, a text, a store -/
/-- behind a constructor: n places more, the old ones where they were -/
def gMk (N n : Int) (ad : Int → Nat) (F : (Int → Nat) → (Int → va_E)) : gPost := fun rv ad' N' σ' => rv = none ∧ N' = N + n ∧ (∀ j : Int, j < N → ad' j = ad j) ∧ σ' = F ad'
section ADDR
variable {X : gT} {cc : ByteArray} {nL : Nat} {own : String} {R : Room} {ret : Option FieldType} {kc kn : Nat} {Q : State → Prop} {pc : Nat} {L : List (Option Value)} {st : List Value} {ad : Int → Nat} {N : Int} {σ : Int → va_E}
theorem ra_get (C : gOk X cc nL own R ret) {idx ci f n : Nat} {CN : String} {T : u_T} {ty : Nat → FieldType} (fl : gFL own idx ci f CN T n ty) (hd : decode cc pc = .ok (.getfield idx, 3)) {a : Int} {h0 : Nat} (he : ad a = h0) (ha : 0 ≤ a ∧ a < N) {fs : List Value} {v : Value} (hσ : σ a = .inr (ci, fs)) (hv : fs[f]? = some v)
    (k : V X kc kn Q (pc + 3) L (v :: st) ad N σ) : V X kc kn Q pc L (.ref h0 :: st) ad N σ := by subst he; exact r_get C fl hd ha hσ hv k
theorem ra_put (C : gOk X cc nL own R ret) {idx ci f n : Nat} {CN : String} {T : u_T} {ty : Nat → FieldType} (fl : gFL own idx ci f CN T n ty) (hd : decode cc pc = .ok (.putfield idx, 3)) {a : Int} {h0 : Nat} (he : ad a = h0) (ha : 0 ≤ a ∧ a < N) {fs : List Value} {v : Value} (hσ : σ a = .inr (ci, fs)) (hfin : (T f).2.2.2 = false) (hn : narrow (ty f) v = v) (hfit : fits (ty f) v = true) (hlen : f < fs.length)
    (k : V X kc kn Q (pc + 3) L st ad N (up σ a (.inr (ci, fs.set f v)))) : V X kc kn Q pc L (v :: .ref h0 :: st) ad N σ := by subst he; exact r_put C fl hd ha hσ hfin hn hfit hlen k
theorem ra_putF (C : gOk X cc nL own R ret) (hini : (gme X).name = "<init>") {idx ci f n : Nat} {CN : String} {T : u_T} {ty : Nat → FieldType} (fl : gFL own idx ci f CN T n ty) (hd : decode cc pc = .ok (.putfield idx, 3)) {a : Int} {h0 : Nat} (he : ad a = h0) (ha : 0 ≤ a ∧ a < N) {fs : List Value} {v : Value} (hσ : σ a = .inr (ci, fs)) (hfin : (T f).2.2.2 = true) (hdecl : (T f).1 = own) (hn : narrow (ty f) v = v) (hfit : fits (ty f) v = true) (hlen : f < fs.length)
    (k : V X kc kn Q (pc + 3) L st ad N (up σ a (.inr (ci, fs.set f v)))) : V X kc kn Q pc L (v :: .ref h0 :: st) ad N σ := by subst he; exact r_putF C hini fl hd ha hσ hfin hdecl hn hfit hlen k
theorem ra_aast (C : gOk X cc nL own R ret) (hd : decode cc pc = .ok (.aastore, 1)) {a b i : Int} {h0 h1 : Nat} (he : ad a = h0) (he1 : ad b = h1) {n t ci : Nat} {f : Nat → Option Nat} {c : ClassId} {r : vw_C} {vs : List Value} (ha : 0 ≤ a ∧ a < N) (hσ : σ a = gRA c n f) (ht : (gtys (gty X))[t]? = some (c, .object r.1)) (hi : 0 ≤ i ∧ i < n) (hn : n < 2147483648) (hb : 0 ≤ b ∧ b < N) (hσb : σ b = .inr (ci, vs)) (hci : vwCl[ci]? = some r)
    (k : V X kc kn Q (pc + 1) L st ad N (up σ a (gRA c n (va_up f i.toNat (some h1))))) : V X kc kn Q pc L (.ref h1 :: .int (gI i) :: .ref h0 :: st) ad N σ := by subst he; subst he1; exact r_aast C hd ha hσ ht hi hn hb hσb hci k
theorem ra_iast (C : gOk X cc nL own R ret) (hd : decode cc pc = .ok (.iastore, 1)) {a i z : Int} {h0 : Nat} (he : ad a = h0) {n : Nat} {g : Int → Int} (ha : 0 ≤ a ∧ a < N) (hσ : σ a = gAr (gty X 0) n g) (hi : 0 ≤ i ∧ i < n) (hn : n < 2147483648)
    (k : V X kc kn Q (pc + 1) L st ad N (up σ a (gAr (gty X 0) n (up g i z)))) : V X kc kn Q pc L (.int (gI z) :: .int (gI i) :: .ref h0 :: st) ad N σ := by subst he; exact r_iast C hd ha hσ hi hn k
end ADDR
def zF1 : List Value := [.null, .null, .int 0, .int 0, .int 0, .int 0, .int 0, .int 0, .int 0]
def roomZ : Int → Int := fun j => if j = 0 then 10 else if j = 5 then 1 else 0
set_option maxRecDepth 100000 in
set_option maxHeartbeats 4000000 in
theorem c_X1_init {l : Launch} {D : va_G} {ty : Nat → ClassId} {ad : Int → Nat} {N : Int} {σ : Int → va_E} {k : Int} {h0 : Nat} (hk : 0 ≤ k ∧ k + 1 = N) (he : ad k = h0) (hσ : σ k = .inr (1, zF1)) : gMet l yX1_init cX1_init 1 none { frames := 1, cells := 2, slots := 8, locals := 20 } [.ref h0] D ty ad N σ (gMk N 2 ad (fun ad' => rput ad' ty σ k roomZ)) := by
  refine gMet_of [some (.ref h0)] (by decide +kernel) rfl (Nat.le_of_ble_eq_true rfl) rfl ?_
  intro X hl hD hty C hini
  subst hl hD hty
  refine r_aload_n C dX1_init_0 rfl rfl ?_
  refine r_objInit C koX1_3 dX1_init_1 rfl (by decide) ?_
  refine r_aload_n C dX1_init_4 rfl rfl ?_
  refine r_iconst C dX1_init_5 ?_
  refine r_newI (n := 4) C kar_int dX1_init_6 (by decide) (by omega) ⟨Nat.le_of_ble_eq_true rfl, Nat.le_of_ble_eq_true rfl⟩ (fun q1 => ?_)
  refine ra_putF (a := k) C hini flX1_9 dX1_init_8 ((up_n (by omega)).trans he) (by omega) ((up_n (by omega)).trans hσ) rfl rfl rfl rfl (Nat.le_of_ble_eq_true rfl) ?_
  refine r_aload_n C dX1_init_11 rfl rfl ?_
  refine r_iconst C dX1_init_12 ?_
  refine r_newI (n := 4) C kar_int dX1_init_13 (by decide) (by omega) ⟨Nat.le_of_ble_eq_true rfl, Nat.le_of_ble_eq_true rfl⟩ (fun q2 => ?_)
  have he2 : up (up ad N q1) (N + 1) q2 k = h0 := (up_n (by omega)).trans ((up_n (by omega)).trans he)
  refine ra_putF (a := k) C hini flX1_15 dX1_init_15 he2 (by omega) ((up_n (by omega)).trans (up_s _ _ _)) rfl rfl rfl rfl (Nat.le_of_ble_eq_true rfl) ?_
  refine r_aload_n C dX1_init_18 rfl rfl ?_
  refine r_bipush C dX1_init_19 (by decide) ?_
  refine ra_put (a := k) C flX1_18 dX1_init_21 he2 (by omega) (up_s _ _ _) rfl rfl rfl (Nat.le_of_ble_eq_true rfl) ?_
  refine r_aload_n C dX1_init_24 rfl rfl ?_
  refine r_iconst C dX1_init_25 ?_
  refine ra_put (a := k) C flX1_22 dX1_init_26 he2 (by omega) (up_s _ _ _) rfl rfl rfl (Nat.le_of_ble_eq_true rfl) ?_
  refine r_vret C dX1_init_29 ⟨rfl, by omega, fun j hj => by rw [up_n (by omega), up_n (by omega)], ?_⟩ (Nat.le_of_ble_eq_true rfl) (Nat.le_of_ble_eq_true rfl)
  show _ = rput (up (up ad N q1) (N + 1) q2) (gty X) σ k roomZ
  funext q
  by_cases h1 : q = k
  · subst h1
    rw [up_s, rput_0]
    have e1 : up (up ad N q1) (N + 1) q2 (q + 1) = q1 := by rw [up_n (by omega), show q + 1 = N by omega, up_s]
    have e2 : up (up ad N q1) (N + 1) q2 (q + 2) = q2 := by rw [show q + 2 = N + 1 by omega, up_s]
    unfold rF
    rw [e1, e2]
    simp [zF1, roomZ, gI_0]
  · by_cases h2 : q = k + 1
    · subst h2
      rw [rput_1, up_n (by omega), up_n (by omega), up_n (by omega), up_n (by omega), up_n (by omega), show k + 1 = N by omega, up_s]
      refine gAr_ext fun j h1 h2 => ?_
      unfold roomZ; rw [if_neg (by omega), if_neg (by omega)]
    · by_cases h3 : q = k + 2
      · subst h3
        rw [rput_2, up_n (by omega), up_n (by omega), up_n (by omega), show k + 2 = N + 1 by omega, up_s]
        refine gAr_ext fun j h1 h2 => ?_
        unfold roomZ; rw [if_neg (by omega), if_neg (by omega)]
      · rw [rput_x (by omega), up_n (by omega), up_n (by omega), up_n (by omega), up_n (by omega), up_n (by omega), up_n (by omega)]
set_option maxRecDepth 100000 in
set_option maxHeartbeats 4000000 in
theorem c_X0_init {l : Launch} {D : va_G} {ty : Nat → ClassId} {ad : Int → Nat} {N : Int} {σ : Int → va_E} {k : Int} {h0 : Nat} (hk : 0 ≤ k ∧ k + 1 = N) (he : ad k = h0) (hσ : σ k = .inr (0, [.null, .int 0])) : gMet l yX0_init cX0_init 1 none { frames := 1, cells := 1, slots := 60, locals := 20 } [.ref h0] D ty ad N σ (gMk N 1 ad (fun ad' => dput ad' ty σ k 0 (fun _ => 0))) := by
  refine gMet_of [some (.ref h0)] (by decide +kernel) rfl (Nat.le_of_ble_eq_true rfl) rfl ?_
  intro X hl hD hty C hini
  subst hl hD hty
  refine r_aload_n C dX0_init_0 rfl rfl ?_
  refine r_objInit C koX0_3 dX0_init_1 rfl (by decide) ?_
  refine r_aload_n C dX0_init_4 rfl rfl ?_
  refine r_bipush C dX0_init_5 (by decide) ?_
  refine r_newC (n := 60) C kar_char dX0_init_7 (by decide) (by omega) ⟨Nat.le_of_ble_eq_true rfl, Nat.le_of_ble_eq_true rfl⟩ (fun q1 => ?_)
  refine ra_putF (a := k) C hini flX0_9 dX0_init_9 ((up_n (by omega)).trans he) (by omega) ((up_n (by omega)).trans hσ) rfl rfl rfl rfl (Nat.le_of_ble_eq_true rfl) ?_
  refine r_vret C dX0_init_12 ⟨rfl, rfl, fun j hj => by rw [up_n (by omega)], ?_⟩ (Nat.le_of_ble_eq_true rfl) (Nat.le_of_ble_eq_true rfl)
  show _ = dput (up ad N q1) (gty X) σ k 0 (fun _ => 0)
  funext q
  unfold dput
  by_cases h1 : q = k
  · subst h1
    rw [up_s, if_pos rfl, show q + 1 = N by omega, up_s]
    simp [gI_0]
  · by_cases h2 : q = k + 1
    · subst h2
      rw [if_neg (by omega), if_pos rfl, up_n (by omega), show k + 1 = N by omega, up_s]
    · rw [if_neg h1, if_neg h2, up_n (by omega), up_n (by omega)]
def zF3 : List Value := [.null, .int 0, .int 0, .int 0, .int 0, .int 0, .int 0, .int 0, .int 0, .int 0]
def rooms0 : Int → Int := fun j => if 9 ≤ j ∧ j < 99 ∧ (j - 9) % 15 = 0 then 10 else if 9 ≤ j ∧ j < 99 ∧ (j - 9) % 15 = 5 then 1 else 0
def store0 : Int → Int := up (up (up rooms0 1 12) 7 (-1)) 0 12
theorem rm_rooms0 {r : Int} (hr : 0 ≤ r ∧ r < 6) : rm rooms0 r = roomZ := by
  funext j
  unfold rm rooms0 roomZ
  by_cases h : 0 ≤ j ∧ j < 15
  · rw [if_pos h]
    by_cases h0 : j = 0
    · rw [if_pos (by omega), if_pos h0]
    · rw [if_neg (by omega), if_neg h0]
      by_cases h5 : j = 5
      · rw [if_pos (by omega), if_pos h5]
      · rw [if_neg (by omega), if_neg h5]
  · rw [if_neg h, if_neg (by omega), if_neg (by omega)]
/-- a store whose first r rooms are made -/
def spart (ad : Int → Nat) (ty : Nat → ClassId) (σ : Int → va_E) (b r : Int) : Int → va_E := fun q =>
  if q = b then .inr (3, .ref (ad (b + 1)) :: zF3.tail) else if q = b + 1 then gRA (ty 3) 6 (fun j => if (j : Int) < r then some (ad (b + 2 + 3 * (j : Int))) else none) else
  if b + 2 ≤ q ∧ q < b + 2 + 3 * r then rcell ad ty (b + 2 + 3 * ((q - b - 2) / 3)) roomZ ((q - b - 2) % 3) else σ q
theorem rcell_ad {ad ad' : Int → Nat} {ty : Nat → ClassId} {k m : Int} {ρ : Int → Int} (h1 : ad (k + 1) = ad' (k + 1)) (h2 : ad (k + 2) = ad' (k + 2)) : rcell ad ty k ρ m = rcell ad' ty k ρ m := by
  unfold rcell rF; rw [h1, h2]
theorem rcell_adG {ad ad' : Int → Nat} {ty : Nat → ClassId} {k m : Int} {ρ : Int → Int} (h1 : ad (k + 1) = ad' (k + 1)) (h2 : ad (k + 2) = ad' (k + 2)) : rcell ad ty k ρ m = rcell ad' ty k ρ m := rcell_ad h1 h2
theorem spart_6 {ad : Int → Nat} {ty : Nat → ClassId} {σ : Int → va_E} {b : Int} : spart ad ty σ b 6 = sput ad ty σ b rooms0 := by
  funext q
  unfold spart sput
  split
  · unfold sF rooms0; simp [zF3, gI_0]
  · split
    · unfold rmA
      congr 1
      funext j
      by_cases h : j < 6
      · rw [if_pos h, if_pos (by omega)]
      · rw [if_neg h, if_neg (by omega)]
    · by_cases h : b + 2 ≤ q ∧ q < b + 20
      · rw [if_pos h, if_pos (by omega), rm_rooms0 (by omega)]
      · rw [if_neg h, if_neg (by omega)]
theorem spart_s {ad ad' : Int → Nat} {ty : Nat → ClassId} {σ : Int → va_E} {b r : Int} {e : va_E} (hr : 0 ≤ r ∧ r < 6) (ha : ∀ j, j < b + 2 + 3 * r → ad' j = ad j) :
    up (rput ad' ty (up (spart ad ty σ b r) (b + 2 + 3 * r) e) (b + 2 + 3 * r) roomZ) (b + 1) (gRA (ty 3) 6 (va_up (fun j => if (j : Int) < r then some (ad (b + 2 + 3 * (j : Int))) else none) r.toNat (some (ad' (b + 2 + 3 * r))))) = spart ad' ty σ b (r + 1) := by
  funext q
  by_cases h1 : q = b + 1
  · subst h1
    rw [up_s]
    unfold spart
    rw [if_neg (by omega), if_pos rfl]
    congr 1
    funext j
    unfold va_up
    by_cases h : j = r.toNat
    · rw [if_pos h, if_pos (by omega), show (j : Int) = r by omega]
    · rw [if_neg h]
      dsimp only
      by_cases h2 : (j : Int) < r
      · rw [if_pos h2, if_pos (by omega), ha _ (by omega)]
      · rw [if_neg h2, if_neg (by omega)]
  · rw [up_n h1]
    by_cases h : b + 2 + 3 * r ≤ q ∧ q < b + 2 + 3 * r + 3
    · unfold spart
      rw [if_neg (by omega), if_neg h1, if_pos (by omega), show (q - b - 2) / 3 = r by omega, show (q - b - 2) % 3 = q - (b + 2 + 3 * r) by omega]
      unfold rput rcell
      by_cases h0 : q = b + 2 + 3 * r
      · rw [if_pos h0, if_pos (show q - (b + 2 + 3 * r) = 0 by omega)]
      · by_cases h2 : q = b + 2 + 3 * r + 1
        · rw [if_neg h0, if_pos h2, if_neg (show ¬ q - (b + 2 + 3 * r) = 0 by omega), if_pos (show q - (b + 2 + 3 * r) = 1 by omega)]
        · rw [if_neg h0, if_neg h2, if_pos (show q = b + 2 + 3 * r + 2 by omega), if_neg (show ¬ q - (b + 2 + 3 * r) = 0 by omega), if_neg (show ¬ q - (b + 2 + 3 * r) = 1 by omega)]
    · rw [rput_x (by omega), up_n (by omega)]
      unfold spart
      by_cases h0 : q = b
      · rw [if_pos h0, if_pos h0, ha _ (by omega)]
      · rw [if_neg h0, if_neg h0, if_neg h1, if_neg h1]
        by_cases h2 : b + 2 ≤ q ∧ q < b + 2 + 3 * r
        · rw [if_pos h2, if_pos (by omega)]
          exact rcell_ad (ha _ (by omega)).symm (ha _ (by omega)).symm
        · rw [if_neg h2, if_neg (by omega)]
set_option maxRecDepth 100000 in
set_option maxHeartbeats 4000000 in
theorem c_X3_init {l : Launch} {D : va_G} {ty : Nat → ClassId} {ad : Int → Nat} {N : Int} {σ : Int → va_E} {b : Int} {h0 : Nat} (hb : 0 ≤ b ∧ b + 1 = N) (he : ad b = h0) (hσ : σ b = .inr (3, zF3)) : gMet l yX3_init cX3_init 2 none { frames := 2, cells := 19, slots := 108, locals := 60 } [.ref h0] D ty ad N σ (gMk N 19 ad (fun ad' => sput ad' ty σ b store0)) := by
  refine gMet_of [some (.ref h0), none] (by decide +kernel) rfl (Nat.le_of_ble_eq_true rfl) rfl ?_
  intro X hl hD hty C hini
  subst hl hD hty
  refine r_aload_n C dX3_init_0 rfl rfl ?_
  refine r_objInit C koX3_3 dX3_init_1 rfl (by decide) ?_
  refine r_aload_n C dX3_init_4 rfl rfl ?_
  refine r_bipush C dX3_init_5 (by decide) ?_
  refine r_newRooms (n := 6) C knX3_9.1 dX3_init_7 (by decide) (by omega) ⟨Nat.le_of_ble_eq_true rfl, Nat.le_of_ble_eq_true rfl⟩ (fun q1 => ?_)
  refine ra_putF (a := b) C hini flX3_11 dX3_init_10 ((up_n (by omega)).trans he) (by omega) ((up_n (by omega)).trans hσ) rfl rfl rfl rfl (Nat.le_of_ble_eq_true rfl) ?_
  refine r_iconst C dX3_init_13 ?_
  refine r_istore_n C dX3_init_14 rfl (Nat.le_of_ble_eq_true rfl) rfl ?_
  dsimp only [List.set]
  have lp : ∀ (n : Nat) (r : Int) (ad1 : Int → Nat) (kc kn : Nat), (0 ≤ r) → (r + n = 6) → (∀ j, j < N → ad1 j = ad j) → (kc + 3 * n = 19) → (kn + 17 * n = 108) → V X kc kn (gQ X (gMk N 19 ad (fun ad' => sput ad' (gty X) σ b store0)) 19 108) 15 [some (.ref h0), some (.int (gI r))] [] ad1 (b + 2 + 3 * r) (spart ad1 (gty X) σ b r) := by
    intro n
    induction n with
    | zero =>
      intro r ad1 kc kn hr hrn ha hkc hkn
      have hr6 : r = 6 := by omega
      subst hr6
      refine r_iload_n C dX3_init_15 rfl rfl ?_
      refine r_bipush C dX3_init_16 (by decide) ?_
      refine r_icmp_ge (tgt := 40) C dX3_init_18 (by decide) (by omega) (by omega) (fun h18 => ?_) (fun h18 => ?_)
      · rw [spart_6]
        have he1 : ad1 b = h0 := (ha b (by omega)).trans he
        subst he1
        refine r_aload_n C dX3_init_40 rfl rfl ?_
        refine r_bipush C dX3_init_41 (by decide) ?_
        refine ss_put (j := 1) C flX3_18 dX3_init_43 (by omega) (by decide) rfl rfl rfl rfl ?_
        refine r_aload_n C dX3_init_46 rfl rfl ?_
        refine r_iconst C dX3_init_47 ?_
        refine ss_put (j := 7) C flX3_22 dX3_init_48 (by omega) (by decide) rfl rfl rfl rfl ?_
        refine r_aload_n C dX3_init_51 rfl rfl ?_
        refine r_bipush C dX3_init_52 (by decide) ?_
        refine ss_put (j := 0) C flX3_25 dX3_init_54 (by omega) (by decide) rfl rfl rfl rfl ?_
        exact r_vret C dX3_init_57 ⟨rfl, by omega, ha, rfl⟩ (by omega) (by omega)
      · exact absurd h18 (by omega)
    | succ n ih =>
      intro r ad1 kc kn hr hrn ha hkc hkn
      have he1 : ad1 b = h0 := (ha b (by omega)).trans he
      refine r_iload_n C dX3_init_15 rfl rfl ?_
      refine r_bipush C dX3_init_16 (by decide) ?_
      refine r_icmp_ge (tgt := 40) C dX3_init_18 (by decide) (by omega) (by omega) (fun h18 => ?_) (fun h18 => ?_)
      · exact absurd h18 (by omega)
      · refine r_aload_n C dX3_init_21 rfl rfl ?_
        refine ra_get (a := b) C flX3_11 dX3_init_22 he1 (by omega) (if_pos rfl) rfl ?_
        refine r_iload_n C dX3_init_25 rfl rfl ?_
        refine r_new (ci := 1) (fs := zF1) C inW1 tyX1_ok knX3_9 rfl dX3_init_26 (fun j hj => by rcases (show j = 0 ∨ j = 1 ∨ j = 2 ∨ j = 3 ∨ j = 4 ∨ j = 5 ∨ j = 6 ∨ j = 7 ∨ j = 8 by omega) with rfl | rfl | rfl | rfl | rfl | rfl | rfl | rfl | rfl <;> rfl) (by omega) ⟨(show kc + 1 ≤ 19 by omega), (show kn + 9 ≤ 108 by omega)⟩ (fun q2 => ?_)
        refine r_dup C dX3_init_29 rfl ?_
        refine r_callI (RY := { frames := 1, cells := 2, slots := 8, locals := 20 }) C cwX3_17 (c_X1_init (k := b + 2 + 3 * r) (by omega) (up_s _ _ _) (up_s _ _ _)) dX3_init_30 rfl rfl rfl (Nat.le_of_ble_eq_true rfl) ⟨Nat.le_of_ble_eq_true rfl, Nat.le_of_ble_eq_true rfl⟩ ⟨(show kc + 1 + 2 ≤ 19 by omega), (show kn + 9 + 8 ≤ 108 by omega)⟩ (fun rv ad2 N2 σ2 hp => ?_)
        obtain ⟨rfl, rfl, ha2, hs2⟩ := hp
        dsimp only at hs2
        subst hs2
        have ha3 : ∀ j, j < b + 2 + 3 * r → ad2 j = ad1 j := fun j hj => (ha2 j (by omega)).trans (up_n (by omega))
        have hq2 : ad2 (b + 2 + 3 * r) = q2 := (ha2 _ (by omega)).trans (up_s _ _ _)
        refine ra_aast (a := b + 1) (b := b + 2 + 3 * r) (t := 3) C dX3_init_33 (ha3 _ (by omega)) hq2 (by omega) (f := fun j => if (j : Int) < r then some (ad1 (b + 2 + 3 * (j : Int))) else none) (c := gty X 3) (n := 6) (r := (RX1, TX1, 9)) ?_ rfl (by omega) (by decide) (by omega) rput_0 rfl ?_
        · rw [rput_x (by omega), up_n (by omega)]
          unfold spart
          rw [if_neg (by omega), if_pos rfl]
        · rw [← hq2, spart_s (by omega) ha3]
          refine r_iinc C dX3_init_34 rfl rfl ?_
          dsimp only [List.set]
          refine r_goto (tgt := 15) C dX3_init_37 (by decide) ?_
          rw [show b + 2 + 3 * r + 1 + 2 = b + 2 + 3 * (r + 1) by omega]
          exact ih (r + 1) ad2 _ _ (by omega) (by omega) (fun j hj => (ha3 j (by omega)).trans (ha j hj)) (by omega) (by omega)
  have h1 := lp 6 0 (up ad N q1) 1 6 (by omega) (by omega) (fun j hj => up_n (by omega)) (by omega) (by omega)
  have e : up (up σ N (gRA (gty X 3) 6 (fun _ => none))) b (.inr (3, zF3.set 0 (.ref q1))) = spart (up ad N q1) (gty X) σ b 0 := by
    funext q
    unfold spart
    by_cases h1 : q = b
    · subst h1
      rw [up_s, if_pos rfl, show q + 1 = N by omega, up_s]
      all_goals rfl
    · rw [up_n h1, if_neg h1]
      by_cases h2 : q = b + 1
      · subst h2
        rw [if_pos rfl, show b + 1 = N by omega, up_s]
        all_goals (congr 1 <;> (funext j; rw [if_neg (by omega)]))
      · rw [if_neg h2, if_neg (by omega), up_n (by omega)]
  rw [show b + 2 + 3 * 0 = N + 1 by omega, ← e] at h1
  exact h1
