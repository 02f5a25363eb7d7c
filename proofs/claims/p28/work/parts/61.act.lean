/-! the law's act -/
set_option maxRecDepth 100000 in
set_option maxHeartbeats 4000000 in
theorem c_L_act {l : Launch} {D : va_G} {ty : Nat → ClassId} {ad : Int → Nat} {N : Int} {σ : Int → va_E} {x n k len t : Int} {u : Int → Int → Int} {s tx : Int → Int} {b Ls : Nat} {xz : Int → Int} {kp a bb c0 c q key : Int} (hst : l.stackTraces = false) (hLs : Ls ≤ 260) (hx : 0 ≤ x ∧ x + 145 ≤ N) (hT : okT len tx) (hi : okI t s n u) (hkp : 0 ≤ kp ∧ kp ≤ 900) (ha : cellF Ls xz (kp + 1) = a) (hb : cellF Ls xz (kp + 2) = bb) (hc0 : cellF Ls xz kp = c0) (hce : low31 c0 % 24 = c) (hqe : low31 a % 6 = q) (hke : low31 bb % 24 = key) : gMetP l yL_act cL_act 7 (some .int) { frames := 9, cells := 1, slots := 6, locals := 300 } [.ref (ad x), .ref b, .int (gI kp)] D ty ad N (xput ad ty σ x s n k u len tx) b Ls xz (fun rv ad' N' σ' => ∃ (z : Int) (s' : Int → Int) (n' k' : Int) (u' : Int → Int → Int), rv = some (.int (gI z)) ∧ ad' = ad ∧ N' = N ∧ σ' = xput ad ty σ x s' n' k' u' len tx ∧ okI (t + 1) s' n' u' ∧ actP c key s n z s' n') := by
  refine gMetP_of [some (.ref (ad x)), some (.ref b), some (.int (gI kp)), none, none, none, none] hst (by decide +kernel) rfl (Nat.le_of_ble_eq_true rfl) rfl ?_
  intro X hl hD hty C hX hS
  subst hl hD hty
  have ho : okX s n u len tx := okX_I hi hT
  have hs := ho.1
  have hn6 := hi.2.1
  have hset := hs.set
  have hbox := hs.box
  have e31 := low31_0 bb
  have hq : 0 ≤ q ∧ q < 6 := by omega
  have hkk : 0 ≤ key ∧ key < 100 := by omega
  have hc : 0 ≤ c ∧ c < 24 := by omega
  have hR := hs.rm hq
  have r0 := hR.len
  have r3 := hR.shi
  have r5 := hR.door
  have r6 := hR.many
  have e32 := low31_0 (gI a >>> (gI 3 &&& 31)).toInt
  have kS : c ≤ 2 → V X 0 0 (gQ X (fun rv ad' N' σ' => ∃ (z : Int) (s' : Int → Int) (n' k' : Int) (u' : Int → Int → Int), rv = some (.int (gI z)) ∧ ad' = ad ∧ N' = N ∧ σ' = xput ad (gty X) σ x s' n' k' u' len tx ∧ okI (t + 1) s' n' u' ∧ actP c key s n z s' n') 1 6) 144 [some (.ref (ad x)), some (.ref b), some (.int (gI kp)), some (.int (gI a)), some (.int (gI bb)), some (.int (gI q)), some (.int (gI key))] [] ad N (xput ad (gty X) σ x s n k u len tx) := by
    intro hcc
    refine r_aload_n C dL_act_144 rfl rfl ?_
    refine r_iload C dL_act_145 rfl ?_
    by_cases hm : mayS s q
    · refine r_cW C hX.2 cwL_68 (w_L_strike hX.1 hx ho hq hm) dL_act_147 rfl rfl rfl (Nat.le_of_ble_eq_true rfl) ⟨Nat.le_of_ble_eq_true rfl, Nat.le_of_ble_eq_true rfl⟩ ⟨Nat.le_of_ble_eq_true rfl, Nat.le_of_ble_eq_true rfl⟩ ?_
      exact r_iret C dL_act_150 ⟨_, _, _, _, _, rfl, rfl, rfl, rfl, okI_push hi (Int.le_of_lt (Int.lt_succ t)) (ok2_le (ok2_light hi.1 hq hm.2) (Int.le_of_lt (Int.lt_succ t))), act_strike hs hq (by omega) hm⟩ (Nat.le_of_ble_eq_true rfl) (Nat.le_of_ble_eq_true rfl)
    · refine r_cW C hX.2 cwL_68 (w_L_strike_f hX.1 hx ho hq hm) dL_act_147 rfl rfl rfl (Nat.le_of_ble_eq_true rfl) ⟨Nat.le_of_ble_eq_true rfl, Nat.le_of_ble_eq_true rfl⟩ ⟨Nat.le_of_ble_eq_true rfl, Nat.le_of_ble_eq_true rfl⟩ ?_
      exact r_iret C dL_act_150 ⟨_, _, _, _, _, rfl, rfl, rfl, rfl, okI_le hi (Int.le_of_lt (Int.lt_succ t)), act_bad (by omega)⟩ (Nat.le_of_ble_eq_true rfl) (Nat.le_of_ble_eq_true rfl)
  have kL : 3 ≤ c ∧ c ≤ 6 → V X 0 0 (gQ X (fun rv ad' N' σ' => ∃ (z : Int) (s' : Int → Int) (n' k' : Int) (u' : Int → Int → Int), rv = some (.int (gI z)) ∧ ad' = ad ∧ N' = N ∧ σ' = xput ad (gty X) σ x s' n' k' u' len tx ∧ okI (t + 1) s' n' u' ∧ actP c key s n z s' n') 1 6) 151 [some (.ref (ad x)), some (.ref b), some (.int (gI kp)), some (.int (gI a)), some (.int (gI bb)), some (.int (gI q)), some (.int (gI key))] [] ad N (xput ad (gty X) σ x s n k u len tx) := by
    intro hcc
    refine r_aload_n C dL_act_151 rfl rfl ?_
    refine r_iload C dL_act_152 rfl ?_
    refine r_iload C dL_act_154 rfl ?_
    refine r_iload C dL_act_156 rfl ?_
    refine r_iconst C dL_act_158 ?_
    refine r_cS C cwL_65 (c_L_low (by omega)) dL_act_159 rfl rfl rfl (Nat.le_of_ble_eq_true rfl) ⟨Nat.le_of_ble_eq_true rfl, Nat.le_of_ble_eq_true rfl⟩ ⟨Nat.le_of_ble_eq_true rfl, Nat.le_of_ble_eq_true rfl⟩ ?_
    refine r_if_le (tgt := 169) C dL_act_162 (by decide) (by omega) (fun h162 => ?_) (fun h162 => ?_)
    · refine r_iconst C dL_act_169 ?_
      refine r_iadd C dL_act_170 ?_
      refine r_bipush C dL_act_171 (by decide) ?_
      refine r_irem C dL_act_173 (by omega) (by omega) ?_
      by_cases hm : mayL s q ((q + 1) % 6)
      · refine r_cW C hX.2 cwL_71 (w_L_light (o := (q + 1) % 6) hX.1 hx ho hq (by omega) hm) dL_act_174 rfl rfl rfl (Nat.le_of_ble_eq_true rfl) ⟨Nat.le_of_ble_eq_true rfl, Nat.le_of_ble_eq_true rfl⟩ ⟨Nat.le_of_ble_eq_true rfl, Nat.le_of_ble_eq_true rfl⟩ ?_
        exact r_iret C dL_act_177 ⟨_, _, _, _, _, rfl, rfl, rfl, rfl, okI_push hi (Int.le_of_lt (Int.lt_succ t)) (ok2_le (ok2_light hi.1 hq hm.2.1) (Int.le_of_lt (Int.lt_succ t))), act_light hs hq (by omega) hm⟩ (Nat.le_of_ble_eq_true rfl) (Nat.le_of_ble_eq_true rfl)
      · refine r_cW C hX.2 cwL_71 (w_L_light_f (o := (q + 1) % 6) hX.1 hx ho hq (by omega) hm) dL_act_174 rfl rfl rfl (Nat.le_of_ble_eq_true rfl) ⟨Nat.le_of_ble_eq_true rfl, Nat.le_of_ble_eq_true rfl⟩ ⟨Nat.le_of_ble_eq_true rfl, Nat.le_of_ble_eq_true rfl⟩ ?_
        exact r_iret C dL_act_177 ⟨_, _, _, _, _, rfl, rfl, rfl, rfl, okI_le hi (Int.le_of_lt (Int.lt_succ t)), act_bad (by omega)⟩ (Nat.le_of_ble_eq_true rfl) (Nat.le_of_ble_eq_true rfl)
    · refine r_iconst C dL_act_165 ?_
      refine r_goto (tgt := 170) C dL_act_166 (by decide) ?_
      refine r_iadd C dL_act_170 ?_
      refine r_bipush C dL_act_171 (by decide) ?_
      refine r_irem C dL_act_173 (by omega) (by omega) ?_
      by_cases hm : mayL s q ((q + 5) % 6)
      · refine r_cW C hX.2 cwL_71 (w_L_light (o := (q + 5) % 6) hX.1 hx ho hq (by omega) hm) dL_act_174 rfl rfl rfl (Nat.le_of_ble_eq_true rfl) ⟨Nat.le_of_ble_eq_true rfl, Nat.le_of_ble_eq_true rfl⟩ ⟨Nat.le_of_ble_eq_true rfl, Nat.le_of_ble_eq_true rfl⟩ ?_
        exact r_iret C dL_act_177 ⟨_, _, _, _, _, rfl, rfl, rfl, rfl, okI_push hi (Int.le_of_lt (Int.lt_succ t)) (ok2_le (ok2_light hi.1 hq hm.2.1) (Int.le_of_lt (Int.lt_succ t))), act_light hs hq (by omega) hm⟩ (Nat.le_of_ble_eq_true rfl) (Nat.le_of_ble_eq_true rfl)
      · refine r_cW C hX.2 cwL_71 (w_L_light_f (o := (q + 5) % 6) hX.1 hx ho hq (by omega) hm) dL_act_174 rfl rfl rfl (Nat.le_of_ble_eq_true rfl) ⟨Nat.le_of_ble_eq_true rfl, Nat.le_of_ble_eq_true rfl⟩ ⟨Nat.le_of_ble_eq_true rfl, Nat.le_of_ble_eq_true rfl⟩ ?_
        exact r_iret C dL_act_177 ⟨_, _, _, _, _, rfl, rfl, rfl, rfl, okI_le hi (Int.le_of_lt (Int.lt_succ t)), act_bad (by omega)⟩ (Nat.le_of_ble_eq_true rfl) (Nat.le_of_ble_eq_true rfl)
  have kF : 7 ≤ c ∧ c ≤ 8 → V X 0 0 (gQ X (fun rv ad' N' σ' => ∃ (z : Int) (s' : Int → Int) (n' k' : Int) (u' : Int → Int → Int), rv = some (.int (gI z)) ∧ ad' = ad ∧ N' = N ∧ σ' = xput ad (gty X) σ x s' n' k' u' len tx ∧ okI (t + 1) s' n' u' ∧ actP c key s n z s' n') 1 6) 178 [some (.ref (ad x)), some (.ref b), some (.int (gI kp)), some (.int (gI a)), some (.int (gI bb)), some (.int (gI q)), some (.int (gI key))] [] ad N (xput ad (gty X) σ x s n k u len tx) := by
    intro hcc
    refine r_aload_n C dL_act_178 rfl rfl ?_
    refine r_iload C dL_act_179 rfl ?_
    by_cases hm : 0 < s 1
    · refine r_cW C hX.2 cwL_74 (w_L_fresh hX.1 hx ho hq hm) dL_act_181 rfl rfl rfl (Nat.le_of_ble_eq_true rfl) ⟨Nat.le_of_ble_eq_true rfl, Nat.le_of_ble_eq_true rfl⟩ ⟨Nat.le_of_ble_eq_true rfl, Nat.le_of_ble_eq_true rfl⟩ ?_
      exact r_iret C dL_act_184 ⟨_, _, _, _, _, rfl, rfl, rfl, rfl, okI_push hi (Int.le_of_lt (Int.lt_succ t)) (ok2_le (ok2_renew hi.1 hq hm) (Int.le_of_lt (Int.lt_succ t))), act_any (by omega) (by omega)⟩ (Nat.le_of_ble_eq_true rfl) (Nat.le_of_ble_eq_true rfl)
    · refine r_cW C hX.2 cwL_74 (w_L_fresh_f hX.1 hx ho hq hm) dL_act_181 rfl rfl rfl (Nat.le_of_ble_eq_true rfl) ⟨Nat.le_of_ble_eq_true rfl, Nat.le_of_ble_eq_true rfl⟩ ⟨Nat.le_of_ble_eq_true rfl, Nat.le_of_ble_eq_true rfl⟩ ?_
      exact r_iret C dL_act_184 ⟨_, _, _, _, _, rfl, rfl, rfl, rfl, okI_le hi (Int.le_of_lt (Int.lt_succ t)), act_bad (by omega)⟩ (Nat.le_of_ble_eq_true rfl) (Nat.le_of_ble_eq_true rfl)
  have kD : c = 9 → V X 0 0 (gQ X (fun rv ad' N' σ' => ∃ (z : Int) (s' : Int → Int) (n' k' : Int) (u' : Int → Int → Int), rv = some (.int (gI z)) ∧ ad' = ad ∧ N' = N ∧ σ' = xput ad (gty X) σ x s' n' k' u' len tx ∧ okI (t + 1) s' n' u' ∧ actP c key s n z s' n') 1 6) 185 [some (.ref (ad x)), some (.ref b), some (.int (gI kp)), some (.int (gI a)), some (.int (gI bb)), some (.int (gI q)), some (.int (gI key))] [] ad N (xput ad (gty X) σ x s n k u len tx) := by
    intro hcc
    refine r_aload_n C dL_act_185 rfl rfl ?_
    refine r_iload C dL_act_186 rfl ?_
    refine r_iload C dL_act_188 rfl ?_
    refine r_iconst C dL_act_190 ?_
    refine r_cS C cwL_65 (c_L_low (by omega)) dL_act_191 rfl rfl rfl (Nat.le_of_ble_eq_true rfl) ⟨Nat.le_of_ble_eq_true rfl, Nat.le_of_ble_eq_true rfl⟩ ⟨Nat.le_of_ble_eq_true rfl, Nat.le_of_ble_eq_true rfl⟩ ?_
    refine r_if_le (tgt := 201) C dL_act_194 (by decide) (by omega) (fun h194 => ?_) (fun h194 => ?_)
    · refine r_iconst C dL_act_201 ?_
      refine r_cV C cwL_76 (c_X4_door hx ho hq (by first | exact Or.inl rfl | exact Or.inr rfl)) dL_act_202 rfl (by omega) xput_0 rfl rfl rfl (Nat.le_of_ble_eq_true rfl) ⟨Nat.le_of_ble_eq_true rfl, Nat.le_of_ble_eq_true rfl⟩ ⟨Nat.le_of_ble_eq_true rfl, Nat.le_of_ble_eq_true rfl⟩ ?_
      exact r_iret C dL_act_205 ⟨_, _, _, _, _, rfl, rfl, rfl, rfl, okI_push hi (Int.le_of_lt (Int.lt_succ t)) (ok2_le (ok2_door hi.1 hq (by first | exact Or.inl rfl | exact Or.inr rfl)) (Int.le_of_lt (Int.lt_succ t))), act_any (by omega) (by omega)⟩ (Nat.le_of_ble_eq_true rfl) (Nat.le_of_ble_eq_true rfl)
    · refine r_iconst C dL_act_197 ?_
      refine r_goto (tgt := 202) C dL_act_198 (by decide) ?_
      refine r_cV C cwL_76 (c_X4_door hx ho hq (by first | exact Or.inl rfl | exact Or.inr rfl)) dL_act_202 rfl (by omega) xput_0 rfl rfl rfl (Nat.le_of_ble_eq_true rfl) ⟨Nat.le_of_ble_eq_true rfl, Nat.le_of_ble_eq_true rfl⟩ ⟨Nat.le_of_ble_eq_true rfl, Nat.le_of_ble_eq_true rfl⟩ ?_
      exact r_iret C dL_act_205 ⟨_, _, _, _, _, rfl, rfl, rfl, rfl, okI_push hi (Int.le_of_lt (Int.lt_succ t)) (ok2_le (ok2_door hi.1 hq (by first | exact Or.inl rfl | exact Or.inr rfl)) (Int.le_of_lt (Int.lt_succ t))), act_any (by omega) (by omega)⟩ (Nat.le_of_ble_eq_true rfl) (Nat.le_of_ble_eq_true rfl)
  have kH : c = 10 → V X 0 0 (gQ X (fun rv ad' N' σ' => ∃ (z : Int) (s' : Int → Int) (n' k' : Int) (u' : Int → Int → Int), rv = some (.int (gI z)) ∧ ad' = ad ∧ N' = N ∧ σ' = xput ad (gty X) σ x s' n' k' u' len tx ∧ okI (t + 1) s' n' u' ∧ actP c key s n z s' n') 1 6) 206 [some (.ref (ad x)), some (.ref b), some (.int (gI kp)), some (.int (gI a)), some (.int (gI bb)), some (.int (gI q)), some (.int (gI key))] [] ad N (xput ad (gty X) σ x s n k u len tx) := by
    intro hcc
    refine r_aload_n C dL_act_206 rfl rfl ?_
    refine r_iload C dL_act_207 rfl ?_
    refine r_iload C dL_act_209 rfl ?_
    refine r_iconst C dL_act_211 ?_
    refine r_cS C cwL_65 (c_L_low (by omega)) dL_act_212 rfl rfl rfl (Nat.le_of_ble_eq_true rfl) ⟨Nat.le_of_ble_eq_true rfl, Nat.le_of_ble_eq_true rfl⟩ ⟨Nat.le_of_ble_eq_true rfl, Nat.le_of_ble_eq_true rfl⟩ ?_
    refine r_if_ne (tgt := 222) C dL_act_215 (by decide) (by omega) (fun h215 => ?_) (fun h215 => ?_)
    · refine r_iconst C dL_act_222 ?_
      refine r_cV C cwL_80 (c_X4_shield hx ho hq (by first | exact Or.inl rfl | exact Or.inr rfl)) dL_act_223 rfl (by omega) xput_0 rfl rfl rfl (Nat.le_of_ble_eq_true rfl) ⟨Nat.le_of_ble_eq_true rfl, Nat.le_of_ble_eq_true rfl⟩ ⟨Nat.le_of_ble_eq_true rfl, Nat.le_of_ble_eq_true rfl⟩ ?_
      exact r_iret C dL_act_226 ⟨_, _, _, _, _, rfl, rfl, rfl, rfl, okI_push hi (Int.le_of_lt (Int.lt_succ t)) (ok2_le (ok2_shield hi.1 hq (by first | exact Or.inl rfl | exact Or.inr rfl)) (Int.le_of_lt (Int.lt_succ t))), act_any (by omega) (by omega)⟩ (Nat.le_of_ble_eq_true rfl) (Nat.le_of_ble_eq_true rfl)
    · refine r_iconst C dL_act_218 ?_
      refine r_goto (tgt := 223) C dL_act_219 (by decide) ?_
      refine r_cV C cwL_80 (c_X4_shield hx ho hq (by first | exact Or.inl rfl | exact Or.inr rfl)) dL_act_223 rfl (by omega) xput_0 rfl rfl rfl (Nat.le_of_ble_eq_true rfl) ⟨Nat.le_of_ble_eq_true rfl, Nat.le_of_ble_eq_true rfl⟩ ⟨Nat.le_of_ble_eq_true rfl, Nat.le_of_ble_eq_true rfl⟩ ?_
      exact r_iret C dL_act_226 ⟨_, _, _, _, _, rfl, rfl, rfl, rfl, okI_push hi (Int.le_of_lt (Int.lt_succ t)) (ok2_le (ok2_shield hi.1 hq (by first | exact Or.inl rfl | exact Or.inr rfl)) (Int.le_of_lt (Int.lt_succ t))), act_any (by omega) (by omega)⟩ (Nat.le_of_ble_eq_true rfl) (Nat.le_of_ble_eq_true rfl)
  have kR : c = 11 → V X 0 0 (gQ X (fun rv ad' N' σ' => ∃ (z : Int) (s' : Int → Int) (n' k' : Int) (u' : Int → Int → Int), rv = some (.int (gI z)) ∧ ad' = ad ∧ N' = N ∧ σ' = xput ad (gty X) σ x s' n' k' u' len tx ∧ okI (t + 1) s' n' u' ∧ actP c key s n z s' n') 1 6) 227 [some (.ref (ad x)), some (.ref b), some (.int (gI kp)), some (.int (gI a)), some (.int (gI bb)), some (.int (gI q)), some (.int (gI key))] [] ad N (xput ad (gty X) σ x s n k u len tx) := by
    intro hcc
    refine r_aload_n C dL_act_227 rfl rfl ?_
    refine r_iload C dL_act_228 rfl ?_
    refine r_iconst C dL_act_230 ?_
    refine r_iload C dL_act_231 rfl ?_
    refine r_bipush C dL_act_233 (by decide) ?_
    refine r_cS C cwL_65 (c_L_low (by omega)) dL_act_235 rfl rfl rfl (Nat.le_of_ble_eq_true rfl) ⟨Nat.le_of_ble_eq_true rfl, Nat.le_of_ble_eq_true rfl⟩ ⟨Nat.le_of_ble_eq_true rfl, Nat.le_of_ble_eq_true rfl⟩ ?_
    refine r_iadd C dL_act_238 ?_
    refine r_cV C cwL_83 (c_X4_draught hx ho hq (by omega)) dL_act_239 rfl (by omega) xput_0 rfl rfl rfl (Nat.le_of_ble_eq_true rfl) ⟨Nat.le_of_ble_eq_true rfl, Nat.le_of_ble_eq_true rfl⟩ ⟨Nat.le_of_ble_eq_true rfl, Nat.le_of_ble_eq_true rfl⟩ ?_
    exact r_iret C dL_act_242 ⟨_, _, _, _, _, rfl, rfl, rfl, rfl, okI_push hi (Int.le_of_lt (Int.lt_succ t)) (ok2_le (ok2_dra hi.1 hq (by omega)) (Int.le_of_lt (Int.lt_succ t))), act_any (by omega) (by have h := cbF_rng (okS_dra hs hq (t := 1 + low31 bb % 6) (by omega)) (f := q) (c := blown (draS s q (1 + low31 bb % 6))) (by have := blown_rng (okS_dra hs hq (t := 1 + low31 bb % 6) (by omega)); omega); omega)⟩ (Nat.le_of_ble_eq_true rfl) (Nat.le_of_ble_eq_true rfl)
  have kK : 12 ≤ c ∧ c ≤ 16 → V X 0 0 (gQ X (fun rv ad' N' σ' => ∃ (z : Int) (s' : Int → Int) (n' k' : Int) (u' : Int → Int → Int), rv = some (.int (gI z)) ∧ ad' = ad ∧ N' = N ∧ σ' = xput ad (gty X) σ x s' n' k' u' len tx ∧ okI (t + 1) s' n' u' ∧ actP c key s n z s' n') 1 6) 243 [some (.ref (ad x)), some (.ref b), some (.int (gI kp)), some (.int (gI a)), some (.int (gI bb)), some (.int (gI q)), some (.int (gI key))] [] ad N (xput ad (gty X) σ x s n k u len tx) := by
    intro hcc
    refine r_aload_n C dL_act_243 rfl rfl ?_
    refine r_iload C dL_act_244 rfl ?_
    refine r_iload C dL_act_246 rfl ?_
    by_cases hm : mayK s q key
    · refine r_cW C hX.2 cwL_86 (w_L_keep hX.1 hx ho hq hkk hm) dL_act_248 rfl rfl rfl (Nat.le_of_ble_eq_true rfl) ⟨Nat.le_of_ble_eq_true rfl, Nat.le_of_ble_eq_true rfl⟩ ⟨Nat.le_of_ble_eq_true rfl, Nat.le_of_ble_eq_true rfl⟩ ?_
      exact r_iret C dL_act_251 ⟨_, _, _, _, _, rfl, rfl, rfl, rfl, okI_push hi (Int.le_of_lt (Int.lt_succ t)) (ok2_le (ok2_keep hi.1 hq hkk hm) (Int.le_of_lt (Int.lt_succ t))), act_any (by omega) (by omega)⟩ (Nat.le_of_ble_eq_true rfl) (Nat.le_of_ble_eq_true rfl)
    · refine r_cW C hX.2 cwL_86 (w_L_keep_f hX.1 hx ho hq hkk hm) dL_act_248 rfl rfl rfl (Nat.le_of_ble_eq_true rfl) ⟨Nat.le_of_ble_eq_true rfl, Nat.le_of_ble_eq_true rfl⟩ ⟨Nat.le_of_ble_eq_true rfl, Nat.le_of_ble_eq_true rfl⟩ ?_
      exact r_iret C dL_act_251 ⟨_, _, _, _, _, rfl, rfl, rfl, rfl, okI_le hi (Int.le_of_lt (Int.lt_succ t)), act_bad (by omega)⟩ (Nat.le_of_ble_eq_true rfl) (Nat.le_of_ble_eq_true rfl)
  have kE : c = 17 ∨ c = 18 → V X 0 0 (gQ X (fun rv ad' N' σ' => ∃ (z : Int) (s' : Int → Int) (n' k' : Int) (u' : Int → Int → Int), rv = some (.int (gI z)) ∧ ad' = ad ∧ N' = N ∧ σ' = xput ad (gty X) σ x s' n' k' u' len tx ∧ okI (t + 1) s' n' u' ∧ actP c key s n z s' n') 1 6) 252 [some (.ref (ad x)), some (.ref b), some (.int (gI kp)), some (.int (gI a)), some (.int (gI bb)), some (.int (gI q)), some (.int (gI key))] [] ad N (xput ad (gty X) σ x s n k u len tx) := by
    intro hcc
    refine r_aload_n C dL_act_252 rfl rfl ?_
    refine r_iload C dL_act_253 rfl ?_
    refine r_cV C cwL_88 (c_X4_read hx ho hkk) dL_act_255 rfl (by omega) xput_0 rfl rfl rfl (Nat.le_of_ble_eq_true rfl) ⟨Nat.le_of_ble_eq_true rfl, Nat.le_of_ble_eq_true rfl⟩ ⟨Nat.le_of_ble_eq_true rfl, Nat.le_of_ble_eq_true rfl⟩ ?_
    exact r_iret C dL_act_258 ⟨_, _, _, _, _, rfl, rfl, rfl, rfl, okI_push hi (Int.le_of_lt (Int.lt_succ t)) (ok2_read hi.1 key), act_read hs (by omega)⟩ (Nat.le_of_ble_eq_true rfl) (Nat.le_of_ble_eq_true rfl)
  have kU : c = 19 → V X 0 0 (gQ X (fun rv ad' N' σ' => ∃ (z : Int) (s' : Int → Int) (n' k' : Int) (u' : Int → Int → Int), rv = some (.int (gI z)) ∧ ad' = ad ∧ N' = N ∧ σ' = xput ad (gty X) σ x s' n' k' u' len tx ∧ okI (t + 1) s' n' u' ∧ actP c key s n z s' n') 1 6) 259 [some (.ref (ad x)), some (.ref b), some (.int (gI kp)), some (.int (gI a)), some (.int (gI bb)), some (.int (gI q)), some (.int (gI key))] [] ad N (xput ad (gty X) σ x s n k u len tx) := by
    intro hcc
    refine r_aload_n C dL_act_259 rfl rfl ?_
    by_cases hm : 1 ≤ n
    · refine r_cW C hX.2 cwL_91 (w_L_undo hX.1 hx ho hm) dL_act_260 rfl rfl rfl (Nat.le_of_ble_eq_true rfl) ⟨Nat.le_of_ble_eq_true rfl, Nat.le_of_ble_eq_true rfl⟩ ⟨Nat.le_of_ble_eq_true rfl, Nat.le_of_ble_eq_true rfl⟩ ?_
      exact r_iret C dL_act_263 ⟨_, _, _, _, _, rfl, rfl, rfl, rfl, okI_undo hi (Int.le_of_lt (Int.lt_succ t)) hm, act_any (by omega) (by omega)⟩ (Nat.le_of_ble_eq_true rfl) (Nat.le_of_ble_eq_true rfl)
    · refine r_cW C hX.2 cwL_91 (w_L_undo_f hX.1 hx ho (by omega)) dL_act_260 rfl rfl rfl (Nat.le_of_ble_eq_true rfl) ⟨Nat.le_of_ble_eq_true rfl, Nat.le_of_ble_eq_true rfl⟩ ⟨Nat.le_of_ble_eq_true rfl, Nat.le_of_ble_eq_true rfl⟩ ?_
      exact r_iret C dL_act_263 ⟨_, _, _, _, _, rfl, rfl, rfl, rfl, okI_le hi (Int.le_of_lt (Int.lt_succ t)), act_bad (by omega)⟩ (Nat.le_of_ble_eq_true rfl) (Nat.le_of_ble_eq_true rfl)
  have kT : c = 20 → V X 0 0 (gQ X (fun rv ad' N' σ' => ∃ (z : Int) (s' : Int → Int) (n' k' : Int) (u' : Int → Int → Int), rv = some (.int (gI z)) ∧ ad' = ad ∧ N' = N ∧ σ' = xput ad (gty X) σ x s' n' k' u' len tx ∧ okI (t + 1) s' n' u' ∧ actP c key s n z s' n') 1 6) 264 [some (.ref (ad x)), some (.ref b), some (.int (gI kp)), some (.int (gI a)), some (.int (gI bb)), some (.int (gI q)), some (.int (gI key))] [] ad N (xput ad (gty X) σ x s n k u len tx) := by
    intro hcc
    refine r_aload_n C dL_act_264 rfl rfl ?_
    refine r_iconst C dL_act_265 ?_
    refine r_iload C dL_act_266 rfl ?_
    refine r_bipush C dL_act_268 (by decide) ?_
    refine r_cS C cwL_65 (c_L_low (by omega)) dL_act_270 rfl rfl rfl (Nat.le_of_ble_eq_true rfl) ⟨Nat.le_of_ble_eq_true rfl, Nat.le_of_ble_eq_true rfl⟩ ⟨Nat.le_of_ble_eq_true rfl, Nat.le_of_ble_eq_true rfl⟩ ?_
    refine r_iadd C dL_act_273 ?_
    refine r_cV C cwL_94 (c_X4_set hx ho (by omega)) dL_act_274 rfl (by omega) xput_0 rfl rfl rfl (Nat.le_of_ble_eq_true rfl) ⟨Nat.le_of_ble_eq_true rfl, Nat.le_of_ble_eq_true rfl⟩ ⟨Nat.le_of_ble_eq_true rfl, Nat.le_of_ble_eq_true rfl⟩ ?_
    exact r_iret C dL_act_277 ⟨_, _, _, _, _, rfl, rfl, rfl, rfl, okI_push hi (Int.le_of_lt (Int.lt_succ t)) (ok2_le (ok2_set hi.1 (by omega)) (Int.le_of_lt (Int.lt_succ t))), act_any (by omega) (by omega)⟩ (Nat.le_of_ble_eq_true rfl) (Nat.le_of_ble_eq_true rfl)
  have kP : 20 < c → V X 0 0 (gQ X (fun rv ad' N' σ' => ∃ (z : Int) (s' : Int → Int) (n' k' : Int) (u' : Int → Int → Int), rv = some (.int (gI z)) ∧ ad' = ad ∧ N' = N ∧ σ' = xput ad (gty X) σ x s' n' k' u' len tx ∧ okI (t + 1) s' n' u' ∧ actP c key s n z s' n') 1 6) 278 [some (.ref (ad x)), some (.ref b), some (.int (gI kp)), some (.int (gI a)), some (.int (gI bb)), some (.int (gI q)), some (.int (gI key))] [] ad N (xput ad (gty X) σ x s n k u len tx) := by
    intro hcc
    refine r_aload_n C dL_act_278 rfl rfl ?_
    refine r_iconst C dL_act_279 ?_
    refine r_iload C dL_act_280 rfl ?_
    refine r_iload_n C dL_act_282 rfl rfl ?_
    refine r_iconst C dL_act_283 ?_
    refine r_ishr C dL_act_284 ?_
    refine r_iconst C dL_act_285 ?_
    refine r_cS C cwL_65 (c_L_low (by omega)) dL_act_286 rfl rfl rfl (Nat.le_of_ble_eq_true rfl) ⟨Nat.le_of_ble_eq_true rfl, Nat.le_of_ble_eq_true rfl⟩ ⟨Nat.le_of_ble_eq_true rfl, Nat.le_of_ble_eq_true rfl⟩ ?_
    refine r_if_ne (tgt := 297) C dL_act_289 (by decide) (by omega) (fun h289 => ?_) (fun h289 => ?_)
    · refine r_iconst C dL_act_297 ?_
      refine r_cS C cwL_65 (c_L_low (by omega)) dL_act_298 rfl rfl rfl (Nat.le_of_ble_eq_true rfl) ⟨Nat.le_of_ble_eq_true rfl, Nat.le_of_ble_eq_true rfl⟩ ⟨Nat.le_of_ble_eq_true rfl, Nat.le_of_ble_eq_true rfl⟩ ?_
      refine r_iadd C dL_act_301 ?_
      refine r_cV C cwL_97 (c_X4_pass hx ho (by omega)) dL_act_302 rfl (by omega) xput_0 rfl rfl rfl (Nat.le_of_ble_eq_true rfl) ⟨Nat.le_of_ble_eq_true rfl, Nat.le_of_ble_eq_true rfl⟩ ⟨Nat.le_of_ble_eq_true rfl, Nat.le_of_ble_eq_true rfl⟩ ?_
      exact r_iret C dL_act_305 ⟨_, _, _, _, _, rfl, rfl, rfl, rfl, okI_push hi (Int.le_of_lt (Int.lt_succ t)) (ok2_bts _ _ _ (ok2_le hi.1 (Int.le_of_lt (Int.lt_succ t)))), act_pass hs (by omega) hcc⟩ (Nat.le_of_ble_eq_true rfl) (Nat.le_of_ble_eq_true rfl)
    · refine r_bipush C dL_act_292 (by decide) ?_
      refine r_goto (tgt := 298) C dL_act_294 (by decide) ?_
      refine r_cS C cwL_65 (c_L_low (by omega)) dL_act_298 rfl rfl rfl (Nat.le_of_ble_eq_true rfl) ⟨Nat.le_of_ble_eq_true rfl, Nat.le_of_ble_eq_true rfl⟩ ⟨Nat.le_of_ble_eq_true rfl, Nat.le_of_ble_eq_true rfl⟩ ?_
      refine r_iadd C dL_act_301 ?_
      refine r_cV C cwL_97 (c_X4_pass hx ho (by omega)) dL_act_302 rfl (by omega) xput_0 rfl rfl rfl (Nat.le_of_ble_eq_true rfl) ⟨Nat.le_of_ble_eq_true rfl, Nat.le_of_ble_eq_true rfl⟩ ⟨Nat.le_of_ble_eq_true rfl, Nat.le_of_ble_eq_true rfl⟩ ?_
      exact r_iret C dL_act_305 ⟨_, _, _, _, _, rfl, rfl, rfl, rfl, okI_push hi (Int.le_of_lt (Int.lt_succ t)) (ok2_bts _ _ _ (ok2_le hi.1 (Int.le_of_lt (Int.lt_succ t)))), act_pass hs (by omega) hcc⟩ (Nat.le_of_ble_eq_true rfl) (Nat.le_of_ble_eq_true rfl)
  refine r_aload_n C dL_act_0 rfl rfl ?_
  refine r_iload_n C dL_act_1 rfl rfl ?_
  refine r_iconst C dL_act_2 ?_
  refine r_iadd C dL_act_3 ?_
  refine r_cP0 C hX hS cwL_59 (q_cell hX.1 hLs (k := kp + 1) (by omega) ha) dL_act_4 rfl rfl rfl (Nat.le_of_ble_eq_true rfl) ⟨Nat.le_of_ble_eq_true rfl, Nat.le_of_ble_eq_true rfl⟩ ⟨Nat.le_of_ble_eq_true rfl, Nat.le_of_ble_eq_true rfl⟩ ?_
  refine r_istore_n C dL_act_7 rfl (Nat.le_of_ble_eq_true rfl) rfl ?_
  dsimp only [List.set]
  refine r_aload_n C dL_act_8 rfl rfl ?_
  refine r_iload_n C dL_act_9 rfl rfl ?_
  refine r_iconst C dL_act_10 ?_
  refine r_iadd C dL_act_11 ?_
  refine r_cP0 C hX hS cwL_59 (q_cell hX.1 hLs (k := kp + 2) (by omega) hb) dL_act_12 rfl rfl rfl (Nat.le_of_ble_eq_true rfl) ⟨Nat.le_of_ble_eq_true rfl, Nat.le_of_ble_eq_true rfl⟩ ⟨Nat.le_of_ble_eq_true rfl, Nat.le_of_ble_eq_true rfl⟩ ?_
  refine r_istore C dL_act_15 (Nat.le_of_ble_eq_true rfl) rfl ?_
  dsimp only [List.set]
  refine r_iload_n C dL_act_17 rfl rfl ?_
  refine r_bipush C dL_act_18 (by decide) ?_
  refine r_cS C cwL_65 (q_low (by omega) hqe) dL_act_20 rfl rfl rfl (Nat.le_of_ble_eq_true rfl) ⟨Nat.le_of_ble_eq_true rfl, Nat.le_of_ble_eq_true rfl⟩ ⟨Nat.le_of_ble_eq_true rfl, Nat.le_of_ble_eq_true rfl⟩ ?_
  refine r_istore C dL_act_23 (Nat.le_of_ble_eq_true rfl) rfl ?_
  dsimp only [List.set]
  refine r_iload C dL_act_25 rfl ?_
  refine r_bipush C dL_act_27 (by decide) ?_
  refine r_cS C cwL_65 (q_low (by omega) hke) dL_act_29 rfl rfl rfl (Nat.le_of_ble_eq_true rfl) ⟨Nat.le_of_ble_eq_true rfl, Nat.le_of_ble_eq_true rfl⟩ ⟨Nat.le_of_ble_eq_true rfl, Nat.le_of_ble_eq_true rfl⟩ ?_
  refine r_istore C dL_act_32 (Nat.le_of_ble_eq_true rfl) rfl ?_
  dsimp only [List.set]
  refine r_aload_n C dL_act_34 rfl rfl ?_
  refine r_iload_n C dL_act_35 rfl rfl ?_
  refine r_cP0 C hX hS cwL_59 (q_cell hX.1 hLs (k := kp) (by omega) hc0) dL_act_36 rfl rfl rfl (Nat.le_of_ble_eq_true rfl) ⟨Nat.le_of_ble_eq_true rfl, Nat.le_of_ble_eq_true rfl⟩ ⟨Nat.le_of_ble_eq_true rfl, Nat.le_of_ble_eq_true rfl⟩ ?_
  refine r_bipush C dL_act_39 (by decide) ?_
  refine r_cS C cwL_65 (q_low (by omega) hce) dL_act_41 rfl rfl rfl (Nat.le_of_ble_eq_true rfl) ⟨Nat.le_of_ble_eq_true rfl, Nat.le_of_ble_eq_true rfl⟩ ⟨Nat.le_of_ble_eq_true rfl, Nat.le_of_ble_eq_true rfl⟩ ?_
  rcases (show c = 0 ∨ c = 1 ∨ c = 2 ∨ c = 3 ∨ c = 4 ∨ c = 5 ∨ c = 6 ∨ c = 7 ∨ c = 8 ∨ c = 9 ∨ c = 10 ∨ c = 11 ∨ c = 12 ∨ c = 13 ∨ c = 14 ∨ c = 15 ∨ c = 16 ∨ c = 17 ∨ c = 18 ∨ c = 19 ∨ c = 20 ∨ 20 < c by omega) with hw | hw | hw | hw | hw | hw | hw | hw | hw | hw | hw | hw | hw | hw | hw | hw | hw | hw | hw | hw | hw | hw
  · exact r_tabIn (tgt := 144) C dL_act_44 (by omega) (by omega) (by omega) (by rw [hw]; rfl) (by decide) (kS (by omega))
  · exact r_tabIn (tgt := 144) C dL_act_44 (by omega) (by omega) (by omega) (by rw [hw]; rfl) (by decide) (kS (by omega))
  · exact r_tabIn (tgt := 144) C dL_act_44 (by omega) (by omega) (by omega) (by rw [hw]; rfl) (by decide) (kS (by omega))
  · exact r_tabIn (tgt := 151) C dL_act_44 (by omega) (by omega) (by omega) (by rw [hw]; rfl) (by decide) (kL (by omega))
  · exact r_tabIn (tgt := 151) C dL_act_44 (by omega) (by omega) (by omega) (by rw [hw]; rfl) (by decide) (kL (by omega))
  · exact r_tabIn (tgt := 151) C dL_act_44 (by omega) (by omega) (by omega) (by rw [hw]; rfl) (by decide) (kL (by omega))
  · exact r_tabIn (tgt := 151) C dL_act_44 (by omega) (by omega) (by omega) (by rw [hw]; rfl) (by decide) (kL (by omega))
  · exact r_tabIn (tgt := 178) C dL_act_44 (by omega) (by omega) (by omega) (by rw [hw]; rfl) (by decide) (kF (by omega))
  · exact r_tabIn (tgt := 178) C dL_act_44 (by omega) (by omega) (by omega) (by rw [hw]; rfl) (by decide) (kF (by omega))
  · exact r_tabIn (tgt := 185) C dL_act_44 (by omega) (by omega) (by omega) (by rw [hw]; rfl) (by decide) (kD (by omega))
  · exact r_tabIn (tgt := 206) C dL_act_44 (by omega) (by omega) (by omega) (by rw [hw]; rfl) (by decide) (kH (by omega))
  · exact r_tabIn (tgt := 227) C dL_act_44 (by omega) (by omega) (by omega) (by rw [hw]; rfl) (by decide) (kR (by omega))
  · exact r_tabIn (tgt := 243) C dL_act_44 (by omega) (by omega) (by omega) (by rw [hw]; rfl) (by decide) (kK (by omega))
  · exact r_tabIn (tgt := 243) C dL_act_44 (by omega) (by omega) (by omega) (by rw [hw]; rfl) (by decide) (kK (by omega))
  · exact r_tabIn (tgt := 243) C dL_act_44 (by omega) (by omega) (by omega) (by rw [hw]; rfl) (by decide) (kK (by omega))
  · exact r_tabIn (tgt := 243) C dL_act_44 (by omega) (by omega) (by omega) (by rw [hw]; rfl) (by decide) (kK (by omega))
  · exact r_tabIn (tgt := 243) C dL_act_44 (by omega) (by omega) (by omega) (by rw [hw]; rfl) (by decide) (kK (by omega))
  · exact r_tabIn (tgt := 252) C dL_act_44 (by omega) (by omega) (by omega) (by rw [hw]; rfl) (by decide) (kE (by omega))
  · exact r_tabIn (tgt := 252) C dL_act_44 (by omega) (by omega) (by omega) (by rw [hw]; rfl) (by decide) (kE (by omega))
  · exact r_tabIn (tgt := 259) C dL_act_44 (by omega) (by omega) (by omega) (by rw [hw]; rfl) (by decide) (kU (by omega))
  · exact r_tabIn (tgt := 264) C dL_act_44 (by omega) (by omega) (by omega) (by rw [hw]; rfl) (by decide) (kT (by omega))
  · exact r_tabOut (tgt := 278) C dL_act_44 (by omega) (Or.inr hw) (by decide) (kP hw)
