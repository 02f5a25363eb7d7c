/-! the law, case by case -/
set_option maxRecDepth 100000 in
set_option maxHeartbeats 4000000 in
theorem lw_strike {X : gT} {rt : Option FieldType} {kc kn : Nat} {Q : State → Prop} {ad : Int → Nat} {σ : Int → va_E} {b Ls : Nat} {xz : Int → Int} {i : Int} {s tx v t p q : Int → Int} {n k len : Int} {u : Int → Int → Int} {g : Nat → Int64} (C : gOk X cL_law 9 RL room_1 rt) (hX : gXk X) (hsc : gSc X b Ls xz) (hi : 0 ≤ i ∧ i + 3 ≤ Ls) (hc : kc + 1 ≤ 628140 ∧ kn + 6 ≤ 7211684) (I : LI s n k u len tx v p) (K : LK X ad σ Q kc kn b i) (hr : 0 ≤ xz (i + 1) ∧ xz (i + 1) < 6) (hm : mayS s (xz (i + 1))) : V X kc kn Q 152 (LL b ad i) [] ad 152 (LW ad (gty X) σ s n k u len tx v s t p tx q g) := by
  obtain ⟨ho, hh, hv3, hv5⟩ := I
  subst hv3 hv5
  have hs := ho.1
  have hn := ho.2.1
  have hxt := ho.2.2.2
  have hlen := hxt.1
  have hz1 := hsc.2.2 (i + 1)
  have hz2 := hsc.2.2 (i + 2)
  show V X kc kn Q 152 [some (.ref b), some (.ref (ad 0)), some (.ref (ad 145)), some (.ref (ad 151)), some (.int (gI i)), none, none, none, none] [] ad 152 _
  refine r_aload_n C dL_law_152 rfl rfl ?_
  refine r_aload_n C dL_law_153 rfl rfl ?_
  refine r_iload C dL_law_154 rfl ?_
  refine r_iconst C dL_law_156 ?_
  refine r_iadd C dL_law_157 ?_
  refine r_sld C hsc dL_law_158 (by omega) ?_
  refine r_aload_n C dL_law_159 rfl rfl ?_
  refine r_cW C hX.2 cwL_80 (lw_w (w_L_strike hX.1 (by omega) ho (by omega) lw_g hr hm)) dL_law_160 rfl rfl rfl (Nat.le_of_ble_eq_true rfl) ⟨Nat.le_of_ble_eq_true rfl, Nat.le_of_ble_eq_true rfl⟩ hc ?_
  refine r_istore C dL_law_163 (Nat.le_of_ble_eq_true rfl) rfl ?_
  dsimp only [List.set]
  refine r_aload_n C dL_law_165 rfl rfl ?_
  refine r_aload_n C dL_law_166 rfl rfl ?_
  refine r_iload C dL_law_167 rfl ?_
  refine r_iconst C dL_law_169 ?_
  refine r_iadd C dL_law_170 ?_
  refine r_sld C hsc dL_law_171 (by omega) ?_
  refine r_cV C cwL_85 (lw_m (by decide) (c_X5_strike (by omega) hn hs hr hm)) dL_law_172 rfl (by omega) (lw_r5 (by decide)) rfl rfl rfl (Nat.le_of_ble_eq_true rfl) ⟨Nat.le_of_ble_eq_true rfl, Nat.le_of_ble_eq_true rfl⟩ hc ?_
  refine r_istore C dL_law_175 (Nat.le_of_ble_eq_true rfl) rfl ?_
  dsimp only [List.set]
  refine r_aload_n C dL_law_177 rfl rfl ?_
  refine r_cV C cwL_86 (lw_m (by decide) (c_X5_thrown (by omega))) dL_law_178 rfl (by omega) (lw_r5 (by decide)) rfl rfl rfl (Nat.le_of_ble_eq_true rfl) ⟨Nat.le_of_ble_eq_true rfl, Nat.le_of_ble_eq_true rfl⟩ hc ?_
  rw [show (up (up v 6 0) 3 (pshN (v 3))) 6 = 0 from rfl]
  refine r_iload C dL_law_181 rfl ?_
  refine r_icmpE (tgt := 188) C dL_law_183 (by decide) ?_
  refine r_iload C dL_law_188 rfl ?_
  refine r_ifne0 (tgt := 205) C dL_law_190 (by decide) ?_
  refine r_aload_n C dL_law_193 rfl rfl ?_
  refine r_iconst C dL_law_194 ?_
  refine r_lald C dL_law_195 (by omega) lw_g2 (by omega) (by decide) ?_
  show V _ _ _ _ _ _ (.long (gI (rm s (xz (i + 1)) 0)).toInt64 :: _) _ _ _
  refine r_iload C dL_law_196 rfl ?_
  refine r_i2l C dL_law_198 ?_
  refine r_lcmpE C dL_law_199 ?_
  refine r_ifeq0 (tgt := 205) C dL_law_200 (by decide) ?_
  refine r_goto (tgt := 1415) C dL_law_205 (by decide) ?_
  refine V_drop 5 ?_
  dsimp only [List.set]
  refine V_drop 6 ?_
  dsimp only [List.set]
  exact K _ _ _ _ _ _ _ _ _ _ _ ⟨okX_push ho (okS_light hs hr hm.2), hist_push hh hn, rfl, rfl⟩

set_option maxRecDepth 100000 in
set_option maxHeartbeats 4000000 in
theorem lw_strike_f1 {X : gT} {rt : Option FieldType} {kc kn : Nat} {Q : State → Prop} {ad : Int → Nat} {σ : Int → va_E} {b Ls : Nat} {xz : Int → Int} {i : Int} {s tx v t p q : Int → Int} {n k len : Int} {u : Int → Int → Int} {g : Nat → Int64} (C : gOk X cL_law 9 RL room_1 rt) (hX : gXk X) (hsc : gSc X b Ls xz) (hi : 0 ≤ i ∧ i + 3 ≤ Ls) (hc : kc + 1 ≤ 628140 ∧ kn + 6 ≤ 7211684) (I : LI s n k u len tx v p) (K : LK X ad σ Q kc kn b i) (hnr : ¬ (0 ≤ xz (i + 1) ∧ xz (i + 1) < 6)) : V X kc kn Q 152 (LL b ad i) [] ad 152 (LW ad (gty X) σ s n k u len tx v s t p tx q g) := by
  obtain ⟨ho, hh, hv3, hv5⟩ := I
  subst hv3 hv5
  have hs := ho.1
  have hn := ho.2.1
  have hxt := ho.2.2.2
  have hlen := hxt.1
  have hz1 := hsc.2.2 (i + 1)
  have hz2 := hsc.2.2 (i + 2)
  show V X kc kn Q 152 [some (.ref b), some (.ref (ad 0)), some (.ref (ad 145)), some (.ref (ad 151)), some (.int (gI i)), none, none, none, none] [] ad 152 _
  refine r_aload_n C dL_law_152 rfl rfl ?_
  refine r_aload_n C dL_law_153 rfl rfl ?_
  refine r_iload C dL_law_154 rfl ?_
  refine r_iconst C dL_law_156 ?_
  refine r_iadd C dL_law_157 ?_
  refine r_sld C hsc dL_law_158 (by omega) ?_
  refine r_aload_n C dL_law_159 rfl rfl ?_
  refine r_cW C hX.2 cwL_80 (w_L_strike_f1 hX.1 (by omega) ho (by omega) lw_g hnr hz1) dL_law_160 rfl rfl rfl (Nat.le_of_ble_eq_true rfl) ⟨Nat.le_of_ble_eq_true rfl, Nat.le_of_ble_eq_true rfl⟩ hc ?_
  refine r_istore C dL_law_163 (Nat.le_of_ble_eq_true rfl) rfl ?_
  dsimp only [List.set]
  refine r_aload_n C dL_law_165 rfl rfl ?_
  refine r_aload_n C dL_law_166 rfl rfl ?_
  refine r_iload C dL_law_167 rfl ?_
  refine r_iconst C dL_law_169 ?_
  refine r_iadd C dL_law_170 ?_
  refine r_sld C hsc dL_law_171 (by omega) ?_
  refine r_cV C cwL_85 (lw_m (by decide) (c_X5_strike_f1 (by omega) hnr hz1)) dL_law_172 rfl (by omega) (lw_r5 (by decide)) rfl rfl rfl (Nat.le_of_ble_eq_true rfl) ⟨Nat.le_of_ble_eq_true rfl, Nat.le_of_ble_eq_true rfl⟩ hc ?_
  refine r_istore C dL_law_175 (Nat.le_of_ble_eq_true rfl) rfl ?_
  dsimp only [List.set]
  refine r_aload_n C dL_law_177 rfl rfl ?_
  refine r_cV C cwL_86 (lw_m (by decide) (c_X5_thrown (by omega))) dL_law_178 rfl (by omega) (lw_r5 (by decide)) rfl rfl rfl (Nat.le_of_ble_eq_true rfl) ⟨Nat.le_of_ble_eq_true rfl, Nat.le_of_ble_eq_true rfl⟩ hc ?_
  rw [show (up v 6 1) 6 = 1 from rfl]
  refine r_iload C dL_law_181 rfl ?_
  refine r_icmpE (tgt := 188) C dL_law_183 (by decide) ?_
  refine r_iload C dL_law_188 rfl ?_
  refine r_ifneK (tgt := 205) C dL_law_190 (by decide) (by decide) ?_
  refine r_goto (tgt := 1415) C dL_law_205 (by decide) ?_
  refine V_drop 5 ?_
  dsimp only [List.set]
  refine V_drop 6 ?_
  dsimp only [List.set]
  exact K _ _ _ _ _ _ _ _ _ _ _ ⟨ho, hh, rfl, rfl⟩

set_option maxRecDepth 100000 in
set_option maxHeartbeats 4000000 in
theorem lw_strike_f2 {X : gT} {rt : Option FieldType} {kc kn : Nat} {Q : State → Prop} {ad : Int → Nat} {σ : Int → va_E} {b Ls : Nat} {xz : Int → Int} {i : Int} {s tx v t p q : Int → Int} {n k len : Int} {u : Int → Int → Int} {g : Nat → Int64} (C : gOk X cL_law 9 RL room_1 rt) (hX : gXk X) (hsc : gSc X b Ls xz) (hi : 0 ≤ i ∧ i + 3 ≤ Ls) (hc : kc + 1 ≤ 628140 ∧ kn + 6 ≤ 7211684) (I : LI s n k u len tx v p) (K : LK X ad σ Q kc kn b i) (hr : 0 ≤ xz (i + 1) ∧ xz (i + 1) < 6) (hm : ¬ mayS s (xz (i + 1))) : V X kc kn Q 152 (LL b ad i) [] ad 152 (LW ad (gty X) σ s n k u len tx v s t p tx q g) := by
  obtain ⟨ho, hh, hv3, hv5⟩ := I
  subst hv3 hv5
  have hs := ho.1
  have hn := ho.2.1
  have hxt := ho.2.2.2
  have hlen := hxt.1
  have hz1 := hsc.2.2 (i + 1)
  have hz2 := hsc.2.2 (i + 2)
  show V X kc kn Q 152 [some (.ref b), some (.ref (ad 0)), some (.ref (ad 145)), some (.ref (ad 151)), some (.int (gI i)), none, none, none, none] [] ad 152 _
  refine r_aload_n C dL_law_152 rfl rfl ?_
  refine r_aload_n C dL_law_153 rfl rfl ?_
  refine r_iload C dL_law_154 rfl ?_
  refine r_iconst C dL_law_156 ?_
  refine r_iadd C dL_law_157 ?_
  refine r_sld C hsc dL_law_158 (by omega) ?_
  refine r_aload_n C dL_law_159 rfl rfl ?_
  refine r_cW C hX.2 cwL_80 (w_L_strike_f2 hX.1 (by omega) ho (by omega) lw_g hr hm) dL_law_160 rfl rfl rfl (Nat.le_of_ble_eq_true rfl) ⟨Nat.le_of_ble_eq_true rfl, Nat.le_of_ble_eq_true rfl⟩ hc ?_
  refine r_istore C dL_law_163 (Nat.le_of_ble_eq_true rfl) rfl ?_
  dsimp only [List.set]
  refine r_aload_n C dL_law_165 rfl rfl ?_
  refine r_aload_n C dL_law_166 rfl rfl ?_
  refine r_iload C dL_law_167 rfl ?_
  refine r_iconst C dL_law_169 ?_
  refine r_iadd C dL_law_170 ?_
  refine r_sld C hsc dL_law_171 (by omega) ?_
  refine r_cV C cwL_85 (lw_m (by decide) (c_X5_strike_f2 (by omega) hs hr hm)) dL_law_172 rfl (by omega) (lw_r5 (by decide)) rfl rfl rfl (Nat.le_of_ble_eq_true rfl) ⟨Nat.le_of_ble_eq_true rfl, Nat.le_of_ble_eq_true rfl⟩ hc ?_
  refine r_istore C dL_law_175 (Nat.le_of_ble_eq_true rfl) rfl ?_
  dsimp only [List.set]
  refine r_aload_n C dL_law_177 rfl rfl ?_
  refine r_cV C cwL_86 (lw_m (by decide) (c_X5_thrown (by omega))) dL_law_178 rfl (by omega) (lw_r5 (by decide)) rfl rfl rfl (Nat.le_of_ble_eq_true rfl) ⟨Nat.le_of_ble_eq_true rfl, Nat.le_of_ble_eq_true rfl⟩ hc ?_
  rw [show (up v 6 2) 6 = 2 from rfl]
  refine r_iload C dL_law_181 rfl ?_
  refine r_icmpE (tgt := 188) C dL_law_183 (by decide) ?_
  refine r_iload C dL_law_188 rfl ?_
  refine r_ifneK (tgt := 205) C dL_law_190 (by decide) (by decide) ?_
  refine r_goto (tgt := 1415) C dL_law_205 (by decide) ?_
  refine V_drop 5 ?_
  dsimp only [List.set]
  refine V_drop 6 ?_
  dsimp only [List.set]
  exact K _ _ _ _ _ _ _ _ _ _ _ ⟨ho, hh, rfl, rfl⟩

set_option maxRecDepth 100000 in
set_option maxHeartbeats 4000000 in
theorem lw_light {X : gT} {rt : Option FieldType} {kc kn : Nat} {Q : State → Prop} {ad : Int → Nat} {σ : Int → va_E} {b Ls : Nat} {xz : Int → Int} {i : Int} {s tx v t p q : Int → Int} {n k len : Int} {u : Int → Int → Int} {g : Nat → Int64} (C : gOk X cL_law 9 RL room_1 rt) (hX : gXk X) (hsc : gSc X b Ls xz) (hi : 0 ≤ i ∧ i + 3 ≤ Ls) (hc : kc + 1 ≤ 628140 ∧ kn + 6 ≤ 7211684) (I : LI s n k u len tx v p) (K : LK X ad σ Q kc kn b i) (hr : 0 ≤ xz (i + 1) ∧ xz (i + 1) < 6) (ho2 : 0 ≤ xz (i + 2) ∧ xz (i + 2) < 6) (hm : mayL s (xz (i + 1)) (xz (i + 2))) : V X kc kn Q 208 (LL b ad i) [] ad 152 (LW ad (gty X) σ s n k u len tx v s t p tx q g) := by
  obtain ⟨ho, hh, hv3, hv5⟩ := I
  subst hv3 hv5
  have hs := ho.1
  have hn := ho.2.1
  have hxt := ho.2.2.2
  have hlen := hxt.1
  have hz1 := hsc.2.2 (i + 1)
  have hz2 := hsc.2.2 (i + 2)
  show V X kc kn Q 208 [some (.ref b), some (.ref (ad 0)), some (.ref (ad 145)), some (.ref (ad 151)), some (.int (gI i)), none, none, none, none] [] ad 152 _
  refine r_aload_n C dL_law_208 rfl rfl ?_
  refine r_aload_n C dL_law_209 rfl rfl ?_
  refine r_iload C dL_law_210 rfl ?_
  refine r_iconst C dL_law_212 ?_
  refine r_iadd C dL_law_213 ?_
  refine r_sld C hsc dL_law_214 (by omega) ?_
  refine r_aload_n C dL_law_215 rfl rfl ?_
  refine r_iload C dL_law_216 rfl ?_
  refine r_iconst C dL_law_218 ?_
  refine r_iadd C dL_law_219 ?_
  refine r_sld C hsc dL_law_220 (by omega) ?_
  refine r_aload_n C dL_law_221 rfl rfl ?_
  refine r_cW C hX.2 cwL_89 (lw_w (w_L_light hX.1 (by omega) ho (by omega) lw_g hr ho2 hm)) dL_law_222 rfl rfl rfl (Nat.le_of_ble_eq_true rfl) ⟨Nat.le_of_ble_eq_true rfl, Nat.le_of_ble_eq_true rfl⟩ hc ?_
  refine r_istore C dL_law_225 (Nat.le_of_ble_eq_true rfl) rfl ?_
  dsimp only [List.set]
  refine r_aload_n C dL_law_227 rfl rfl ?_
  refine r_aload_n C dL_law_228 rfl rfl ?_
  refine r_iload C dL_law_229 rfl ?_
  refine r_iconst C dL_law_231 ?_
  refine r_iadd C dL_law_232 ?_
  refine r_sld C hsc dL_law_233 (by omega) ?_
  refine r_aload_n C dL_law_234 rfl rfl ?_
  refine r_iload C dL_law_235 rfl ?_
  refine r_iconst C dL_law_237 ?_
  refine r_iadd C dL_law_238 ?_
  refine r_sld C hsc dL_law_239 (by omega) ?_
  refine r_cV C cwL_92 (lw_m (by decide) (c_X5_light (by omega) hn hs hr ho2 hm)) dL_law_240 rfl (by omega) (lw_r5 (by decide)) rfl rfl rfl (Nat.le_of_ble_eq_true rfl) ⟨Nat.le_of_ble_eq_true rfl, Nat.le_of_ble_eq_true rfl⟩ hc ?_
  refine r_istore C dL_law_243 (Nat.le_of_ble_eq_true rfl) rfl ?_
  dsimp only [List.set]
  refine r_aload_n C dL_law_245 rfl rfl ?_
  refine r_cV C cwL_86 (lw_m (by decide) (c_X5_thrown (by omega))) dL_law_246 rfl (by omega) (lw_r5 (by decide)) rfl rfl rfl (Nat.le_of_ble_eq_true rfl) ⟨Nat.le_of_ble_eq_true rfl, Nat.le_of_ble_eq_true rfl⟩ hc ?_
  rw [show (up (up v 6 0) 3 (pshN (v 3))) 6 = 0 from rfl]
  refine r_iload C dL_law_249 rfl ?_
  refine r_icmpE (tgt := 256) C dL_law_251 (by decide) ?_
  refine r_iload C dL_law_256 rfl ?_
  refine r_ifne0 (tgt := 273) C dL_law_258 (by decide) ?_
  refine r_aload_n C dL_law_261 rfl rfl ?_
  refine r_iconst C dL_law_262 ?_
  refine r_lald C dL_law_263 (by omega) lw_g2 (by omega) (by decide) ?_
  show V _ _ _ _ _ _ (.long (gI (rm s (xz (i + 1)) 0)).toInt64 :: _) _ _ _
  refine r_iload C dL_law_264 rfl ?_
  refine r_i2l C dL_law_266 ?_
  refine r_lcmpE C dL_law_267 ?_
  refine r_ifeq0 (tgt := 273) C dL_law_268 (by decide) ?_
  refine r_goto (tgt := 1415) C dL_law_273 (by decide) ?_
  refine V_drop 5 ?_
  dsimp only [List.set]
  refine V_drop 6 ?_
  dsimp only [List.set]
  exact K _ _ _ _ _ _ _ _ _ _ _ ⟨okX_push ho (okS_light hs hr hm.2.1), hist_push hh hn, rfl, rfl⟩

set_option maxRecDepth 100000 in
set_option maxHeartbeats 4000000 in
theorem lw_light_f1 {X : gT} {rt : Option FieldType} {kc kn : Nat} {Q : State → Prop} {ad : Int → Nat} {σ : Int → va_E} {b Ls : Nat} {xz : Int → Int} {i : Int} {s tx v t p q : Int → Int} {n k len : Int} {u : Int → Int → Int} {g : Nat → Int64} (C : gOk X cL_law 9 RL room_1 rt) (hX : gXk X) (hsc : gSc X b Ls xz) (hi : 0 ≤ i ∧ i + 3 ≤ Ls) (hc : kc + 1 ≤ 628140 ∧ kn + 6 ≤ 7211684) (I : LI s n k u len tx v p) (K : LK X ad σ Q kc kn b i) (hnr : ¬ (0 ≤ xz (i + 1) ∧ xz (i + 1) < 6)) : V X kc kn Q 208 (LL b ad i) [] ad 152 (LW ad (gty X) σ s n k u len tx v s t p tx q g) := by
  obtain ⟨ho, hh, hv3, hv5⟩ := I
  subst hv3 hv5
  have hs := ho.1
  have hn := ho.2.1
  have hxt := ho.2.2.2
  have hlen := hxt.1
  have hz1 := hsc.2.2 (i + 1)
  have hz2 := hsc.2.2 (i + 2)
  show V X kc kn Q 208 [some (.ref b), some (.ref (ad 0)), some (.ref (ad 145)), some (.ref (ad 151)), some (.int (gI i)), none, none, none, none] [] ad 152 _
  refine r_aload_n C dL_law_208 rfl rfl ?_
  refine r_aload_n C dL_law_209 rfl rfl ?_
  refine r_iload C dL_law_210 rfl ?_
  refine r_iconst C dL_law_212 ?_
  refine r_iadd C dL_law_213 ?_
  refine r_sld C hsc dL_law_214 (by omega) ?_
  refine r_aload_n C dL_law_215 rfl rfl ?_
  refine r_iload C dL_law_216 rfl ?_
  refine r_iconst C dL_law_218 ?_
  refine r_iadd C dL_law_219 ?_
  refine r_sld C hsc dL_law_220 (by omega) ?_
  refine r_aload_n C dL_law_221 rfl rfl ?_
  refine r_cW C hX.2 cwL_89 (w_L_light_f1 hX.1 (by omega) ho (by omega) lw_g hnr hz1) dL_law_222 rfl rfl rfl (Nat.le_of_ble_eq_true rfl) ⟨Nat.le_of_ble_eq_true rfl, Nat.le_of_ble_eq_true rfl⟩ hc ?_
  refine r_istore C dL_law_225 (Nat.le_of_ble_eq_true rfl) rfl ?_
  dsimp only [List.set]
  refine r_aload_n C dL_law_227 rfl rfl ?_
  refine r_aload_n C dL_law_228 rfl rfl ?_
  refine r_iload C dL_law_229 rfl ?_
  refine r_iconst C dL_law_231 ?_
  refine r_iadd C dL_law_232 ?_
  refine r_sld C hsc dL_law_233 (by omega) ?_
  refine r_aload_n C dL_law_234 rfl rfl ?_
  refine r_iload C dL_law_235 rfl ?_
  refine r_iconst C dL_law_237 ?_
  refine r_iadd C dL_law_238 ?_
  refine r_sld C hsc dL_law_239 (by omega) ?_
  refine r_cV C cwL_92 (lw_m (by decide) (c_X5_light_f1 (by omega) (fun h => hnr h.1) hz1 hz2)) dL_law_240 rfl (by omega) (lw_r5 (by decide)) rfl rfl rfl (Nat.le_of_ble_eq_true rfl) ⟨Nat.le_of_ble_eq_true rfl, Nat.le_of_ble_eq_true rfl⟩ hc ?_
  refine r_istore C dL_law_243 (Nat.le_of_ble_eq_true rfl) rfl ?_
  dsimp only [List.set]
  refine r_aload_n C dL_law_245 rfl rfl ?_
  refine r_cV C cwL_86 (lw_m (by decide) (c_X5_thrown (by omega))) dL_law_246 rfl (by omega) (lw_r5 (by decide)) rfl rfl rfl (Nat.le_of_ble_eq_true rfl) ⟨Nat.le_of_ble_eq_true rfl, Nat.le_of_ble_eq_true rfl⟩ hc ?_
  rw [show (up v 6 1) 6 = 1 from rfl]
  refine r_iload C dL_law_249 rfl ?_
  refine r_icmpE (tgt := 256) C dL_law_251 (by decide) ?_
  refine r_iload C dL_law_256 rfl ?_
  refine r_ifneK (tgt := 273) C dL_law_258 (by decide) (by decide) ?_
  refine r_goto (tgt := 1415) C dL_law_273 (by decide) ?_
  refine V_drop 5 ?_
  dsimp only [List.set]
  refine V_drop 6 ?_
  dsimp only [List.set]
  exact K _ _ _ _ _ _ _ _ _ _ _ ⟨ho, hh, rfl, rfl⟩

set_option maxRecDepth 100000 in
set_option maxHeartbeats 4000000 in
theorem lw_light_f1b {X : gT} {rt : Option FieldType} {kc kn : Nat} {Q : State → Prop} {ad : Int → Nat} {σ : Int → va_E} {b Ls : Nat} {xz : Int → Int} {i : Int} {s tx v t p q : Int → Int} {n k len : Int} {u : Int → Int → Int} {g : Nat → Int64} (C : gOk X cL_law 9 RL room_1 rt) (hX : gXk X) (hsc : gSc X b Ls xz) (hi : 0 ≤ i ∧ i + 3 ≤ Ls) (hc : kc + 1 ≤ 628140 ∧ kn + 6 ≤ 7211684) (I : LI s n k u len tx v p) (K : LK X ad σ Q kc kn b i) (hr : 0 ≤ xz (i + 1) ∧ xz (i + 1) < 6) (hno : ¬ (0 ≤ xz (i + 2) ∧ xz (i + 2) < 6)) : V X kc kn Q 208 (LL b ad i) [] ad 152 (LW ad (gty X) σ s n k u len tx v s t p tx q g) := by
  obtain ⟨ho, hh, hv3, hv5⟩ := I
  subst hv3 hv5
  have hs := ho.1
  have hn := ho.2.1
  have hxt := ho.2.2.2
  have hlen := hxt.1
  have hz1 := hsc.2.2 (i + 1)
  have hz2 := hsc.2.2 (i + 2)
  show V X kc kn Q 208 [some (.ref b), some (.ref (ad 0)), some (.ref (ad 145)), some (.ref (ad 151)), some (.int (gI i)), none, none, none, none] [] ad 152 _
  refine r_aload_n C dL_law_208 rfl rfl ?_
  refine r_aload_n C dL_law_209 rfl rfl ?_
  refine r_iload C dL_law_210 rfl ?_
  refine r_iconst C dL_law_212 ?_
  refine r_iadd C dL_law_213 ?_
  refine r_sld C hsc dL_law_214 (by omega) ?_
  refine r_aload_n C dL_law_215 rfl rfl ?_
  refine r_iload C dL_law_216 rfl ?_
  refine r_iconst C dL_law_218 ?_
  refine r_iadd C dL_law_219 ?_
  refine r_sld C hsc dL_law_220 (by omega) ?_
  refine r_aload_n C dL_law_221 rfl rfl ?_
  refine r_cW C hX.2 cwL_89 (w_L_light_f1b hX.1 (by omega) ho (by omega) lw_g hr hno hz2) dL_law_222 rfl rfl rfl (Nat.le_of_ble_eq_true rfl) ⟨Nat.le_of_ble_eq_true rfl, Nat.le_of_ble_eq_true rfl⟩ hc ?_
  refine r_istore C dL_law_225 (Nat.le_of_ble_eq_true rfl) rfl ?_
  dsimp only [List.set]
  refine r_aload_n C dL_law_227 rfl rfl ?_
  refine r_aload_n C dL_law_228 rfl rfl ?_
  refine r_iload C dL_law_229 rfl ?_
  refine r_iconst C dL_law_231 ?_
  refine r_iadd C dL_law_232 ?_
  refine r_sld C hsc dL_law_233 (by omega) ?_
  refine r_aload_n C dL_law_234 rfl rfl ?_
  refine r_iload C dL_law_235 rfl ?_
  refine r_iconst C dL_law_237 ?_
  refine r_iadd C dL_law_238 ?_
  refine r_sld C hsc dL_law_239 (by omega) ?_
  refine r_cV C cwL_92 (lw_m (by decide) (c_X5_light_f1 (by omega) (fun h => hno h.2) hz1 hz2)) dL_law_240 rfl (by omega) (lw_r5 (by decide)) rfl rfl rfl (Nat.le_of_ble_eq_true rfl) ⟨Nat.le_of_ble_eq_true rfl, Nat.le_of_ble_eq_true rfl⟩ hc ?_
  refine r_istore C dL_law_243 (Nat.le_of_ble_eq_true rfl) rfl ?_
  dsimp only [List.set]
  refine r_aload_n C dL_law_245 rfl rfl ?_
  refine r_cV C cwL_86 (lw_m (by decide) (c_X5_thrown (by omega))) dL_law_246 rfl (by omega) (lw_r5 (by decide)) rfl rfl rfl (Nat.le_of_ble_eq_true rfl) ⟨Nat.le_of_ble_eq_true rfl, Nat.le_of_ble_eq_true rfl⟩ hc ?_
  rw [show (up v 6 1) 6 = 1 from rfl]
  refine r_iload C dL_law_249 rfl ?_
  refine r_icmpE (tgt := 256) C dL_law_251 (by decide) ?_
  refine r_iload C dL_law_256 rfl ?_
  refine r_ifneK (tgt := 273) C dL_law_258 (by decide) (by decide) ?_
  refine r_goto (tgt := 1415) C dL_law_273 (by decide) ?_
  refine V_drop 5 ?_
  dsimp only [List.set]
  refine V_drop 6 ?_
  dsimp only [List.set]
  exact K _ _ _ _ _ _ _ _ _ _ _ ⟨ho, hh, rfl, rfl⟩

set_option maxRecDepth 100000 in
set_option maxHeartbeats 4000000 in
theorem lw_light_f2 {X : gT} {rt : Option FieldType} {kc kn : Nat} {Q : State → Prop} {ad : Int → Nat} {σ : Int → va_E} {b Ls : Nat} {xz : Int → Int} {i : Int} {s tx v t p q : Int → Int} {n k len : Int} {u : Int → Int → Int} {g : Nat → Int64} (C : gOk X cL_law 9 RL room_1 rt) (hX : gXk X) (hsc : gSc X b Ls xz) (hi : 0 ≤ i ∧ i + 3 ≤ Ls) (hc : kc + 1 ≤ 628140 ∧ kn + 6 ≤ 7211684) (I : LI s n k u len tx v p) (K : LK X ad σ Q kc kn b i) (hr : 0 ≤ xz (i + 1) ∧ xz (i + 1) < 6) (ho2 : 0 ≤ xz (i + 2) ∧ xz (i + 2) < 6) (hm : ¬ mayL s (xz (i + 1)) (xz (i + 2))) : V X kc kn Q 208 (LL b ad i) [] ad 152 (LW ad (gty X) σ s n k u len tx v s t p tx q g) := by
  obtain ⟨ho, hh, hv3, hv5⟩ := I
  subst hv3 hv5
  have hs := ho.1
  have hn := ho.2.1
  have hxt := ho.2.2.2
  have hlen := hxt.1
  have hz1 := hsc.2.2 (i + 1)
  have hz2 := hsc.2.2 (i + 2)
  show V X kc kn Q 208 [some (.ref b), some (.ref (ad 0)), some (.ref (ad 145)), some (.ref (ad 151)), some (.int (gI i)), none, none, none, none] [] ad 152 _
  refine r_aload_n C dL_law_208 rfl rfl ?_
  refine r_aload_n C dL_law_209 rfl rfl ?_
  refine r_iload C dL_law_210 rfl ?_
  refine r_iconst C dL_law_212 ?_
  refine r_iadd C dL_law_213 ?_
  refine r_sld C hsc dL_law_214 (by omega) ?_
  refine r_aload_n C dL_law_215 rfl rfl ?_
  refine r_iload C dL_law_216 rfl ?_
  refine r_iconst C dL_law_218 ?_
  refine r_iadd C dL_law_219 ?_
  refine r_sld C hsc dL_law_220 (by omega) ?_
  refine r_aload_n C dL_law_221 rfl rfl ?_
  refine r_cW C hX.2 cwL_89 (w_L_light_f2 hX.1 (by omega) ho (by omega) lw_g hr ho2 hm) dL_law_222 rfl rfl rfl (Nat.le_of_ble_eq_true rfl) ⟨Nat.le_of_ble_eq_true rfl, Nat.le_of_ble_eq_true rfl⟩ hc ?_
  refine r_istore C dL_law_225 (Nat.le_of_ble_eq_true rfl) rfl ?_
  dsimp only [List.set]
  refine r_aload_n C dL_law_227 rfl rfl ?_
  refine r_aload_n C dL_law_228 rfl rfl ?_
  refine r_iload C dL_law_229 rfl ?_
  refine r_iconst C dL_law_231 ?_
  refine r_iadd C dL_law_232 ?_
  refine r_sld C hsc dL_law_233 (by omega) ?_
  refine r_aload_n C dL_law_234 rfl rfl ?_
  refine r_iload C dL_law_235 rfl ?_
  refine r_iconst C dL_law_237 ?_
  refine r_iadd C dL_law_238 ?_
  refine r_sld C hsc dL_law_239 (by omega) ?_
  refine r_cV C cwL_92 (lw_m (by decide) (c_X5_light_f2 (by omega) hs hr ho2 hm)) dL_law_240 rfl (by omega) (lw_r5 (by decide)) rfl rfl rfl (Nat.le_of_ble_eq_true rfl) ⟨Nat.le_of_ble_eq_true rfl, Nat.le_of_ble_eq_true rfl⟩ hc ?_
  refine r_istore C dL_law_243 (Nat.le_of_ble_eq_true rfl) rfl ?_
  dsimp only [List.set]
  refine r_aload_n C dL_law_245 rfl rfl ?_
  refine r_cV C cwL_86 (lw_m (by decide) (c_X5_thrown (by omega))) dL_law_246 rfl (by omega) (lw_r5 (by decide)) rfl rfl rfl (Nat.le_of_ble_eq_true rfl) ⟨Nat.le_of_ble_eq_true rfl, Nat.le_of_ble_eq_true rfl⟩ hc ?_
  rw [show (up v 6 2) 6 = 2 from rfl]
  refine r_iload C dL_law_249 rfl ?_
  refine r_icmpE (tgt := 256) C dL_law_251 (by decide) ?_
  refine r_iload C dL_law_256 rfl ?_
  refine r_ifneK (tgt := 273) C dL_law_258 (by decide) (by decide) ?_
  refine r_goto (tgt := 1415) C dL_law_273 (by decide) ?_
  refine V_drop 5 ?_
  dsimp only [List.set]
  refine V_drop 6 ?_
  dsimp only [List.set]
  exact K _ _ _ _ _ _ _ _ _ _ _ ⟨ho, hh, rfl, rfl⟩

set_option maxRecDepth 100000 in
set_option maxHeartbeats 4000000 in
theorem lw_fresh {X : gT} {rt : Option FieldType} {kc kn : Nat} {Q : State → Prop} {ad : Int → Nat} {σ : Int → va_E} {b Ls : Nat} {xz : Int → Int} {i : Int} {s tx v t p q : Int → Int} {n k len : Int} {u : Int → Int → Int} {g : Nat → Int64} (C : gOk X cL_law 9 RL room_1 rt) (hX : gXk X) (hsc : gSc X b Ls xz) (hi : 0 ≤ i ∧ i + 3 ≤ Ls) (hc : kc + 1 ≤ 628140 ∧ kn + 6 ≤ 7211684) (I : LI s n k u len tx v p) (K : LK X ad σ Q kc kn b i) (hr : 0 ≤ xz (i + 1) ∧ xz (i + 1) < 6) (hm : 0 < s 1) : V X kc kn Q 276 (LL b ad i) [] ad 152 (LW ad (gty X) σ s n k u len tx v s t p tx q g) := by
  obtain ⟨ho, hh, hv3, hv5⟩ := I
  subst hv3 hv5
  have hs := ho.1
  have hn := ho.2.1
  have hxt := ho.2.2.2
  have hlen := hxt.1
  have hz1 := hsc.2.2 (i + 1)
  have hz2 := hsc.2.2 (i + 2)
  show V X kc kn Q 276 [some (.ref b), some (.ref (ad 0)), some (.ref (ad 145)), some (.ref (ad 151)), some (.int (gI i)), none, none, none, none] [] ad 152 _
  refine r_aload_n C dL_law_276 rfl rfl ?_
  refine r_aload_n C dL_law_277 rfl rfl ?_
  refine r_iload C dL_law_278 rfl ?_
  refine r_iconst C dL_law_280 ?_
  refine r_iadd C dL_law_281 ?_
  refine r_sld C hsc dL_law_282 (by omega) ?_
  refine r_aload_n C dL_law_283 rfl rfl ?_
  refine r_cW C hX.2 cwL_93 (lw_w (w_L_fresh hX.1 (by omega) ho (by omega) lw_g hr hm)) dL_law_284 rfl rfl rfl (Nat.le_of_ble_eq_true rfl) ⟨Nat.le_of_ble_eq_true rfl, Nat.le_of_ble_eq_true rfl⟩ hc ?_
  refine r_istore C dL_law_287 (Nat.le_of_ble_eq_true rfl) rfl ?_
  dsimp only [List.set]
  refine r_aload_n C dL_law_289 rfl rfl ?_
  refine r_aload_n C dL_law_290 rfl rfl ?_
  refine r_iload C dL_law_291 rfl ?_
  refine r_iconst C dL_law_293 ?_
  refine r_iadd C dL_law_294 ?_
  refine r_sld C hsc dL_law_295 (by omega) ?_
  refine r_cV C cwL_95 (lw_m (by decide) (c_X5_fresh (by omega) hn hs hr hm)) dL_law_296 rfl (by omega) (lw_r5 (by decide)) rfl rfl rfl (Nat.le_of_ble_eq_true rfl) ⟨Nat.le_of_ble_eq_true rfl, Nat.le_of_ble_eq_true rfl⟩ hc ?_
  refine r_istore C dL_law_299 (Nat.le_of_ble_eq_true rfl) rfl ?_
  dsimp only [List.set]
  refine r_aload_n C dL_law_301 rfl rfl ?_
  refine r_cV C cwL_86 (lw_m (by decide) (c_X5_thrown (by omega))) dL_law_302 rfl (by omega) (lw_r5 (by decide)) rfl rfl rfl (Nat.le_of_ble_eq_true rfl) ⟨Nat.le_of_ble_eq_true rfl, Nat.le_of_ble_eq_true rfl⟩ hc ?_
  rw [show (up (up v 6 0) 3 (pshN (v 3))) 6 = 0 from rfl]
  refine r_iload C dL_law_305 rfl ?_
  refine r_icmpE (tgt := 312) C dL_law_307 (by decide) ?_
  refine r_iload C dL_law_312 rfl ?_
  refine r_ifne0 (tgt := 329) C dL_law_314 (by decide) ?_
  refine r_aload_n C dL_law_317 rfl rfl ?_
  refine r_iconst C dL_law_318 ?_
  refine r_lald C dL_law_319 (by omega) lw_g2 (by omega) (by decide) ?_
  show V _ _ _ _ _ _ (.long (gI (s 1 - 1)).toInt64 :: _) _ _ _
  refine r_iload C dL_law_320 rfl ?_
  refine r_i2l C dL_law_322 ?_
  refine r_lcmpE C dL_law_323 ?_
  refine r_ifeq0 (tgt := 329) C dL_law_324 (by decide) ?_
  refine r_goto (tgt := 1415) C dL_law_329 (by decide) ?_
  refine V_drop 5 ?_
  dsimp only [List.set]
  refine V_drop 6 ?_
  dsimp only [List.set]
  exact K _ _ _ _ _ _ _ _ _ _ _ ⟨okX_push ho (okS_renew hs hr hm), hist_push hh hn, rfl, rfl⟩

set_option maxRecDepth 100000 in
set_option maxHeartbeats 4000000 in
theorem lw_fresh_f1 {X : gT} {rt : Option FieldType} {kc kn : Nat} {Q : State → Prop} {ad : Int → Nat} {σ : Int → va_E} {b Ls : Nat} {xz : Int → Int} {i : Int} {s tx v t p q : Int → Int} {n k len : Int} {u : Int → Int → Int} {g : Nat → Int64} (C : gOk X cL_law 9 RL room_1 rt) (hX : gXk X) (hsc : gSc X b Ls xz) (hi : 0 ≤ i ∧ i + 3 ≤ Ls) (hc : kc + 1 ≤ 628140 ∧ kn + 6 ≤ 7211684) (I : LI s n k u len tx v p) (K : LK X ad σ Q kc kn b i) (hnr : ¬ (0 ≤ xz (i + 1) ∧ xz (i + 1) < 6)) : V X kc kn Q 276 (LL b ad i) [] ad 152 (LW ad (gty X) σ s n k u len tx v s t p tx q g) := by
  obtain ⟨ho, hh, hv3, hv5⟩ := I
  subst hv3 hv5
  have hs := ho.1
  have hn := ho.2.1
  have hxt := ho.2.2.2
  have hlen := hxt.1
  have hz1 := hsc.2.2 (i + 1)
  have hz2 := hsc.2.2 (i + 2)
  show V X kc kn Q 276 [some (.ref b), some (.ref (ad 0)), some (.ref (ad 145)), some (.ref (ad 151)), some (.int (gI i)), none, none, none, none] [] ad 152 _
  refine r_aload_n C dL_law_276 rfl rfl ?_
  refine r_aload_n C dL_law_277 rfl rfl ?_
  refine r_iload C dL_law_278 rfl ?_
  refine r_iconst C dL_law_280 ?_
  refine r_iadd C dL_law_281 ?_
  refine r_sld C hsc dL_law_282 (by omega) ?_
  refine r_aload_n C dL_law_283 rfl rfl ?_
  refine r_cW C hX.2 cwL_93 (w_L_fresh_f1 hX.1 (by omega) ho (by omega) lw_g hnr hz1) dL_law_284 rfl rfl rfl (Nat.le_of_ble_eq_true rfl) ⟨Nat.le_of_ble_eq_true rfl, Nat.le_of_ble_eq_true rfl⟩ hc ?_
  refine r_istore C dL_law_287 (Nat.le_of_ble_eq_true rfl) rfl ?_
  dsimp only [List.set]
  refine r_aload_n C dL_law_289 rfl rfl ?_
  refine r_aload_n C dL_law_290 rfl rfl ?_
  refine r_iload C dL_law_291 rfl ?_
  refine r_iconst C dL_law_293 ?_
  refine r_iadd C dL_law_294 ?_
  refine r_sld C hsc dL_law_295 (by omega) ?_
  refine r_cV C cwL_95 (lw_m (by decide) (c_X5_fresh_f1 (by omega) hnr hz1)) dL_law_296 rfl (by omega) (lw_r5 (by decide)) rfl rfl rfl (Nat.le_of_ble_eq_true rfl) ⟨Nat.le_of_ble_eq_true rfl, Nat.le_of_ble_eq_true rfl⟩ hc ?_
  refine r_istore C dL_law_299 (Nat.le_of_ble_eq_true rfl) rfl ?_
  dsimp only [List.set]
  refine r_aload_n C dL_law_301 rfl rfl ?_
  refine r_cV C cwL_86 (lw_m (by decide) (c_X5_thrown (by omega))) dL_law_302 rfl (by omega) (lw_r5 (by decide)) rfl rfl rfl (Nat.le_of_ble_eq_true rfl) ⟨Nat.le_of_ble_eq_true rfl, Nat.le_of_ble_eq_true rfl⟩ hc ?_
  rw [show (up v 6 1) 6 = 1 from rfl]
  refine r_iload C dL_law_305 rfl ?_
  refine r_icmpE (tgt := 312) C dL_law_307 (by decide) ?_
  refine r_iload C dL_law_312 rfl ?_
  refine r_ifneK (tgt := 329) C dL_law_314 (by decide) (by decide) ?_
  refine r_goto (tgt := 1415) C dL_law_329 (by decide) ?_
  refine V_drop 5 ?_
  dsimp only [List.set]
  refine V_drop 6 ?_
  dsimp only [List.set]
  exact K _ _ _ _ _ _ _ _ _ _ _ ⟨ho, hh, rfl, rfl⟩

set_option maxRecDepth 100000 in
set_option maxHeartbeats 4000000 in
theorem lw_fresh_f2 {X : gT} {rt : Option FieldType} {kc kn : Nat} {Q : State → Prop} {ad : Int → Nat} {σ : Int → va_E} {b Ls : Nat} {xz : Int → Int} {i : Int} {s tx v t p q : Int → Int} {n k len : Int} {u : Int → Int → Int} {g : Nat → Int64} (C : gOk X cL_law 9 RL room_1 rt) (hX : gXk X) (hsc : gSc X b Ls xz) (hi : 0 ≤ i ∧ i + 3 ≤ Ls) (hc : kc + 1 ≤ 628140 ∧ kn + 6 ≤ 7211684) (I : LI s n k u len tx v p) (K : LK X ad σ Q kc kn b i) (hr : 0 ≤ xz (i + 1) ∧ xz (i + 1) < 6) (hm : ¬ 0 < s 1) : V X kc kn Q 276 (LL b ad i) [] ad 152 (LW ad (gty X) σ s n k u len tx v s t p tx q g) := by
  obtain ⟨ho, hh, hv3, hv5⟩ := I
  subst hv3 hv5
  have hs := ho.1
  have hn := ho.2.1
  have hxt := ho.2.2.2
  have hlen := hxt.1
  have hz1 := hsc.2.2 (i + 1)
  have hz2 := hsc.2.2 (i + 2)
  show V X kc kn Q 276 [some (.ref b), some (.ref (ad 0)), some (.ref (ad 145)), some (.ref (ad 151)), some (.int (gI i)), none, none, none, none] [] ad 152 _
  refine r_aload_n C dL_law_276 rfl rfl ?_
  refine r_aload_n C dL_law_277 rfl rfl ?_
  refine r_iload C dL_law_278 rfl ?_
  refine r_iconst C dL_law_280 ?_
  refine r_iadd C dL_law_281 ?_
  refine r_sld C hsc dL_law_282 (by omega) ?_
  refine r_aload_n C dL_law_283 rfl rfl ?_
  refine r_cW C hX.2 cwL_93 (w_L_fresh_f2 hX.1 (by omega) ho (by omega) lw_g hr hm) dL_law_284 rfl rfl rfl (Nat.le_of_ble_eq_true rfl) ⟨Nat.le_of_ble_eq_true rfl, Nat.le_of_ble_eq_true rfl⟩ hc ?_
  refine r_istore C dL_law_287 (Nat.le_of_ble_eq_true rfl) rfl ?_
  dsimp only [List.set]
  refine r_aload_n C dL_law_289 rfl rfl ?_
  refine r_aload_n C dL_law_290 rfl rfl ?_
  refine r_iload C dL_law_291 rfl ?_
  refine r_iconst C dL_law_293 ?_
  refine r_iadd C dL_law_294 ?_
  refine r_sld C hsc dL_law_295 (by omega) ?_
  refine r_cV C cwL_95 (lw_m (by decide) (c_X5_fresh_f2 (by omega) hs hr (by have := hs.box; omega))) dL_law_296 rfl (by omega) (lw_r5 (by decide)) rfl rfl rfl (Nat.le_of_ble_eq_true rfl) ⟨Nat.le_of_ble_eq_true rfl, Nat.le_of_ble_eq_true rfl⟩ hc ?_
  refine r_istore C dL_law_299 (Nat.le_of_ble_eq_true rfl) rfl ?_
  dsimp only [List.set]
  refine r_aload_n C dL_law_301 rfl rfl ?_
  refine r_cV C cwL_86 (lw_m (by decide) (c_X5_thrown (by omega))) dL_law_302 rfl (by omega) (lw_r5 (by decide)) rfl rfl rfl (Nat.le_of_ble_eq_true rfl) ⟨Nat.le_of_ble_eq_true rfl, Nat.le_of_ble_eq_true rfl⟩ hc ?_
  rw [show (up v 6 2) 6 = 2 from rfl]
  refine r_iload C dL_law_305 rfl ?_
  refine r_icmpE (tgt := 312) C dL_law_307 (by decide) ?_
  refine r_iload C dL_law_312 rfl ?_
  refine r_ifneK (tgt := 329) C dL_law_314 (by decide) (by decide) ?_
  refine r_goto (tgt := 1415) C dL_law_329 (by decide) ?_
  refine V_drop 5 ?_
  dsimp only [List.set]
  refine V_drop 6 ?_
  dsimp only [List.set]
  exact K _ _ _ _ _ _ _ _ _ _ _ ⟨ho, hh, rfl, rfl⟩

set_option maxRecDepth 100000 in
set_option maxHeartbeats 4000000 in
theorem lw_door0 {X : gT} {rt : Option FieldType} {kc kn : Nat} {Q : State → Prop} {ad : Int → Nat} {σ : Int → va_E} {b Ls : Nat} {xz : Int → Int} {i : Int} {s tx v t p q : Int → Int} {n k len : Int} {u : Int → Int → Int} {g : Nat → Int64} (C : gOk X cL_law 9 RL room_1 rt) (hX : gXk X) (hsc : gSc X b Ls xz) (hi : 0 ≤ i ∧ i + 3 ≤ Ls) (hc : kc + 1 ≤ 628140 ∧ kn + 6 ≤ 7211684) (I : LI s n k u len tx v p) (K : LK X ad σ Q kc kn b i) (hr : 0 ≤ xz (i + 1) ∧ xz (i + 1) < 6) (hb0 : xz (i + 2) = 0) : V X kc kn Q 332 (LL b ad i) [] ad 152 (LW ad (gty X) σ s n k u len tx v s t p tx q g) := by
  obtain ⟨ho, hh, hv3, hv5⟩ := I
  subst hv3 hv5
  have hs := ho.1
  have hn := ho.2.1
  have hxt := ho.2.2.2
  have hlen := hxt.1
  have hz1 := hsc.2.2 (i + 1)
  have hz2 := hsc.2.2 (i + 2)
  show V X kc kn Q 332 [some (.ref b), some (.ref (ad 0)), some (.ref (ad 145)), some (.ref (ad 151)), some (.int (gI i)), none, none, none, none] [] ad 152 _
  refine r_aload_n C dL_law_332 rfl rfl ?_
  refine r_aload_n C dL_law_333 rfl rfl ?_
  refine r_iload C dL_law_334 rfl ?_
  refine r_iconst C dL_law_336 ?_
  refine r_iadd C dL_law_337 ?_
  refine r_sld C hsc dL_law_338 (by omega) ?_
  refine r_aload_n C dL_law_339 rfl rfl ?_
  refine r_iload C dL_law_340 rfl ?_
  refine r_iconst C dL_law_342 ?_
  refine r_iadd C dL_law_343 ?_
  refine r_sld C hsc dL_law_344 (by omega) ?_
  rw [hb0]
  refine r_ifeq0 (tgt := 352) C dL_law_345 (by decide) ?_
  refine r_iconst C dL_law_352 ?_
  refine r_aload_n C dL_law_353 rfl rfl ?_
  refine r_cW C hX.2 cwL_96 (lw_w (w_L_door hX.1 (by omega) ho (by omega) lw_g (z := 0) hr (Or.inl rfl))) dL_law_354 rfl rfl rfl (Nat.le_of_ble_eq_true rfl) ⟨Nat.le_of_ble_eq_true rfl, Nat.le_of_ble_eq_true rfl⟩ hc ?_
  refine r_istore C dL_law_357 (Nat.le_of_ble_eq_true rfl) rfl ?_
  dsimp only [List.set]
  refine r_aload_n C dL_law_359 rfl rfl ?_
  refine r_aload_n C dL_law_360 rfl rfl ?_
  refine r_iload C dL_law_361 rfl ?_
  refine r_iconst C dL_law_363 ?_
  refine r_iadd C dL_law_364 ?_
  refine r_sld C hsc dL_law_365 (by omega) ?_
  refine r_aload_n C dL_law_366 rfl rfl ?_
  refine r_iload C dL_law_367 rfl ?_
  refine r_iconst C dL_law_369 ?_
  refine r_iadd C dL_law_370 ?_
  refine r_sld C hsc dL_law_371 (by omega) ?_
  rw [hb0]
  refine r_ifeq0 (tgt := 379) C dL_law_372 (by decide) ?_
  refine r_iconst C dL_law_379 ?_
  refine r_cV C cwL_99 (lw_m (by decide) (c_X5_door (b := 0) (by omega) hn hr (Or.inl rfl))) dL_law_380 rfl (by omega) (lw_r5 (by decide)) rfl rfl rfl (Nat.le_of_ble_eq_true rfl) ⟨Nat.le_of_ble_eq_true rfl, Nat.le_of_ble_eq_true rfl⟩ hc ?_
  refine r_istore C dL_law_383 (Nat.le_of_ble_eq_true rfl) rfl ?_
  dsimp only [List.set]
  refine r_aload_n C dL_law_385 rfl rfl ?_
  refine r_cV C cwL_86 (lw_m (by decide) (c_X5_thrown (by omega))) dL_law_386 rfl (by omega) (lw_r5 (by decide)) rfl rfl rfl (Nat.le_of_ble_eq_true rfl) ⟨Nat.le_of_ble_eq_true rfl, Nat.le_of_ble_eq_true rfl⟩ hc ?_
  rw [show (up (up v 6 0) 3 (pshN (v 3))) 6 = 0 from rfl]
  refine r_iload C dL_law_389 rfl ?_
  refine r_icmpE (tgt := 396) C dL_law_391 (by decide) ?_
  refine r_iload C dL_law_396 rfl ?_
  refine r_ifne0 (tgt := 413) C dL_law_398 (by decide) ?_
  refine r_aload_n C dL_law_401 rfl rfl ?_
  refine r_iconst C dL_law_402 ?_
  refine r_lald C dL_law_403 (by omega) lw_g2 (by omega) (by decide) ?_
  show V _ _ _ _ _ _ (.long (gI (rm s (xz (i + 1)) 5)).toInt64 :: _) _ _ _
  refine r_iload C dL_law_404 rfl ?_
  refine r_i2l C dL_law_406 ?_
  refine r_lcmpE C dL_law_407 ?_
  refine r_ifeq0 (tgt := 413) C dL_law_408 (by decide) ?_
  refine r_goto (tgt := 1415) C dL_law_413 (by decide) ?_
  refine V_drop 5 ?_
  dsimp only [List.set]
  refine V_drop 6 ?_
  dsimp only [List.set]
  exact K _ _ _ _ _ _ _ _ _ _ _ ⟨okX_push ho (okS_door hs hr (Or.inl rfl)), hist_push hh hn, rfl, rfl⟩

set_option maxRecDepth 100000 in
set_option maxHeartbeats 4000000 in
theorem lw_door_f10 {X : gT} {rt : Option FieldType} {kc kn : Nat} {Q : State → Prop} {ad : Int → Nat} {σ : Int → va_E} {b Ls : Nat} {xz : Int → Int} {i : Int} {s tx v t p q : Int → Int} {n k len : Int} {u : Int → Int → Int} {g : Nat → Int64} (C : gOk X cL_law 9 RL room_1 rt) (hX : gXk X) (hsc : gSc X b Ls xz) (hi : 0 ≤ i ∧ i + 3 ≤ Ls) (hc : kc + 1 ≤ 628140 ∧ kn + 6 ≤ 7211684) (I : LI s n k u len tx v p) (K : LK X ad σ Q kc kn b i) (hnr : ¬ (0 ≤ xz (i + 1) ∧ xz (i + 1) < 6)) (hb0 : xz (i + 2) = 0) : V X kc kn Q 332 (LL b ad i) [] ad 152 (LW ad (gty X) σ s n k u len tx v s t p tx q g) := by
  obtain ⟨ho, hh, hv3, hv5⟩ := I
  subst hv3 hv5
  have hs := ho.1
  have hn := ho.2.1
  have hxt := ho.2.2.2
  have hlen := hxt.1
  have hz1 := hsc.2.2 (i + 1)
  have hz2 := hsc.2.2 (i + 2)
  show V X kc kn Q 332 [some (.ref b), some (.ref (ad 0)), some (.ref (ad 145)), some (.ref (ad 151)), some (.int (gI i)), none, none, none, none] [] ad 152 _
  refine r_aload_n C dL_law_332 rfl rfl ?_
  refine r_aload_n C dL_law_333 rfl rfl ?_
  refine r_iload C dL_law_334 rfl ?_
  refine r_iconst C dL_law_336 ?_
  refine r_iadd C dL_law_337 ?_
  refine r_sld C hsc dL_law_338 (by omega) ?_
  refine r_aload_n C dL_law_339 rfl rfl ?_
  refine r_iload C dL_law_340 rfl ?_
  refine r_iconst C dL_law_342 ?_
  refine r_iadd C dL_law_343 ?_
  refine r_sld C hsc dL_law_344 (by omega) ?_
  rw [hb0]
  refine r_ifeq0 (tgt := 352) C dL_law_345 (by decide) ?_
  refine r_iconst C dL_law_352 ?_
  refine r_aload_n C dL_law_353 rfl rfl ?_
  refine r_cW C hX.2 cwL_96 (w_L_door_f1 hX.1 (by omega) ho (by omega) lw_g (z := 0) hnr hz1) dL_law_354 rfl rfl rfl (Nat.le_of_ble_eq_true rfl) ⟨Nat.le_of_ble_eq_true rfl, Nat.le_of_ble_eq_true rfl⟩ hc ?_
  refine r_istore C dL_law_357 (Nat.le_of_ble_eq_true rfl) rfl ?_
  dsimp only [List.set]
  refine r_aload_n C dL_law_359 rfl rfl ?_
  refine r_aload_n C dL_law_360 rfl rfl ?_
  refine r_iload C dL_law_361 rfl ?_
  refine r_iconst C dL_law_363 ?_
  refine r_iadd C dL_law_364 ?_
  refine r_sld C hsc dL_law_365 (by omega) ?_
  refine r_aload_n C dL_law_366 rfl rfl ?_
  refine r_iload C dL_law_367 rfl ?_
  refine r_iconst C dL_law_369 ?_
  refine r_iadd C dL_law_370 ?_
  refine r_sld C hsc dL_law_371 (by omega) ?_
  rw [hb0]
  refine r_ifeq0 (tgt := 379) C dL_law_372 (by decide) ?_
  refine r_iconst C dL_law_379 ?_
  refine r_cV C cwL_99 (lw_m (by decide) (c_X5_door_f1 (b := 0) (by omega) hnr hz1)) dL_law_380 rfl (by omega) (lw_r5 (by decide)) rfl rfl rfl (Nat.le_of_ble_eq_true rfl) ⟨Nat.le_of_ble_eq_true rfl, Nat.le_of_ble_eq_true rfl⟩ hc ?_
  refine r_istore C dL_law_383 (Nat.le_of_ble_eq_true rfl) rfl ?_
  dsimp only [List.set]
  refine r_aload_n C dL_law_385 rfl rfl ?_
  refine r_cV C cwL_86 (lw_m (by decide) (c_X5_thrown (by omega))) dL_law_386 rfl (by omega) (lw_r5 (by decide)) rfl rfl rfl (Nat.le_of_ble_eq_true rfl) ⟨Nat.le_of_ble_eq_true rfl, Nat.le_of_ble_eq_true rfl⟩ hc ?_
  rw [show (up v 6 1) 6 = 1 from rfl]
  refine r_iload C dL_law_389 rfl ?_
  refine r_icmpE (tgt := 396) C dL_law_391 (by decide) ?_
  refine r_iload C dL_law_396 rfl ?_
  refine r_ifneK (tgt := 413) C dL_law_398 (by decide) (by decide) ?_
  refine r_goto (tgt := 1415) C dL_law_413 (by decide) ?_
  refine V_drop 5 ?_
  dsimp only [List.set]
  refine V_drop 6 ?_
  dsimp only [List.set]
  exact K _ _ _ _ _ _ _ _ _ _ _ ⟨ho, hh, rfl, rfl⟩

set_option maxRecDepth 100000 in
set_option maxHeartbeats 4000000 in
theorem lw_door1 {X : gT} {rt : Option FieldType} {kc kn : Nat} {Q : State → Prop} {ad : Int → Nat} {σ : Int → va_E} {b Ls : Nat} {xz : Int → Int} {i : Int} {s tx v t p q : Int → Int} {n k len : Int} {u : Int → Int → Int} {g : Nat → Int64} (C : gOk X cL_law 9 RL room_1 rt) (hX : gXk X) (hsc : gSc X b Ls xz) (hi : 0 ≤ i ∧ i + 3 ≤ Ls) (hc : kc + 1 ≤ 628140 ∧ kn + 6 ≤ 7211684) (I : LI s n k u len tx v p) (K : LK X ad σ Q kc kn b i) (hr : 0 ≤ xz (i + 1) ∧ xz (i + 1) < 6) (hb0 : xz (i + 2) ≠ 0) : V X kc kn Q 332 (LL b ad i) [] ad 152 (LW ad (gty X) σ s n k u len tx v s t p tx q g) := by
  obtain ⟨ho, hh, hv3, hv5⟩ := I
  subst hv3 hv5
  have hs := ho.1
  have hn := ho.2.1
  have hxt := ho.2.2.2
  have hlen := hxt.1
  have hz1 := hsc.2.2 (i + 1)
  have hz2 := hsc.2.2 (i + 2)
  show V X kc kn Q 332 [some (.ref b), some (.ref (ad 0)), some (.ref (ad 145)), some (.ref (ad 151)), some (.int (gI i)), none, none, none, none] [] ad 152 _
  refine r_aload_n C dL_law_332 rfl rfl ?_
  refine r_aload_n C dL_law_333 rfl rfl ?_
  refine r_iload C dL_law_334 rfl ?_
  refine r_iconst C dL_law_336 ?_
  refine r_iadd C dL_law_337 ?_
  refine r_sld C hsc dL_law_338 (by omega) ?_
  refine r_aload_n C dL_law_339 rfl rfl ?_
  refine r_iload C dL_law_340 rfl ?_
  refine r_iconst C dL_law_342 ?_
  refine r_iadd C dL_law_343 ?_
  refine r_sld C hsc dL_law_344 (by omega) ?_
  refine r_if_eq (tgt := 352) C dL_law_345 (by decide) (by omega) (fun h => absurd h hb0) (fun h => ?_)
  refine r_iconst C dL_law_348 ?_
  refine r_goto (tgt := 353) C dL_law_349 (by decide) ?_
  refine r_aload_n C dL_law_353 rfl rfl ?_
  refine r_cW C hX.2 cwL_96 (lw_w (w_L_door hX.1 (by omega) ho (by omega) lw_g (z := 1) hr (Or.inr rfl))) dL_law_354 rfl rfl rfl (Nat.le_of_ble_eq_true rfl) ⟨Nat.le_of_ble_eq_true rfl, Nat.le_of_ble_eq_true rfl⟩ hc ?_
  refine r_istore C dL_law_357 (Nat.le_of_ble_eq_true rfl) rfl ?_
  dsimp only [List.set]
  refine r_aload_n C dL_law_359 rfl rfl ?_
  refine r_aload_n C dL_law_360 rfl rfl ?_
  refine r_iload C dL_law_361 rfl ?_
  refine r_iconst C dL_law_363 ?_
  refine r_iadd C dL_law_364 ?_
  refine r_sld C hsc dL_law_365 (by omega) ?_
  refine r_aload_n C dL_law_366 rfl rfl ?_
  refine r_iload C dL_law_367 rfl ?_
  refine r_iconst C dL_law_369 ?_
  refine r_iadd C dL_law_370 ?_
  refine r_sld C hsc dL_law_371 (by omega) ?_
  refine r_if_eq (tgt := 379) C dL_law_372 (by decide) (by omega) (fun h => absurd h hb0) (fun h => ?_)
  refine r_iconst C dL_law_375 ?_
  refine r_goto (tgt := 380) C dL_law_376 (by decide) ?_
  refine r_cV C cwL_99 (lw_m (by decide) (c_X5_door (b := 1) (by omega) hn hr (Or.inr rfl))) dL_law_380 rfl (by omega) (lw_r5 (by decide)) rfl rfl rfl (Nat.le_of_ble_eq_true rfl) ⟨Nat.le_of_ble_eq_true rfl, Nat.le_of_ble_eq_true rfl⟩ hc ?_
  refine r_istore C dL_law_383 (Nat.le_of_ble_eq_true rfl) rfl ?_
  dsimp only [List.set]
  refine r_aload_n C dL_law_385 rfl rfl ?_
  refine r_cV C cwL_86 (lw_m (by decide) (c_X5_thrown (by omega))) dL_law_386 rfl (by omega) (lw_r5 (by decide)) rfl rfl rfl (Nat.le_of_ble_eq_true rfl) ⟨Nat.le_of_ble_eq_true rfl, Nat.le_of_ble_eq_true rfl⟩ hc ?_
  rw [show (up (up v 6 0) 3 (pshN (v 3))) 6 = 0 from rfl]
  refine r_iload C dL_law_389 rfl ?_
  refine r_icmpE (tgt := 396) C dL_law_391 (by decide) ?_
  refine r_iload C dL_law_396 rfl ?_
  refine r_ifne0 (tgt := 413) C dL_law_398 (by decide) ?_
  refine r_aload_n C dL_law_401 rfl rfl ?_
  refine r_iconst C dL_law_402 ?_
  refine r_lald C dL_law_403 (by omega) lw_g2 (by omega) (by decide) ?_
  show V _ _ _ _ _ _ (.long (gI (rm s (xz (i + 1)) 5)).toInt64 :: _) _ _ _
  refine r_iload C dL_law_404 rfl ?_
  refine r_i2l C dL_law_406 ?_
  refine r_lcmpE C dL_law_407 ?_
  refine r_ifeq0 (tgt := 413) C dL_law_408 (by decide) ?_
  refine r_goto (tgt := 1415) C dL_law_413 (by decide) ?_
  refine V_drop 5 ?_
  dsimp only [List.set]
  refine V_drop 6 ?_
  dsimp only [List.set]
  exact K _ _ _ _ _ _ _ _ _ _ _ ⟨okX_push ho (okS_door hs hr (Or.inr rfl)), hist_push hh hn, rfl, rfl⟩

set_option maxRecDepth 100000 in
set_option maxHeartbeats 4000000 in
theorem lw_door_f11 {X : gT} {rt : Option FieldType} {kc kn : Nat} {Q : State → Prop} {ad : Int → Nat} {σ : Int → va_E} {b Ls : Nat} {xz : Int → Int} {i : Int} {s tx v t p q : Int → Int} {n k len : Int} {u : Int → Int → Int} {g : Nat → Int64} (C : gOk X cL_law 9 RL room_1 rt) (hX : gXk X) (hsc : gSc X b Ls xz) (hi : 0 ≤ i ∧ i + 3 ≤ Ls) (hc : kc + 1 ≤ 628140 ∧ kn + 6 ≤ 7211684) (I : LI s n k u len tx v p) (K : LK X ad σ Q kc kn b i) (hnr : ¬ (0 ≤ xz (i + 1) ∧ xz (i + 1) < 6)) (hb0 : xz (i + 2) ≠ 0) : V X kc kn Q 332 (LL b ad i) [] ad 152 (LW ad (gty X) σ s n k u len tx v s t p tx q g) := by
  obtain ⟨ho, hh, hv3, hv5⟩ := I
  subst hv3 hv5
  have hs := ho.1
  have hn := ho.2.1
  have hxt := ho.2.2.2
  have hlen := hxt.1
  have hz1 := hsc.2.2 (i + 1)
  have hz2 := hsc.2.2 (i + 2)
  show V X kc kn Q 332 [some (.ref b), some (.ref (ad 0)), some (.ref (ad 145)), some (.ref (ad 151)), some (.int (gI i)), none, none, none, none] [] ad 152 _
  refine r_aload_n C dL_law_332 rfl rfl ?_
  refine r_aload_n C dL_law_333 rfl rfl ?_
  refine r_iload C dL_law_334 rfl ?_
  refine r_iconst C dL_law_336 ?_
  refine r_iadd C dL_law_337 ?_
  refine r_sld C hsc dL_law_338 (by omega) ?_
  refine r_aload_n C dL_law_339 rfl rfl ?_
  refine r_iload C dL_law_340 rfl ?_
  refine r_iconst C dL_law_342 ?_
  refine r_iadd C dL_law_343 ?_
  refine r_sld C hsc dL_law_344 (by omega) ?_
  refine r_if_eq (tgt := 352) C dL_law_345 (by decide) (by omega) (fun h => absurd h hb0) (fun h => ?_)
  refine r_iconst C dL_law_348 ?_
  refine r_goto (tgt := 353) C dL_law_349 (by decide) ?_
  refine r_aload_n C dL_law_353 rfl rfl ?_
  refine r_cW C hX.2 cwL_96 (w_L_door_f1 hX.1 (by omega) ho (by omega) lw_g (z := 1) hnr hz1) dL_law_354 rfl rfl rfl (Nat.le_of_ble_eq_true rfl) ⟨Nat.le_of_ble_eq_true rfl, Nat.le_of_ble_eq_true rfl⟩ hc ?_
  refine r_istore C dL_law_357 (Nat.le_of_ble_eq_true rfl) rfl ?_
  dsimp only [List.set]
  refine r_aload_n C dL_law_359 rfl rfl ?_
  refine r_aload_n C dL_law_360 rfl rfl ?_
  refine r_iload C dL_law_361 rfl ?_
  refine r_iconst C dL_law_363 ?_
  refine r_iadd C dL_law_364 ?_
  refine r_sld C hsc dL_law_365 (by omega) ?_
  refine r_aload_n C dL_law_366 rfl rfl ?_
  refine r_iload C dL_law_367 rfl ?_
  refine r_iconst C dL_law_369 ?_
  refine r_iadd C dL_law_370 ?_
  refine r_sld C hsc dL_law_371 (by omega) ?_
  refine r_if_eq (tgt := 379) C dL_law_372 (by decide) (by omega) (fun h => absurd h hb0) (fun h => ?_)
  refine r_iconst C dL_law_375 ?_
  refine r_goto (tgt := 380) C dL_law_376 (by decide) ?_
  refine r_cV C cwL_99 (lw_m (by decide) (c_X5_door_f1 (b := 1) (by omega) hnr hz1)) dL_law_380 rfl (by omega) (lw_r5 (by decide)) rfl rfl rfl (Nat.le_of_ble_eq_true rfl) ⟨Nat.le_of_ble_eq_true rfl, Nat.le_of_ble_eq_true rfl⟩ hc ?_
  refine r_istore C dL_law_383 (Nat.le_of_ble_eq_true rfl) rfl ?_
  dsimp only [List.set]
  refine r_aload_n C dL_law_385 rfl rfl ?_
  refine r_cV C cwL_86 (lw_m (by decide) (c_X5_thrown (by omega))) dL_law_386 rfl (by omega) (lw_r5 (by decide)) rfl rfl rfl (Nat.le_of_ble_eq_true rfl) ⟨Nat.le_of_ble_eq_true rfl, Nat.le_of_ble_eq_true rfl⟩ hc ?_
  rw [show (up v 6 1) 6 = 1 from rfl]
  refine r_iload C dL_law_389 rfl ?_
  refine r_icmpE (tgt := 396) C dL_law_391 (by decide) ?_
  refine r_iload C dL_law_396 rfl ?_
  refine r_ifneK (tgt := 413) C dL_law_398 (by decide) (by decide) ?_
  refine r_goto (tgt := 1415) C dL_law_413 (by decide) ?_
  refine V_drop 5 ?_
  dsimp only [List.set]
  refine V_drop 6 ?_
  dsimp only [List.set]
  exact K _ _ _ _ _ _ _ _ _ _ _ ⟨ho, hh, rfl, rfl⟩

set_option maxRecDepth 100000 in
set_option maxHeartbeats 4000000 in
theorem lw_shield0 {X : gT} {rt : Option FieldType} {kc kn : Nat} {Q : State → Prop} {ad : Int → Nat} {σ : Int → va_E} {b Ls : Nat} {xz : Int → Int} {i : Int} {s tx v t p q : Int → Int} {n k len : Int} {u : Int → Int → Int} {g : Nat → Int64} (C : gOk X cL_law 9 RL room_1 rt) (hX : gXk X) (hsc : gSc X b Ls xz) (hi : 0 ≤ i ∧ i + 3 ≤ Ls) (hc : kc + 1 ≤ 628140 ∧ kn + 6 ≤ 7211684) (I : LI s n k u len tx v p) (K : LK X ad σ Q kc kn b i) (hr : 0 ≤ xz (i + 1) ∧ xz (i + 1) < 6) (hb0 : xz (i + 2) = 0) : V X kc kn Q 416 (LL b ad i) [] ad 152 (LW ad (gty X) σ s n k u len tx v s t p tx q g) := by
  obtain ⟨ho, hh, hv3, hv5⟩ := I
  subst hv3 hv5
  have hs := ho.1
  have hn := ho.2.1
  have hxt := ho.2.2.2
  have hlen := hxt.1
  have hz1 := hsc.2.2 (i + 1)
  have hz2 := hsc.2.2 (i + 2)
  show V X kc kn Q 416 [some (.ref b), some (.ref (ad 0)), some (.ref (ad 145)), some (.ref (ad 151)), some (.int (gI i)), none, none, none, none] [] ad 152 _
  refine r_aload_n C dL_law_416 rfl rfl ?_
  refine r_aload_n C dL_law_417 rfl rfl ?_
  refine r_iload C dL_law_418 rfl ?_
  refine r_iconst C dL_law_420 ?_
  refine r_iadd C dL_law_421 ?_
  refine r_sld C hsc dL_law_422 (by omega) ?_
  refine r_aload_n C dL_law_423 rfl rfl ?_
  refine r_iload C dL_law_424 rfl ?_
  refine r_iconst C dL_law_426 ?_
  refine r_iadd C dL_law_427 ?_
  refine r_sld C hsc dL_law_428 (by omega) ?_
  rw [hb0]
  refine r_ifeq0 (tgt := 436) C dL_law_429 (by decide) ?_
  refine r_iconst C dL_law_436 ?_
  refine r_aload_n C dL_law_437 rfl rfl ?_
  refine r_cW C hX.2 cwL_100 (lw_w (w_L_shield hX.1 (by omega) ho (by omega) lw_g (z := 0) hr (Or.inl rfl))) dL_law_438 rfl rfl rfl (Nat.le_of_ble_eq_true rfl) ⟨Nat.le_of_ble_eq_true rfl, Nat.le_of_ble_eq_true rfl⟩ hc ?_
  refine r_istore C dL_law_441 (Nat.le_of_ble_eq_true rfl) rfl ?_
  dsimp only [List.set]
  refine r_aload_n C dL_law_443 rfl rfl ?_
  refine r_aload_n C dL_law_444 rfl rfl ?_
  refine r_iload C dL_law_445 rfl ?_
  refine r_iconst C dL_law_447 ?_
  refine r_iadd C dL_law_448 ?_
  refine r_sld C hsc dL_law_449 (by omega) ?_
  refine r_aload_n C dL_law_450 rfl rfl ?_
  refine r_iload C dL_law_451 rfl ?_
  refine r_iconst C dL_law_453 ?_
  refine r_iadd C dL_law_454 ?_
  refine r_sld C hsc dL_law_455 (by omega) ?_
  rw [hb0]
  refine r_ifeq0 (tgt := 463) C dL_law_456 (by decide) ?_
  refine r_iconst C dL_law_463 ?_
  refine r_cV C cwL_102 (lw_m (by decide) (c_X5_shield (b := 0) (by omega) hn hr (Or.inl rfl))) dL_law_464 rfl (by omega) (lw_r5 (by decide)) rfl rfl rfl (Nat.le_of_ble_eq_true rfl) ⟨Nat.le_of_ble_eq_true rfl, Nat.le_of_ble_eq_true rfl⟩ hc ?_
  refine r_istore C dL_law_467 (Nat.le_of_ble_eq_true rfl) rfl ?_
  dsimp only [List.set]
  refine r_aload_n C dL_law_469 rfl rfl ?_
  refine r_cV C cwL_86 (lw_m (by decide) (c_X5_thrown (by omega))) dL_law_470 rfl (by omega) (lw_r5 (by decide)) rfl rfl rfl (Nat.le_of_ble_eq_true rfl) ⟨Nat.le_of_ble_eq_true rfl, Nat.le_of_ble_eq_true rfl⟩ hc ?_
  rw [show (up (up v 6 0) 3 (pshN (v 3))) 6 = 0 from rfl]
  refine r_iload C dL_law_473 rfl ?_
  refine r_icmpE (tgt := 480) C dL_law_475 (by decide) ?_
  refine r_iload C dL_law_480 rfl ?_
  refine r_ifne0 (tgt := 497) C dL_law_482 (by decide) ?_
  refine r_aload_n C dL_law_485 rfl rfl ?_
  refine r_iconst C dL_law_486 ?_
  refine r_lald C dL_law_487 (by omega) lw_g2 (by omega) (by decide) ?_
  show V _ _ _ _ _ _ (.long (gI (rm s (xz (i + 1)) 3)).toInt64 :: _) _ _ _
  refine r_iload C dL_law_488 rfl ?_
  refine r_i2l C dL_law_490 ?_
  refine r_lcmpE C dL_law_491 ?_
  refine r_ifeq0 (tgt := 497) C dL_law_492 (by decide) ?_
  refine r_goto (tgt := 1415) C dL_law_497 (by decide) ?_
  refine V_drop 5 ?_
  dsimp only [List.set]
  refine V_drop 6 ?_
  dsimp only [List.set]
  exact K _ _ _ _ _ _ _ _ _ _ _ ⟨okX_push ho (okS_shield hs hr (Or.inl rfl)), hist_push hh hn, rfl, rfl⟩

set_option maxRecDepth 100000 in
set_option maxHeartbeats 4000000 in
theorem lw_shield_f10 {X : gT} {rt : Option FieldType} {kc kn : Nat} {Q : State → Prop} {ad : Int → Nat} {σ : Int → va_E} {b Ls : Nat} {xz : Int → Int} {i : Int} {s tx v t p q : Int → Int} {n k len : Int} {u : Int → Int → Int} {g : Nat → Int64} (C : gOk X cL_law 9 RL room_1 rt) (hX : gXk X) (hsc : gSc X b Ls xz) (hi : 0 ≤ i ∧ i + 3 ≤ Ls) (hc : kc + 1 ≤ 628140 ∧ kn + 6 ≤ 7211684) (I : LI s n k u len tx v p) (K : LK X ad σ Q kc kn b i) (hnr : ¬ (0 ≤ xz (i + 1) ∧ xz (i + 1) < 6)) (hb0 : xz (i + 2) = 0) : V X kc kn Q 416 (LL b ad i) [] ad 152 (LW ad (gty X) σ s n k u len tx v s t p tx q g) := by
  obtain ⟨ho, hh, hv3, hv5⟩ := I
  subst hv3 hv5
  have hs := ho.1
  have hn := ho.2.1
  have hxt := ho.2.2.2
  have hlen := hxt.1
  have hz1 := hsc.2.2 (i + 1)
  have hz2 := hsc.2.2 (i + 2)
  show V X kc kn Q 416 [some (.ref b), some (.ref (ad 0)), some (.ref (ad 145)), some (.ref (ad 151)), some (.int (gI i)), none, none, none, none] [] ad 152 _
  refine r_aload_n C dL_law_416 rfl rfl ?_
  refine r_aload_n C dL_law_417 rfl rfl ?_
  refine r_iload C dL_law_418 rfl ?_
  refine r_iconst C dL_law_420 ?_
  refine r_iadd C dL_law_421 ?_
  refine r_sld C hsc dL_law_422 (by omega) ?_
  refine r_aload_n C dL_law_423 rfl rfl ?_
  refine r_iload C dL_law_424 rfl ?_
  refine r_iconst C dL_law_426 ?_
  refine r_iadd C dL_law_427 ?_
  refine r_sld C hsc dL_law_428 (by omega) ?_
  rw [hb0]
  refine r_ifeq0 (tgt := 436) C dL_law_429 (by decide) ?_
  refine r_iconst C dL_law_436 ?_
  refine r_aload_n C dL_law_437 rfl rfl ?_
  refine r_cW C hX.2 cwL_100 (w_L_shield_f1 hX.1 (by omega) ho (by omega) lw_g (z := 0) hnr hz1) dL_law_438 rfl rfl rfl (Nat.le_of_ble_eq_true rfl) ⟨Nat.le_of_ble_eq_true rfl, Nat.le_of_ble_eq_true rfl⟩ hc ?_
  refine r_istore C dL_law_441 (Nat.le_of_ble_eq_true rfl) rfl ?_
  dsimp only [List.set]
  refine r_aload_n C dL_law_443 rfl rfl ?_
  refine r_aload_n C dL_law_444 rfl rfl ?_
  refine r_iload C dL_law_445 rfl ?_
  refine r_iconst C dL_law_447 ?_
  refine r_iadd C dL_law_448 ?_
  refine r_sld C hsc dL_law_449 (by omega) ?_
  refine r_aload_n C dL_law_450 rfl rfl ?_
  refine r_iload C dL_law_451 rfl ?_
  refine r_iconst C dL_law_453 ?_
  refine r_iadd C dL_law_454 ?_
  refine r_sld C hsc dL_law_455 (by omega) ?_
  rw [hb0]
  refine r_ifeq0 (tgt := 463) C dL_law_456 (by decide) ?_
  refine r_iconst C dL_law_463 ?_
  refine r_cV C cwL_102 (lw_m (by decide) (c_X5_shield_f1 (b := 0) (by omega) hnr hz1)) dL_law_464 rfl (by omega) (lw_r5 (by decide)) rfl rfl rfl (Nat.le_of_ble_eq_true rfl) ⟨Nat.le_of_ble_eq_true rfl, Nat.le_of_ble_eq_true rfl⟩ hc ?_
  refine r_istore C dL_law_467 (Nat.le_of_ble_eq_true rfl) rfl ?_
  dsimp only [List.set]
  refine r_aload_n C dL_law_469 rfl rfl ?_
  refine r_cV C cwL_86 (lw_m (by decide) (c_X5_thrown (by omega))) dL_law_470 rfl (by omega) (lw_r5 (by decide)) rfl rfl rfl (Nat.le_of_ble_eq_true rfl) ⟨Nat.le_of_ble_eq_true rfl, Nat.le_of_ble_eq_true rfl⟩ hc ?_
  rw [show (up v 6 1) 6 = 1 from rfl]
  refine r_iload C dL_law_473 rfl ?_
  refine r_icmpE (tgt := 480) C dL_law_475 (by decide) ?_
  refine r_iload C dL_law_480 rfl ?_
  refine r_ifneK (tgt := 497) C dL_law_482 (by decide) (by decide) ?_
  refine r_goto (tgt := 1415) C dL_law_497 (by decide) ?_
  refine V_drop 5 ?_
  dsimp only [List.set]
  refine V_drop 6 ?_
  dsimp only [List.set]
  exact K _ _ _ _ _ _ _ _ _ _ _ ⟨ho, hh, rfl, rfl⟩

set_option maxRecDepth 100000 in
set_option maxHeartbeats 4000000 in
theorem lw_shield1 {X : gT} {rt : Option FieldType} {kc kn : Nat} {Q : State → Prop} {ad : Int → Nat} {σ : Int → va_E} {b Ls : Nat} {xz : Int → Int} {i : Int} {s tx v t p q : Int → Int} {n k len : Int} {u : Int → Int → Int} {g : Nat → Int64} (C : gOk X cL_law 9 RL room_1 rt) (hX : gXk X) (hsc : gSc X b Ls xz) (hi : 0 ≤ i ∧ i + 3 ≤ Ls) (hc : kc + 1 ≤ 628140 ∧ kn + 6 ≤ 7211684) (I : LI s n k u len tx v p) (K : LK X ad σ Q kc kn b i) (hr : 0 ≤ xz (i + 1) ∧ xz (i + 1) < 6) (hb0 : xz (i + 2) ≠ 0) : V X kc kn Q 416 (LL b ad i) [] ad 152 (LW ad (gty X) σ s n k u len tx v s t p tx q g) := by
  obtain ⟨ho, hh, hv3, hv5⟩ := I
  subst hv3 hv5
  have hs := ho.1
  have hn := ho.2.1
  have hxt := ho.2.2.2
  have hlen := hxt.1
  have hz1 := hsc.2.2 (i + 1)
  have hz2 := hsc.2.2 (i + 2)
  show V X kc kn Q 416 [some (.ref b), some (.ref (ad 0)), some (.ref (ad 145)), some (.ref (ad 151)), some (.int (gI i)), none, none, none, none] [] ad 152 _
  refine r_aload_n C dL_law_416 rfl rfl ?_
  refine r_aload_n C dL_law_417 rfl rfl ?_
  refine r_iload C dL_law_418 rfl ?_
  refine r_iconst C dL_law_420 ?_
  refine r_iadd C dL_law_421 ?_
  refine r_sld C hsc dL_law_422 (by omega) ?_
  refine r_aload_n C dL_law_423 rfl rfl ?_
  refine r_iload C dL_law_424 rfl ?_
  refine r_iconst C dL_law_426 ?_
  refine r_iadd C dL_law_427 ?_
  refine r_sld C hsc dL_law_428 (by omega) ?_
  refine r_if_eq (tgt := 436) C dL_law_429 (by decide) (by omega) (fun h => absurd h hb0) (fun h => ?_)
  refine r_iconst C dL_law_432 ?_
  refine r_goto (tgt := 437) C dL_law_433 (by decide) ?_
  refine r_aload_n C dL_law_437 rfl rfl ?_
  refine r_cW C hX.2 cwL_100 (lw_w (w_L_shield hX.1 (by omega) ho (by omega) lw_g (z := 1) hr (Or.inr rfl))) dL_law_438 rfl rfl rfl (Nat.le_of_ble_eq_true rfl) ⟨Nat.le_of_ble_eq_true rfl, Nat.le_of_ble_eq_true rfl⟩ hc ?_
  refine r_istore C dL_law_441 (Nat.le_of_ble_eq_true rfl) rfl ?_
  dsimp only [List.set]
  refine r_aload_n C dL_law_443 rfl rfl ?_
  refine r_aload_n C dL_law_444 rfl rfl ?_
  refine r_iload C dL_law_445 rfl ?_
  refine r_iconst C dL_law_447 ?_
  refine r_iadd C dL_law_448 ?_
  refine r_sld C hsc dL_law_449 (by omega) ?_
  refine r_aload_n C dL_law_450 rfl rfl ?_
  refine r_iload C dL_law_451 rfl ?_
  refine r_iconst C dL_law_453 ?_
  refine r_iadd C dL_law_454 ?_
  refine r_sld C hsc dL_law_455 (by omega) ?_
  refine r_if_eq (tgt := 463) C dL_law_456 (by decide) (by omega) (fun h => absurd h hb0) (fun h => ?_)
  refine r_iconst C dL_law_459 ?_
  refine r_goto (tgt := 464) C dL_law_460 (by decide) ?_
  refine r_cV C cwL_102 (lw_m (by decide) (c_X5_shield (b := 1) (by omega) hn hr (Or.inr rfl))) dL_law_464 rfl (by omega) (lw_r5 (by decide)) rfl rfl rfl (Nat.le_of_ble_eq_true rfl) ⟨Nat.le_of_ble_eq_true rfl, Nat.le_of_ble_eq_true rfl⟩ hc ?_
  refine r_istore C dL_law_467 (Nat.le_of_ble_eq_true rfl) rfl ?_
  dsimp only [List.set]
  refine r_aload_n C dL_law_469 rfl rfl ?_
  refine r_cV C cwL_86 (lw_m (by decide) (c_X5_thrown (by omega))) dL_law_470 rfl (by omega) (lw_r5 (by decide)) rfl rfl rfl (Nat.le_of_ble_eq_true rfl) ⟨Nat.le_of_ble_eq_true rfl, Nat.le_of_ble_eq_true rfl⟩ hc ?_
  rw [show (up (up v 6 0) 3 (pshN (v 3))) 6 = 0 from rfl]
  refine r_iload C dL_law_473 rfl ?_
  refine r_icmpE (tgt := 480) C dL_law_475 (by decide) ?_
  refine r_iload C dL_law_480 rfl ?_
  refine r_ifne0 (tgt := 497) C dL_law_482 (by decide) ?_
  refine r_aload_n C dL_law_485 rfl rfl ?_
  refine r_iconst C dL_law_486 ?_
  refine r_lald C dL_law_487 (by omega) lw_g2 (by omega) (by decide) ?_
  show V _ _ _ _ _ _ (.long (gI (rm s (xz (i + 1)) 3)).toInt64 :: _) _ _ _
  refine r_iload C dL_law_488 rfl ?_
  refine r_i2l C dL_law_490 ?_
  refine r_lcmpE C dL_law_491 ?_
  refine r_ifeq0 (tgt := 497) C dL_law_492 (by decide) ?_
  refine r_goto (tgt := 1415) C dL_law_497 (by decide) ?_
  refine V_drop 5 ?_
  dsimp only [List.set]
  refine V_drop 6 ?_
  dsimp only [List.set]
  exact K _ _ _ _ _ _ _ _ _ _ _ ⟨okX_push ho (okS_shield hs hr (Or.inr rfl)), hist_push hh hn, rfl, rfl⟩

set_option maxRecDepth 100000 in
set_option maxHeartbeats 4000000 in
theorem lw_shield_f11 {X : gT} {rt : Option FieldType} {kc kn : Nat} {Q : State → Prop} {ad : Int → Nat} {σ : Int → va_E} {b Ls : Nat} {xz : Int → Int} {i : Int} {s tx v t p q : Int → Int} {n k len : Int} {u : Int → Int → Int} {g : Nat → Int64} (C : gOk X cL_law 9 RL room_1 rt) (hX : gXk X) (hsc : gSc X b Ls xz) (hi : 0 ≤ i ∧ i + 3 ≤ Ls) (hc : kc + 1 ≤ 628140 ∧ kn + 6 ≤ 7211684) (I : LI s n k u len tx v p) (K : LK X ad σ Q kc kn b i) (hnr : ¬ (0 ≤ xz (i + 1) ∧ xz (i + 1) < 6)) (hb0 : xz (i + 2) ≠ 0) : V X kc kn Q 416 (LL b ad i) [] ad 152 (LW ad (gty X) σ s n k u len tx v s t p tx q g) := by
  obtain ⟨ho, hh, hv3, hv5⟩ := I
  subst hv3 hv5
  have hs := ho.1
  have hn := ho.2.1
  have hxt := ho.2.2.2
  have hlen := hxt.1
  have hz1 := hsc.2.2 (i + 1)
  have hz2 := hsc.2.2 (i + 2)
  show V X kc kn Q 416 [some (.ref b), some (.ref (ad 0)), some (.ref (ad 145)), some (.ref (ad 151)), some (.int (gI i)), none, none, none, none] [] ad 152 _
  refine r_aload_n C dL_law_416 rfl rfl ?_
  refine r_aload_n C dL_law_417 rfl rfl ?_
  refine r_iload C dL_law_418 rfl ?_
  refine r_iconst C dL_law_420 ?_
  refine r_iadd C dL_law_421 ?_
  refine r_sld C hsc dL_law_422 (by omega) ?_
  refine r_aload_n C dL_law_423 rfl rfl ?_
  refine r_iload C dL_law_424 rfl ?_
  refine r_iconst C dL_law_426 ?_
  refine r_iadd C dL_law_427 ?_
  refine r_sld C hsc dL_law_428 (by omega) ?_
  refine r_if_eq (tgt := 436) C dL_law_429 (by decide) (by omega) (fun h => absurd h hb0) (fun h => ?_)
  refine r_iconst C dL_law_432 ?_
  refine r_goto (tgt := 437) C dL_law_433 (by decide) ?_
  refine r_aload_n C dL_law_437 rfl rfl ?_
  refine r_cW C hX.2 cwL_100 (w_L_shield_f1 hX.1 (by omega) ho (by omega) lw_g (z := 1) hnr hz1) dL_law_438 rfl rfl rfl (Nat.le_of_ble_eq_true rfl) ⟨Nat.le_of_ble_eq_true rfl, Nat.le_of_ble_eq_true rfl⟩ hc ?_
  refine r_istore C dL_law_441 (Nat.le_of_ble_eq_true rfl) rfl ?_
  dsimp only [List.set]
  refine r_aload_n C dL_law_443 rfl rfl ?_
  refine r_aload_n C dL_law_444 rfl rfl ?_
  refine r_iload C dL_law_445 rfl ?_
  refine r_iconst C dL_law_447 ?_
  refine r_iadd C dL_law_448 ?_
  refine r_sld C hsc dL_law_449 (by omega) ?_
  refine r_aload_n C dL_law_450 rfl rfl ?_
  refine r_iload C dL_law_451 rfl ?_
  refine r_iconst C dL_law_453 ?_
  refine r_iadd C dL_law_454 ?_
  refine r_sld C hsc dL_law_455 (by omega) ?_
  refine r_if_eq (tgt := 463) C dL_law_456 (by decide) (by omega) (fun h => absurd h hb0) (fun h => ?_)
  refine r_iconst C dL_law_459 ?_
  refine r_goto (tgt := 464) C dL_law_460 (by decide) ?_
  refine r_cV C cwL_102 (lw_m (by decide) (c_X5_shield_f1 (b := 1) (by omega) hnr hz1)) dL_law_464 rfl (by omega) (lw_r5 (by decide)) rfl rfl rfl (Nat.le_of_ble_eq_true rfl) ⟨Nat.le_of_ble_eq_true rfl, Nat.le_of_ble_eq_true rfl⟩ hc ?_
  refine r_istore C dL_law_467 (Nat.le_of_ble_eq_true rfl) rfl ?_
  dsimp only [List.set]
  refine r_aload_n C dL_law_469 rfl rfl ?_
  refine r_cV C cwL_86 (lw_m (by decide) (c_X5_thrown (by omega))) dL_law_470 rfl (by omega) (lw_r5 (by decide)) rfl rfl rfl (Nat.le_of_ble_eq_true rfl) ⟨Nat.le_of_ble_eq_true rfl, Nat.le_of_ble_eq_true rfl⟩ hc ?_
  rw [show (up v 6 1) 6 = 1 from rfl]
  refine r_iload C dL_law_473 rfl ?_
  refine r_icmpE (tgt := 480) C dL_law_475 (by decide) ?_
  refine r_iload C dL_law_480 rfl ?_
  refine r_ifneK (tgt := 497) C dL_law_482 (by decide) (by decide) ?_
  refine r_goto (tgt := 1415) C dL_law_497 (by decide) ?_
  refine V_drop 5 ?_
  dsimp only [List.set]
  refine V_drop 6 ?_
  dsimp only [List.set]
  exact K _ _ _ _ _ _ _ _ _ _ _ ⟨ho, hh, rfl, rfl⟩

