/-! the reference: its digest -/

/-- what the digest leaves in the array of trials -/
def tDs (s : Int → Int) : Nat → Int → (Int → Int) → (Int → Int)
  | 0, _, t => t
  | n + 1, r, t => tDs s n (r + 1) (svT s r (stT s r))

set_option maxRecDepth 100000 in
set_option maxHeartbeats 4000000 in
theorem c_X5_digest {l : Launch} {D : va_G} {ty : Nat → ClassId} {ad : Int → Nat} {N : Int} {σ : Int → va_E} {m : Int} {v s t p x q : Int → Int} (hm : 0 ≤ m ∧ m + 6 ≤ N) (hs : okS s) (hxt : okT (v 5) x) : gM0 l yX5_digest cX5_digest 5 (some .long) 6 137 [.ref (ad m)] D ty ad N (mput ad ty σ m (v) (s) (t) (p) (x) (q)) (some (.long (digX s (v 3) (v 5) x))) (mput ad ty σ m (up v 6 0) (s) (ffT s (tDs s 6 0 t)) (p) (x) (q)) := by
  refine gMet_of [some (.ref (ad m)), none, none, none, none] (by decide +kernel) rfl (Nat.le_of_ble_eq_true rfl) rfl ?_
  intro X hl hD hty C hini
  subst hl hD hty
  have hsh := shOk_n (share_ok hs)
  have hlen := hxt.1
  refine r_aload_n C dX5_digest_0 rfl rfl ?_
  refine r_iconst C dX5_digest_1 ?_
  refine mm_put (j := 6) C flX5_25 dX5_digest_2 hm (by decide) rfl rfl rfl rfl ?_
  try rw [up_up]
  refine r_ldc2 C dX5_digest_5 kkX5_180 ?_
  refine r_lstore_n C dX5_digest_8 rfl (Nat.le_of_ble_eq_true rfl) rfl ?_
  dsimp only [List.set]
  refine r_iconst C dX5_digest_9 ?_
  refine r_istore_n C dX5_digest_10 rfl (Nat.le_of_ble_eq_true rfl) rfl ?_
  dsimp only [List.set]
  have lp : ∀ (j : Nat) (i : Int) (g : Int64), (0 ≤ i) → (i + j = 12) → (mixK (cntX s (v 3)) j i g = mixK (cntX s (v 3)) 12 0 3499) → V X 0 0 (gQ X (gD (some (.long (digX s (v 3) (v 5) x))) ad N (mput ad (gty X) σ m (up v 6 0) (s) (ffT s (tDs s 6 0 t)) (p) (x) (q))) 0 0) 11 [some (.ref (ad m)), some (.long g), none, some (.int (gI i)), none] [] ad N (mput ad (gty X) σ m (up v 6 0) (s) (t) (p) (x) (q)) := by
    intro j
    induction j with
    | zero =>
      intro i g hp hpn e
      have hg : g = mixK (cntX s (v 3)) 12 0 3499 := e
      subst hg
      refine r_iload_n C dX5_digest_11 rfl rfl ?_
      refine r_bipush C dX5_digest_12 (by decide) ?_
      refine r_icmp_ge (tgt := 36) C dX5_digest_14 (by decide) (by omega) (by omega) (fun h14 => ?_) (fun h14 => ?_)
      · refine r_iconst C dX5_digest_36 ?_
        refine r_istore_n C dX5_digest_37 rfl (Nat.le_of_ble_eq_true rfl) rfl ?_
        dsimp only [List.set]
        have lq : ∀ (j : Nat) (r : Int) (g : Int64) (tt : Int → Int), (0 ≤ r) → (r + j = 6) → (mixRs s j r g = mixRs s 6 0 (mixK (cntX s (v 3)) 12 0 3499)) → (tDs s j r tt = tDs s 6 0 t) → V X 0 0 (gQ X (gD (some (.long (digX s (v 3) (v 5) x))) ad N (mput ad (gty X) σ m (up v 6 0) (s) (ffT s (tDs s 6 0 t)) (p) (x) (q))) 0 0) 38 [some (.ref (ad m)), some (.long g), none, some (.int (gI r)), none] [] ad N (mput ad (gty X) σ m (up v 6 0) (s) (tt) (p) (x) (q)) := by
          intro j
          induction j with
          | zero =>
            intro r g tt hp hpn e e2
            have hg : g = mixRs s 6 0 (mixK (cntX s (v 3)) 12 0 3499) := e
            subst hg
            have htt : tt = tDs s 6 0 t := e2
            subst htt
            refine r_iload_n C dX5_digest_38 rfl rfl ?_
            refine r_bipush C dX5_digest_39 (by decide) ?_
            refine r_icmp_ge (tgt := 180) C dX5_digest_41 (by decide) (by omega) (by omega) (fun h41 => ?_) (fun h41 => ?_)
            · refine r_ldc2 C dX5_digest_180 kkX5_182 ?_
              refine r_ldc2 C dX5_digest_183 kkX5_182 ?_
              refine r_lload_n C dX5_digest_186 rfl rfl ?_
              refine r_lmul C dX5_digest_187 ?_
              refine r_aload_n C dX5_digest_188 rfl rfl ?_
              refine r_cV C cwX5_161 (c_X5_firstForgotten hm hs) dX5_digest_189 rfl (by omega) mput_0 rfl rfl rfl (Nat.le_of_ble_eq_true rfl) ⟨Nat.le_of_ble_eq_true rfl, Nat.le_of_ble_eq_true rfl⟩ ⟨Nat.le_of_ble_eq_true rfl, Nat.le_of_ble_eq_true rfl⟩ ?_
              refine r_i2l C dX5_digest_192 ?_
              refine r_ladd C dX5_digest_193 ?_
              refine r_lmul C dX5_digest_194 ?_
              refine r_aload_n C dX5_digest_195 rfl rfl ?_
              refine r_cV C cwX5_170 (c_X5_neediest hm hs) dX5_digest_196 rfl (by omega) mput_0 rfl rfl rfl (Nat.le_of_ble_eq_true rfl) ⟨Nat.le_of_ble_eq_true rfl, Nat.le_of_ble_eq_true rfl⟩ ⟨Nat.le_of_ble_eq_true rfl, Nat.le_of_ble_eq_true rfl⟩ ?_
              refine r_i2l C dX5_digest_199 ?_
              refine r_ladd C dX5_digest_200 ?_
              refine r_lstore_n C dX5_digest_201 rfl (Nat.le_of_ble_eq_true rfl) rfl ?_
              dsimp only [List.set]
              refine r_ldc2 C dX5_digest_202 kkX5_182 ?_
              refine r_ldc2 C dX5_digest_205 kkX5_182 ?_
              refine r_lload_n C dX5_digest_208 rfl rfl ?_
              refine r_lmul C dX5_digest_209 ?_
              refine r_aload_n C dX5_digest_210 rfl rfl ?_
              refine r_cV C cwX5_176 (c_X5_share hm hs) dX5_digest_211 rfl (by omega) mput_0 rfl rfl rfl (Nat.le_of_ble_eq_true rfl) ⟨Nat.le_of_ble_eq_true rfl, Nat.le_of_ble_eq_true rfl⟩ ⟨Nat.le_of_ble_eq_true rfl, Nat.le_of_ble_eq_true rfl⟩ ?_
              refine r_cS C cwX5_184 (c_Jxe99ae_doubleToLongBits_ccdee hsh.1) dX5_digest_214 rfl rfl rfl (Nat.le_of_ble_eq_true rfl) ⟨Nat.le_of_ble_eq_true rfl, Nat.le_of_ble_eq_true rfl⟩ ⟨Nat.le_of_ble_eq_true rfl, Nat.le_of_ble_eq_true rfl⟩ ?_
              rw [hsh.2.1]
              refine r_ladd C dX5_digest_217 ?_
              refine r_lmul C dX5_digest_218 ?_
              refine r_aload_n C dX5_digest_219 rfl rfl ?_
              refine mm_get C flX5_113 dX5_digest_220 hm rfl ?_
              try simp only [up_ap, Int.reduceEq, reduceIte]
              refine r_i2l C dX5_digest_223 ?_
              refine r_ladd C dX5_digest_224 ?_
              refine r_lstore_n C dX5_digest_225 rfl (Nat.le_of_ble_eq_true rfl) rfl ?_
              dsimp only [List.set]
              refine r_iconst C dX5_digest_226 ?_
              refine r_istore_n C dX5_digest_227 rfl (Nat.le_of_ble_eq_true rfl) rfl ?_
              dsimp only [List.set]
              have lt : ∀ (j : Nat) (i : Int) (g : Int64), (0 ≤ i) → (i + j = v 5) → (mixK (cAt (v 5) x) j i g = digX s (v 3) (v 5) x) → V X 0 0 (gQ X (gD (some (.long (digX s (v 3) (v 5) x))) ad N (mput ad (gty X) σ m (up v 6 0) (s) (ffT s (tDs s 6 0 t)) (p) (x) (q))) 0 0) 228 [some (.ref (ad m)), some (.long g), none, some (.int (gI i)), none] [] ad N (mput ad (gty X) σ m (up v 6 0) (s) (ffT s (tDs s 6 0 t)) (p) (x) (q)) := by
                intro j
                induction j with
                | zero =>
                  intro i g hp hpn e
                  refine r_iload_n C dX5_digest_228 rfl rfl ?_
                  refine r_aload_n C dX5_digest_229 rfl rfl ?_
                  refine mm_get C flX5_113 dX5_digest_230 hm rfl ?_
                  try simp only [up_ap, Int.reduceEq, reduceIte]
                  refine r_icmp_ge (tgt := 256) C dX5_digest_233 (by decide) (by omega) (by omega) (fun h233 => ?_) (fun h233 => ?_)
                  · refine r_lload_n C dX5_digest_256 rfl rfl ?_
                    exact r_lretD C dX5_digest_257 e rfl
                  · exact absurd h233 (by omega)
                | succ j ih =>
                  intro i g hp hpn e
                  refine r_iload_n C dX5_digest_228 rfl rfl ?_
                  refine r_aload_n C dX5_digest_229 rfl rfl ?_
                  refine mm_get C flX5_113 dX5_digest_230 hm rfl ?_
                  try simp only [up_ap, Int.reduceEq, reduceIte]
                  refine r_icmp_ge (tgt := 256) C dX5_digest_233 (by decide) (by omega) (by omega) (fun h233 => ?_) (fun h233 => ?_)
                  · exact absurd h233 (by omega)
                  · refine r_ldc2 C dX5_digest_236 kkX5_182 ?_
                    refine r_lload_n C dX5_digest_239 rfl rfl ?_
                    refine r_lmul C dX5_digest_240 ?_
                    refine r_aload_n C dX5_digest_241 rfl rfl ?_
                    refine mm_get C flX5_19 dX5_digest_242 hm rfl ?_
                    refine r_iload_n C dX5_digest_245 rfl rfl ?_
                    refine r_iald C dX5_digest_246 (by omega) mput_4 (by omega) (by omega) ?_
                    rw [cAt_x (len := v 5) (x := x) (p := i) (by omega)]
                    refine r_i2l C dX5_digest_247 ?_
                    refine r_ladd C dX5_digest_248 ?_
                    refine r_lstore_n C dX5_digest_249 rfl (Nat.le_of_ble_eq_true rfl) rfl ?_
                    dsimp only [List.set]
                    refine r_iinc C dX5_digest_250 rfl rfl ?_
                    dsimp only [List.set]
                    refine r_goto (tgt := 228) C dX5_digest_253 (by decide) ?_
                    exact ih _ _ (by omega) (by omega) e
              exact lt (v 5).toNat 0 _ (by omega) (by omega) rfl
            · exact absurd h41 (by omega)
          | succ j ih =>
            intro r g tt hp hpn e e2
            have hqm := (hs.rm (r := r) (by omega)).many
            refine r_iload_n C dX5_digest_38 rfl rfl ?_
            refine r_bipush C dX5_digest_39 (by decide) ?_
            refine r_icmp_ge (tgt := 180) C dX5_digest_41 (by decide) (by omega) (by omega) (fun h41 => ?_) (fun h41 => ?_)
            · exact absurd h41 (by omega)
            · refine r_iconst C dX5_digest_44 ?_
              refine r_istore C dX5_digest_45 (Nat.le_of_ble_eq_true rfl) rfl ?_
              dsimp only [List.set]
              have lr : ∀ (i3 : Nat) (k : Int) (h : Int64), (0 ≤ k) → (k + i3 = 8) → (mixK (numR (rm s r)) i3 k h = mixK (numR (rm s r)) 8 0 g) → V X 0 0 (gQ X (gD (some (.long (digX s (v 3) (v 5) x))) ad N (mput ad (gty X) σ m (up v 6 0) (s) (ffT s (tDs s 6 0 t)) (p) (x) (q))) 0 0) 47 [some (.ref (ad m)), some (.long h), none, some (.int (gI r)), some (.int (gI k))] [] ad N (mput ad (gty X) σ m (up v 6 0) (s) (tt) (p) (x) (q)) := by
                intro i3
                induction i3 with
                | zero =>
                  intro k h hk hkn e3
                  have hg : h = mixK (numR (rm s r)) 8 0 g := e3
                  subst hg
                  refine r_iload C dX5_digest_47 rfl ?_
                  refine r_bipush C dX5_digest_49 (by decide) ?_
                  refine r_icmp_ge (tgt := 75) C dX5_digest_51 (by decide) (by omega) (by omega) (fun h51 => ?_) (fun h51 => ?_)
                  · refine r_iconst C dX5_digest_75 ?_
                    refine r_istore C dX5_digest_76 (Nat.le_of_ble_eq_true rfl) rfl ?_
                    dsimp only [List.set]
                    have ls : ∀ (i4 : Nat) (k : Int) (h : Int64), (0 ≤ k) → (k + i4 = rm s r 6) → (mix2 (rm s r) i4 k h = mix2 (rm s r) (rm s r 6).toNat 0 (mixK (numR (rm s r)) 8 0 g)) → V X 0 0 (gQ X (gD (some (.long (digX s (v 3) (v 5) x))) ad N (mput ad (gty X) σ m (up v 6 0) (s) (ffT s (tDs s 6 0 t)) (p) (x) (q))) 0 0) 78 [some (.ref (ad m)), some (.long h), none, some (.int (gI r)), some (.int (gI k))] [] ad N (mput ad (gty X) σ m (up v 6 0) (s) (tt) (p) (x) (q)) := by
                      intro i4
                      induction i4 with
                      | zero =>
                        intro k h hk hkn e4
                        have hg : h = mix2 (rm s r) (rm s r 6).toNat 0 (mixK (numR (rm s r)) 8 0 g) := e4
                        subst hg
                        refine r_iload C dX5_digest_78 rfl ?_
                        refine r_aload_n C dX5_digest_80 rfl rfl ?_
                        refine mm_get C flX5_7 dX5_digest_81 hm rfl ?_
                        refine r_iload_n C dX5_digest_84 rfl rfl ?_
                        refine r_bipush C dX5_digest_85 (by decide) ?_
                        refine r_cS C cwX5_33 (c_X5_of (by omega) mput_1 (by omega) (by omega)) dX5_digest_87 rfl rfl rfl (Nat.le_of_ble_eq_true rfl) ⟨Nat.le_of_ble_eq_true rfl, Nat.le_of_ble_eq_true rfl⟩ ⟨Nat.le_of_ble_eq_true rfl, Nat.le_of_ble_eq_true rfl⟩ ?_
                        refine r_icmp_ge (tgt := 139) C dX5_digest_90 (by decide) (by omega) (by omega) (fun h90 => ?_) (fun h90 => ?_)
                        · refine r_ldc2 C dX5_digest_139 kkX5_182 ?_
                          refine r_ldc2 C dX5_digest_142 kkX5_182 ?_
                          refine r_ldc2 C dX5_digest_145 kkX5_182 ?_
                          refine r_lload_n C dX5_digest_148 rfl rfl ?_
                          refine r_lmul C dX5_digest_149 ?_
                          refine r_aload_n C dX5_digest_150 rfl rfl ?_
                          refine r_iload_n C dX5_digest_151 rfl rfl ?_
                          refine r_cV C cwX5_158 (c_X5_stays hm hs (by omega)) dX5_digest_152 rfl (by omega) mput_0 rfl rfl rfl (Nat.le_of_ble_eq_true rfl) ⟨Nat.le_of_ble_eq_true rfl, Nat.le_of_ble_eq_true rfl⟩ ⟨Nat.le_of_ble_eq_true rfl, Nat.le_of_ble_eq_true rfl⟩ ?_
                          refine r_i2l C dX5_digest_155 ?_
                          refine r_ladd C dX5_digest_156 ?_
                          refine r_lmul C dX5_digest_157 ?_
                          refine r_aload_n C dX5_digest_158 rfl rfl ?_
                          refine r_iload_n C dX5_digest_159 rfl rfl ?_
                          refine r_cV C cwX5_167 (c_X5_fewest hm hs (by omega)) dX5_digest_160 rfl (by omega) mput_0 rfl rfl rfl (Nat.le_of_ble_eq_true rfl) ⟨Nat.le_of_ble_eq_true rfl, Nat.le_of_ble_eq_true rfl⟩ ⟨Nat.le_of_ble_eq_true rfl, Nat.le_of_ble_eq_true rfl⟩ ?_
                          refine r_i2l C dX5_digest_163 ?_
                          refine r_ladd C dX5_digest_164 ?_
                          refine r_lmul C dX5_digest_165 ?_
                          refine r_aload_n C dX5_digest_166 rfl rfl ?_
                          refine r_iload_n C dX5_digest_167 rfl rfl ?_
                          refine r_cV C cwX5_173 (c_X5_saved hm hs (by omega)) dX5_digest_168 rfl (by omega) mput_0 rfl rfl rfl (Nat.le_of_ble_eq_true rfl) ⟨Nat.le_of_ble_eq_true rfl, Nat.le_of_ble_eq_true rfl⟩ ⟨Nat.le_of_ble_eq_true rfl, Nat.le_of_ble_eq_true rfl⟩ ?_
                          refine r_i2l C dX5_digest_171 ?_
                          refine r_ladd C dX5_digest_172 ?_
                          refine r_lstore_n C dX5_digest_173 rfl (Nat.le_of_ble_eq_true rfl) rfl ?_
                          dsimp only [List.set]
                          refine r_iinc C dX5_digest_174 rfl rfl ?_
                          dsimp only [List.set]
                          refine r_goto (tgt := 38) C dX5_digest_177 (by decide) ?_
                          refine V_drop 4 ?_
                          dsimp only [List.set]
                          exact ih _ _ _ (by omega) (by omega) e e2
                        · exact absurd h90 (by omega)
                      | succ i4 ih4 =>
                        intro k h hk hkn e4
                        refine r_iload C dX5_digest_78 rfl ?_
                        refine r_aload_n C dX5_digest_80 rfl rfl ?_
                        refine mm_get C flX5_7 dX5_digest_81 hm rfl ?_
                        refine r_iload_n C dX5_digest_84 rfl rfl ?_
                        refine r_bipush C dX5_digest_85 (by decide) ?_
                        refine r_cS C cwX5_33 (c_X5_of (by omega) mput_1 (by omega) (by omega)) dX5_digest_87 rfl rfl rfl (Nat.le_of_ble_eq_true rfl) ⟨Nat.le_of_ble_eq_true rfl, Nat.le_of_ble_eq_true rfl⟩ ⟨Nat.le_of_ble_eq_true rfl, Nat.le_of_ble_eq_true rfl⟩ ?_
                        refine r_icmp_ge (tgt := 139) C dX5_digest_90 (by decide) (by omega) (by omega) (fun h90 => ?_) (fun h90 => ?_)
                        · exact absurd h90 (by omega)
                        · refine r_ldc2 C dX5_digest_93 kkX5_182 ?_
                          refine r_ldc2 C dX5_digest_96 kkX5_182 ?_
                          refine r_lload_n C dX5_digest_99 rfl rfl ?_
                          refine r_lmul C dX5_digest_100 ?_
                          refine r_aload_n C dX5_digest_101 rfl rfl ?_
                          refine mm_get C flX5_7 dX5_digest_102 hm rfl ?_
                          refine r_iload_n C dX5_digest_105 rfl rfl ?_
                          refine r_bipush C dX5_digest_106 (by decide) ?_
                          refine r_iload C dX5_digest_108 rfl ?_
                          refine r_iadd C dX5_digest_110 ?_
                          refine r_cS C cwX5_33 (c_X5_of (by omega) mput_1 (by omega) (by omega)) dX5_digest_111 rfl rfl rfl (Nat.le_of_ble_eq_true rfl) ⟨Nat.le_of_ble_eq_true rfl, Nat.le_of_ble_eq_true rfl⟩ ⟨Nat.le_of_ble_eq_true rfl, Nat.le_of_ble_eq_true rfl⟩ ?_
                          refine r_i2l C dX5_digest_114 ?_
                          refine r_ladd C dX5_digest_115 ?_
                          refine r_lmul C dX5_digest_116 ?_
                          refine r_aload_n C dX5_digest_117 rfl rfl ?_
                          refine mm_get C flX5_7 dX5_digest_118 hm rfl ?_
                          refine r_iload_n C dX5_digest_121 rfl rfl ?_
                          refine r_bipush C dX5_digest_122 (by decide) ?_
                          refine r_iload C dX5_digest_124 rfl ?_
                          refine r_iadd C dX5_digest_126 ?_
                          refine r_cS C cwX5_33 (c_X5_of (by omega) mput_1 (by omega) (by omega)) dX5_digest_127 rfl rfl rfl (Nat.le_of_ble_eq_true rfl) ⟨Nat.le_of_ble_eq_true rfl, Nat.le_of_ble_eq_true rfl⟩ ⟨Nat.le_of_ble_eq_true rfl, Nat.le_of_ble_eq_true rfl⟩ ?_
                          refine r_i2l C dX5_digest_130 ?_
                          refine r_ladd C dX5_digest_131 ?_
                          refine r_lstore_n C dX5_digest_132 rfl (Nat.le_of_ble_eq_true rfl) rfl ?_
                          dsimp only [List.set]
                          refine r_iinc C dX5_digest_133 rfl rfl ?_
                          dsimp only [List.set]
                          refine r_goto (tgt := 78) C dX5_digest_136 (by decide) ?_
                          exact ih4 _ _ (by omega) (by omega) e4
                    exact ls (rm s r 6).toNat 0 _ (by omega) (by omega) rfl
                  · exact absurd h51 (by omega)
                | succ i3 ih3 =>
                  intro k h hk hkn e3
                  refine r_iload C dX5_digest_47 rfl ?_
                  refine r_bipush C dX5_digest_49 (by decide) ?_
                  refine r_icmp_ge (tgt := 75) C dX5_digest_51 (by decide) (by omega) (by omega) (fun h51 => ?_) (fun h51 => ?_)
                  · exact absurd h51 (by omega)
                  · refine r_ldc2 C dX5_digest_54 kkX5_182 ?_
                    refine r_lload_n C dX5_digest_57 rfl rfl ?_
                    refine r_lmul C dX5_digest_58 ?_
                    refine r_aload_n C dX5_digest_59 rfl rfl ?_
                    refine r_iload_n C dX5_digest_60 rfl rfl ?_
                    refine r_iload C dX5_digest_61 rfl ?_
                    refine r_cV C cwX5_147 (c_X5_ofRoom hm hs (by omega) (by omega)) dX5_digest_63 rfl (by omega) mput_0 rfl rfl rfl (Nat.le_of_ble_eq_true rfl) ⟨Nat.le_of_ble_eq_true rfl, Nat.le_of_ble_eq_true rfl⟩ ⟨Nat.le_of_ble_eq_true rfl, Nat.le_of_ble_eq_true rfl⟩ ?_
                    refine r_i2l C dX5_digest_66 ?_
                    refine r_ladd C dX5_digest_67 ?_
                    refine r_lstore_n C dX5_digest_68 rfl (Nat.le_of_ble_eq_true rfl) rfl ?_
                    dsimp only [List.set]
                    refine r_iinc C dX5_digest_69 rfl rfl ?_
                    dsimp only [List.set]
                    refine r_goto (tgt := 47) C dX5_digest_72 (by decide) ?_
                    exact ih3 _ _ (by omega) (by omega) e3
              exact lr 8 0 g (by omega) (by omega) rfl
        exact lq 6 0 _ t (by omega) (by omega) rfl rfl
      · exact absurd h14 (by omega)
    | succ j ih =>
      intro i g hp hpn e
      refine r_iload_n C dX5_digest_11 rfl rfl ?_
      refine r_bipush C dX5_digest_12 (by decide) ?_
      refine r_icmp_ge (tgt := 36) C dX5_digest_14 (by decide) (by omega) (by omega) (fun h14 => ?_) (fun h14 => ?_)
      · exact absurd h14 (by omega)
      · refine r_ldc2 C dX5_digest_17 kkX5_182 ?_
        refine r_lload_n C dX5_digest_20 rfl rfl ?_
        refine r_lmul C dX5_digest_21 ?_
        refine r_aload_n C dX5_digest_22 rfl rfl ?_
        refine r_iload_n C dX5_digest_23 rfl rfl ?_
        refine r_cV C cwX5_155 (c_X5_counted hm hs (by omega)) dX5_digest_24 rfl (by omega) mput_0 rfl rfl rfl (Nat.le_of_ble_eq_true rfl) ⟨Nat.le_of_ble_eq_true rfl, Nat.le_of_ble_eq_true rfl⟩ ⟨Nat.le_of_ble_eq_true rfl, Nat.le_of_ble_eq_true rfl⟩ ?_
        rw [show up v 6 0 3 = v 3 from rfl]
        refine r_i2l C dX5_digest_27 ?_
        refine r_ladd C dX5_digest_28 ?_
        refine r_lstore_n C dX5_digest_29 rfl (Nat.le_of_ble_eq_true rfl) rfl ?_
        dsimp only [List.set]
        refine r_iinc C dX5_digest_30 rfl rfl ?_
        dsimp only [List.set]
        refine r_goto (tgt := 11) C dX5_digest_33 (by decide) ?_
        exact ih _ _ (by omega) (by omega) e
  exact lp 12 0 3499 (by omega) (by omega) rfl

