/-! the law, case by case -/
set_option maxRecDepth 100000 in
set_option maxHeartbeats 4000000 in
theorem lw_clearBuffer {X : gT} {rt : Option FieldType} {kc kn : Nat} {Q : State → Prop} {ad : Int → Nat} {σ : Int → va_E} {b Ls : Nat} {xz : Int → Int} {i : Int} {s tx v t p q : Int → Int} {n k len : Int} {u : Int → Int → Int} {g : Nat → Int64} (C : gOk X cL_law 9 RL room_1 rt) (hX : gXk X) (hsc : gSc X b Ls xz) (hi : 0 ≤ i ∧ i + 3 ≤ Ls) (hc : kc + 1 ≤ 628140 ∧ kn + 6 ≤ 7211684) (I : LI s n k u len tx v p) (K : LK X ad σ Q kc kn b i)  : V X kc kn Q 860 (LL b ad i) [] ad 152 (LW ad (gty X) σ s n k u len tx v s t p tx q g) := by
  obtain ⟨ho, hh, hv3, hv5⟩ := I
  subst hv3 hv5
  have hs := ho.1
  have hn := ho.2.1
  have hxt := ho.2.2.2
  have hlen := hxt.1
  have hz1 := hsc.2.2 (i + 1)
  have hz2 := hsc.2.2 (i + 2)
  show V X kc kn Q 860 [some (.ref b), some (.ref (ad 0)), some (.ref (ad 145)), some (.ref (ad 151)), some (.int (gI i)), none, none, none, none] [] ad 152 _
  refine r_aload_n C dL_law_860 rfl rfl ?_
  refine r_cV C cwL_121 (c_X4_clearBuffer (by omega) ho) dL_law_861 rfl (by omega) xput_0 rfl rfl rfl (Nat.le_of_ble_eq_true rfl) ⟨Nat.le_of_ble_eq_true rfl, Nat.le_of_ble_eq_true rfl⟩ ⟨Nat.le_trans (Nat.le_add_right _ _) hc.1, Nat.le_trans (Nat.le_add_right _ _) hc.2⟩ ?_
  refine r_aload_n C dL_law_864 rfl rfl ?_
  refine r_cV C cwL_124 (lw_m (by decide) (c_X5_clearBuffer (by omega))) dL_law_865 rfl (by omega) (lw_r5 (by decide)) rfl rfl rfl (Nat.le_of_ble_eq_true rfl) ⟨Nat.le_of_ble_eq_true rfl, Nat.le_of_ble_eq_true rfl⟩ ⟨Nat.le_trans (Nat.le_add_right _ _) hc.1, Nat.le_trans (Nat.le_add_right _ _) hc.2⟩ ?_
  refine r_icmpE (tgt := 1415) C dL_law_868 (by decide) ?_
  refine r_wid (k2 := kc + 1) (n2 := kn + 6) (by omega) (by omega) ?_
  exact K _ _ _ _ _ _ _ _ _ _ _ ⟨okX_len0 ho, hh, rfl, rfl⟩

set_option maxRecDepth 100000 in
set_option maxHeartbeats 4000000 in
theorem lw_firstError {X : gT} {rt : Option FieldType} {kc kn : Nat} {Q : State → Prop} {ad : Int → Nat} {σ : Int → va_E} {b Ls : Nat} {xz : Int → Int} {i : Int} {s tx v t p q : Int → Int} {n k len : Int} {u : Int → Int → Int} {g : Nat → Int64} (C : gOk X cL_law 9 RL room_1 rt) (hX : gXk X) (hsc : gSc X b Ls xz) (hi : 0 ≤ i ∧ i + 3 ≤ Ls) (hc : kc + 1 ≤ 628140 ∧ kn + 6 ≤ 7211684) (I : LI s n k u len tx v p) (K : LK X ad σ Q kc kn b i)  : V X kc kn Q 873 (LL b ad i) [] ad 152 (LW ad (gty X) σ s n k u len tx v s t p tx q g) := by
  obtain ⟨ho, hh, hv3, hv5⟩ := I
  subst hv3 hv5
  have hs := ho.1
  have hn := ho.2.1
  have hxt := ho.2.2.2
  have hlen := hxt.1
  have hz1 := hsc.2.2 (i + 1)
  have hz2 := hsc.2.2 (i + 2)
  show V X kc kn Q 873 [some (.ref b), some (.ref (ad 0)), some (.ref (ad 145)), some (.ref (ad 151)), some (.int (gI i)), none, none, none, none] [] ad 152 _
  refine r_aload_n C dL_law_873 rfl rfl ?_
  refine r_cV C cwL_125 (c_X4_firstError (by omega) ho) dL_law_874 rfl (by omega) xput_0 rfl rfl rfl (Nat.le_of_ble_eq_true rfl) ⟨Nat.le_of_ble_eq_true rfl, Nat.le_of_ble_eq_true rfl⟩ ⟨Nat.le_trans (Nat.le_add_right _ _) hc.1, Nat.le_trans (Nat.le_add_right _ _) hc.2⟩ ?_
  refine r_aload_n C dL_law_877 rfl rfl ?_
  refine r_cV C cwL_128 (lw_m (by decide) (c_X5_firstError (by omega) hxt)) dL_law_878 rfl (by omega) (lw_r5 (by decide)) rfl rfl rfl (Nat.le_of_ble_eq_true rfl) ⟨Nat.le_of_ble_eq_true rfl, Nat.le_of_ble_eq_true rfl⟩ ⟨Nat.le_trans (Nat.le_add_right _ _) hc.1, Nat.le_trans (Nat.le_add_right _ _) hc.2⟩ ?_
  refine r_icmpE (tgt := 1415) C dL_law_881 (by decide) ?_
  refine r_wid (k2 := kc + 1) (n2 := kn + 6) (by omega) (by omega) ?_
  exact K _ _ _ _ _ _ _ _ _ _ _ ⟨ho, hh, pR_fr (j := 3) (by decide) 61 1 _ _, pR_fr (j := 5) (by decide) 61 1 _ _⟩

set_option maxRecDepth 100000 in
set_option maxHeartbeats 4000000 in
theorem lw_play {X : gT} {rt : Option FieldType} {kc kn : Nat} {Q : State → Prop} {ad : Int → Nat} {σ : Int → va_E} {b Ls : Nat} {xz : Int → Int} {i : Int} {s tx v t p q : Int → Int} {n k len : Int} {u : Int → Int → Int} {g : Nat → Int64} (C : gOk X cL_law 9 RL room_1 rt) (hX : gXk X) (hsc : gSc X b Ls xz) (hi : 0 ≤ i ∧ i + 3 ≤ Ls) (hc : kc + 1 ≤ 628140 ∧ kn + 6 ≤ 7211684) (I : LI s n k u len tx v p) (K : LK X ad σ Q kc kn b i) (hcm : cmpl (v 5) tx) : V X kc kn Q 886 (LL b ad i) [] ad 152 (LW ad (gty X) σ s n k u len tx v s t p tx q g) := by
  obtain ⟨ho, hh, hv3, hv5⟩ := I
  subst hv3 hv5
  have hs := ho.1
  have hn := ho.2.1
  have hxt := ho.2.2.2
  have hlen := hxt.1
  have hz1 := hsc.2.2 (i + 1)
  have hz2 := hsc.2.2 (i + 2)
  have hvt := vT_cmpl hxt hcm
  show V X kc kn Q 886 [some (.ref b), some (.ref (ad 0)), some (.ref (ad 145)), some (.ref (ad 151)), some (.int (gI i)), none, none, none, none] [] ad 152 _
  refine r_aload_n C dL_law_886 rfl rfl ?_
  refine r_aload_n C dL_law_887 rfl rfl ?_
  refine r_cW C hX.2 cwL_129 (lw_w (w_L_play hX.1 (by omega) ho (by omega) lw_g hcm hvt)) dL_law_888 rfl rfl rfl (Nat.le_of_ble_eq_true rfl) ⟨Nat.le_of_ble_eq_true rfl, Nat.le_of_ble_eq_true rfl⟩ hc ?_
  refine r_istore C dL_law_891 (Nat.le_of_ble_eq_true rfl) rfl ?_
  dsimp only [List.set]
  refine r_aload_n C dL_law_893 rfl rfl ?_
  refine r_cV C cwL_132 (lw_m (by decide) (c_X5_play (by omega) hs hn hxt hcm)) dL_law_894 rfl (by omega) (lw_r5 (by decide)) rfl rfl rfl (Nat.le_of_ble_eq_true rfl) ⟨Nat.le_of_ble_eq_true rfl, Nat.le_of_ble_eq_true rfl⟩ hc ?_
  refine r_istore C dL_law_897 (Nat.le_of_ble_eq_true rfl) rfl ?_
  dsimp only [List.set]
  refine r_aload_n C dL_law_899 rfl rfl ?_
  refine r_cV C cwL_86 (lw_m (by decide) (c_X5_thrown (by omega))) dL_law_900 rfl (by omega) (lw_r5 (by decide)) rfl rfl rfl (Nat.le_of_ble_eq_true rfl) ⟨Nat.le_of_ble_eq_true rfl, Nat.le_of_ble_eq_true rfl⟩ hc ?_
  rw [show (up (up (pR (v 5) tx 61 1 (up (up (up (up v 6 0) 7 0) 10 0) 8 0) q).2.1 3 (pshN (v 3))) 5 0) 6 = 0 from pR_fr (j := 6) (by decide) 61 1 _ _]
  refine r_iload C dL_law_903 rfl ?_
  refine r_icmpE (tgt := 910) C dL_law_905 (by decide) ?_
  refine r_iload C dL_law_910 rfl ?_
  refine r_ifne0 (tgt := 927) C dL_law_912 (by decide) ?_
  refine r_aload_n C dL_law_915 rfl rfl ?_
  refine r_iconst C dL_law_916 ?_
  refine r_lald C dL_law_917 (by omega) lw_g2 (by omega) (by decide) ?_
  show V _ _ _ _ _ _ (.long (gI ((plN (v 5) tx (v 5).toNat 0 0 s).2)).toInt64 :: _) _ _ _
  refine r_iload C dL_law_918 rfl ?_
  refine r_i2l C dL_law_920 ?_
  refine r_lcmpE C dL_law_921 ?_
  refine r_ifeq0 (tgt := 927) C dL_law_922 (by decide) ?_
  refine r_goto (tgt := 1415) C dL_law_927 (by decide) ?_
  refine V_drop 5 ?_
  dsimp only [List.set]
  refine V_drop 6 ?_
  dsimp only [List.set]
  exact K _ _ _ _ _ _ _ _ _ _ _ ⟨okX_len0 (okX_push ho (okS_plN hvt _ _ _ _ (by omega) (by omega) hs)), hist_push hh hn, rfl, rfl⟩

set_option maxRecDepth 100000 in
set_option maxHeartbeats 4000000 in
theorem lw_play_f1 {X : gT} {rt : Option FieldType} {kc kn : Nat} {Q : State → Prop} {ad : Int → Nat} {σ : Int → va_E} {b Ls : Nat} {xz : Int → Int} {i : Int} {s tx v t p q : Int → Int} {n k len : Int} {u : Int → Int → Int} {g : Nat → Int64} (C : gOk X cL_law 9 RL room_1 rt) (hX : gXk X) (hsc : gSc X b Ls xz) (hi : 0 ≤ i ∧ i + 3 ≤ Ls) (hc : kc + 1 ≤ 628140 ∧ kn + 6 ≤ 7211684) (I : LI s n k u len tx v p) (K : LK X ad σ Q kc kn b i) (hcm : ¬ cmpl (v 5) tx) : V X kc kn Q 886 (LL b ad i) [] ad 152 (LW ad (gty X) σ s n k u len tx v s t p tx q g) := by
  obtain ⟨ho, hh, hv3, hv5⟩ := I
  subst hv3 hv5
  have hs := ho.1
  have hn := ho.2.1
  have hxt := ho.2.2.2
  have hlen := hxt.1
  have hz1 := hsc.2.2 (i + 1)
  have hz2 := hsc.2.2 (i + 2)
  show V X kc kn Q 886 [some (.ref b), some (.ref (ad 0)), some (.ref (ad 145)), some (.ref (ad 151)), some (.int (gI i)), none, none, none, none] [] ad 152 _
  refine r_aload_n C dL_law_886 rfl rfl ?_
  refine r_aload_n C dL_law_887 rfl rfl ?_
  refine r_cW C hX.2 cwL_129 (w_L_play_f1 hX.1 (by omega) ho (by omega) lw_g hcm) dL_law_888 rfl rfl rfl (Nat.le_of_ble_eq_true rfl) ⟨Nat.le_of_ble_eq_true rfl, Nat.le_of_ble_eq_true rfl⟩ hc ?_
  refine r_istore C dL_law_891 (Nat.le_of_ble_eq_true rfl) rfl ?_
  dsimp only [List.set]
  refine r_aload_n C dL_law_893 rfl rfl ?_
  refine r_cV C cwL_132 (lw_m (by decide) (c_X5_play_f1 (by omega) hxt hcm)) dL_law_894 rfl (by omega) (lw_r5 (by decide)) rfl rfl rfl (Nat.le_of_ble_eq_true rfl) ⟨Nat.le_of_ble_eq_true rfl, Nat.le_of_ble_eq_true rfl⟩ hc ?_
  refine r_istore C dL_law_897 (Nat.le_of_ble_eq_true rfl) rfl ?_
  dsimp only [List.set]
  refine r_aload_n C dL_law_899 rfl rfl ?_
  refine r_cV C cwL_86 (lw_m (by decide) (c_X5_thrown (by omega))) dL_law_900 rfl (by omega) (lw_r5 (by decide)) rfl rfl rfl (Nat.le_of_ble_eq_true rfl) ⟨Nat.le_of_ble_eq_true rfl, Nat.le_of_ble_eq_true rfl⟩ hc ?_
  rw [show (up (pR (v 5) tx 61 1 (up (up (up (up v 6 0) 7 0) 10 0) 8 0) q).2.1 6 1) 6 = 1 from rfl]
  refine r_iload C dL_law_903 rfl ?_
  refine r_icmpE (tgt := 910) C dL_law_905 (by decide) ?_
  refine r_iload C dL_law_910 rfl ?_
  refine r_ifneK (tgt := 927) C dL_law_912 (by decide) (by decide) ?_
  refine r_goto (tgt := 1415) C dL_law_927 (by decide) ?_
  refine V_drop 5 ?_
  dsimp only [List.set]
  refine V_drop 6 ?_
  dsimp only [List.set]
  exact K _ _ _ _ _ _ _ _ _ _ _ ⟨ho, hh, pR_fr (j := 3) (by decide) 61 1 _ _, pR_fr (j := 5) (by decide) 61 1 _ _⟩

set_option maxRecDepth 100000 in
set_option maxHeartbeats 4000000 in
theorem lw_undo {X : gT} {rt : Option FieldType} {kc kn : Nat} {Q : State → Prop} {ad : Int → Nat} {σ : Int → va_E} {b Ls : Nat} {xz : Int → Int} {i : Int} {s tx v t p q : Int → Int} {n k len : Int} {u : Int → Int → Int} {g : Nat → Int64} (C : gOk X cL_law 9 RL room_1 rt) (hX : gXk X) (hsc : gSc X b Ls xz) (hi : 0 ≤ i ∧ i + 3 ≤ Ls) (hc : kc + 1 ≤ 628140 ∧ kn + 6 ≤ 7211684) (I : LI s n k u len tx v p) (K : LK X ad σ Q kc kn b i) (hn1 : 1 ≤ v 3) : V X kc kn Q 930 (LL b ad i) [] ad 152 (LW ad (gty X) σ s n k u len tx v s t p tx q g) := by
  obtain ⟨ho, hh, hv3, hv5⟩ := I
  subst hv3 hv5
  have hs := ho.1
  have hn := ho.2.1
  have hxt := ho.2.2.2
  have hlen := hxt.1
  have hz1 := hsc.2.2 (i + 1)
  have hz2 := hsc.2.2 (i + 2)
  show V X kc kn Q 930 [some (.ref b), some (.ref (ad 0)), some (.ref (ad 145)), some (.ref (ad 151)), some (.int (gI i)), none, none, none, none] [] ad 152 _
  refine r_aload_n C dL_law_930 rfl rfl ?_
  refine r_aload_n C dL_law_931 rfl rfl ?_
  refine r_cW C hX.2 cwL_133 (lw_w (w_L_undo hX.1 (by omega) ho (by omega) lw_g hn1)) dL_law_932 rfl rfl rfl (Nat.le_of_ble_eq_true rfl) ⟨Nat.le_of_ble_eq_true rfl, Nat.le_of_ble_eq_true rfl⟩ hc ?_
  refine r_istore C dL_law_935 (Nat.le_of_ble_eq_true rfl) rfl ?_
  dsimp only [List.set]
  refine r_aload_n C dL_law_937 rfl rfl ?_
  refine r_cV C cwL_135 (lw_m (by decide) (c_X5_undo (by omega) ⟨hn1, hn.2⟩)) dL_law_938 rfl (by omega) (lw_r5 (by decide)) rfl rfl rfl (Nat.le_of_ble_eq_true rfl) ⟨Nat.le_of_ble_eq_true rfl, Nat.le_of_ble_eq_true rfl⟩ hc ?_
  rw [und_w hh hn1]
  refine r_istore C dL_law_941 (Nat.le_of_ble_eq_true rfl) rfl ?_
  dsimp only [List.set]
  refine r_aload_n C dL_law_943 rfl rfl ?_
  refine r_cV C cwL_86 (lw_m (by decide) (c_X5_thrown (by omega))) dL_law_944 rfl (by omega) (lw_r5 (by decide)) rfl rfl rfl (Nat.le_of_ble_eq_true rfl) ⟨Nat.le_of_ble_eq_true rfl, Nat.le_of_ble_eq_true rfl⟩ hc ?_
  rw [show (up (up v 6 0) 3 (v 3 - 1)) 6 = 0 from rfl]
  refine r_iload C dL_law_947 rfl ?_
  refine r_icmpE (tgt := 954) C dL_law_949 (by decide) ?_
  refine r_iload C dL_law_954 rfl ?_
  refine r_ifne0 (tgt := 971) C dL_law_956 (by decide) ?_
  refine r_aload_n C dL_law_959 rfl rfl ?_
  refine r_iconst C dL_law_960 ?_
  refine r_lald C dL_law_961 (by omega) lw_g2 (by omega) (by decide) ?_
  show V _ _ _ _ _ _ (.long (gI (v 3 - 1)).toInt64 :: _) _ _ _
  refine r_iload C dL_law_962 rfl ?_
  refine r_i2l C dL_law_964 ?_
  refine r_lcmpE C dL_law_965 ?_
  refine r_ifeq0 (tgt := 971) C dL_law_966 (by decide) ?_
  refine r_goto (tgt := 1415) C dL_law_971 (by decide) ?_
  refine V_drop 5 ?_
  dsimp only [List.set]
  refine V_drop 6 ?_
  dsimp only [List.set]
  exact K _ _ _ _ _ _ _ _ _ _ _ ⟨⟨ho.2.2.1 _ (by omega) (by omega), by omega, ho.2.2.1, hxt⟩, hist_le hh (by omega), rfl, rfl⟩

set_option maxRecDepth 100000 in
set_option maxHeartbeats 4000000 in
theorem lw_undo_f1 {X : gT} {rt : Option FieldType} {kc kn : Nat} {Q : State → Prop} {ad : Int → Nat} {σ : Int → va_E} {b Ls : Nat} {xz : Int → Int} {i : Int} {s tx v t p q : Int → Int} {n k len : Int} {u : Int → Int → Int} {g : Nat → Int64} (C : gOk X cL_law 9 RL room_1 rt) (hX : gXk X) (hsc : gSc X b Ls xz) (hi : 0 ≤ i ∧ i + 3 ≤ Ls) (hc : kc + 1 ≤ 628140 ∧ kn + 6 ≤ 7211684) (I : LI s n k u len tx v p) (K : LK X ad σ Q kc kn b i) (hn0 : v 3 = 0) : V X kc kn Q 930 (LL b ad i) [] ad 152 (LW ad (gty X) σ s n k u len tx v s t p tx q g) := by
  obtain ⟨ho, hh, hv3, hv5⟩ := I
  subst hv3 hv5
  have hs := ho.1
  have hn := ho.2.1
  have hxt := ho.2.2.2
  have hlen := hxt.1
  have hz1 := hsc.2.2 (i + 1)
  have hz2 := hsc.2.2 (i + 2)
  show V X kc kn Q 930 [some (.ref b), some (.ref (ad 0)), some (.ref (ad 145)), some (.ref (ad 151)), some (.int (gI i)), none, none, none, none] [] ad 152 _
  refine r_aload_n C dL_law_930 rfl rfl ?_
  refine r_aload_n C dL_law_931 rfl rfl ?_
  refine r_cW C hX.2 cwL_133 (w_L_undo_f1 hX.1 (by omega) ho (by omega) lw_g hn0) dL_law_932 rfl rfl rfl (Nat.le_of_ble_eq_true rfl) ⟨Nat.le_of_ble_eq_true rfl, Nat.le_of_ble_eq_true rfl⟩ hc ?_
  refine r_istore C dL_law_935 (Nat.le_of_ble_eq_true rfl) rfl ?_
  dsimp only [List.set]
  refine r_aload_n C dL_law_937 rfl rfl ?_
  refine r_cV C cwL_135 (lw_m (by decide) (c_X5_undo_f1 (by omega) hn0)) dL_law_938 rfl (by omega) (lw_r5 (by decide)) rfl rfl rfl (Nat.le_of_ble_eq_true rfl) ⟨Nat.le_of_ble_eq_true rfl, Nat.le_of_ble_eq_true rfl⟩ hc ?_
  refine r_istore C dL_law_941 (Nat.le_of_ble_eq_true rfl) rfl ?_
  dsimp only [List.set]
  refine r_aload_n C dL_law_943 rfl rfl ?_
  refine r_cV C cwL_86 (lw_m (by decide) (c_X5_thrown (by omega))) dL_law_944 rfl (by omega) (lw_r5 (by decide)) rfl rfl rfl (Nat.le_of_ble_eq_true rfl) ⟨Nat.le_of_ble_eq_true rfl, Nat.le_of_ble_eq_true rfl⟩ hc ?_
  rw [show (up v 6 1) 6 = 1 from rfl]
  refine r_iload C dL_law_947 rfl ?_
  refine r_icmpE (tgt := 954) C dL_law_949 (by decide) ?_
  refine r_iload C dL_law_954 rfl ?_
  refine r_ifneK (tgt := 971) C dL_law_956 (by decide) (by decide) ?_
  refine r_goto (tgt := 1415) C dL_law_971 (by decide) ?_
  refine V_drop 5 ?_
  dsimp only [List.set]
  refine V_drop 6 ?_
  dsimp only [List.set]
  exact K _ _ _ _ _ _ _ _ _ _ _ ⟨ho, hh, rfl, rfl⟩

set_option maxRecDepth 100000 in
set_option maxHeartbeats 4000000 in
theorem lw_room {X : gT} {rt : Option FieldType} {kc kn : Nat} {Q : State → Prop} {ad : Int → Nat} {σ : Int → va_E} {b Ls : Nat} {xz : Int → Int} {i : Int} {s tx v t p q : Int → Int} {n k len : Int} {u : Int → Int → Int} {g : Nat → Int64} (C : gOk X cL_law 9 RL room_1 rt) (hX : gXk X) (hsc : gSc X b Ls xz) (hi : 0 ≤ i ∧ i + 3 ≤ Ls) (hc : kc + 1 ≤ 628140 ∧ kn + 6 ≤ 7211684) (I : LI s n k u len tx v p) (K : LK X ad σ Q kc kn b i) (hr : 0 ≤ xz (i + 1) ∧ xz (i + 1) < 6) (hw : 0 ≤ xz (i + 2) ∧ xz (i + 2) < 8) : V X kc kn Q 974 (LL b ad i) [] ad 152 (LW ad (gty X) σ s n k u len tx v s t p tx q g) := by
  obtain ⟨ho, hh, hv3, hv5⟩ := I
  subst hv3 hv5
  have hs := ho.1
  have hn := ho.2.1
  have hxt := ho.2.2.2
  have hlen := hxt.1
  have hz1 := hsc.2.2 (i + 1)
  have hz2 := hsc.2.2 (i + 2)
  show V X kc kn Q 974 [some (.ref b), some (.ref (ad 0)), some (.ref (ad 145)), some (.ref (ad 151)), some (.int (gI i)), none, none, none, none] [] ad 152 _
  refine r_aload_n C dL_law_974 rfl rfl ?_
  refine r_aload_n C dL_law_975 rfl rfl ?_
  refine r_iload C dL_law_976 rfl ?_
  refine r_iconst C dL_law_978 ?_
  refine r_iadd C dL_law_979 ?_
  refine r_sld C hsc dL_law_980 (by omega) ?_
  refine r_aload_n C dL_law_981 rfl rfl ?_
  refine r_iload C dL_law_982 rfl ?_
  refine r_iconst C dL_law_984 ?_
  refine r_iadd C dL_law_985 ?_
  refine r_sld C hsc dL_law_986 (by omega) ?_
  refine r_aload_n C dL_law_987 rfl rfl ?_
  refine r_cW C hX.2 cwL_136 (lw_w (w_L_room hX.1 (by omega) ho (by omega) lw_g hr hw)) dL_law_988 rfl rfl rfl (Nat.le_of_ble_eq_true rfl) ⟨Nat.le_of_ble_eq_true rfl, Nat.le_of_ble_eq_true rfl⟩ hc ?_
  refine r_istore C dL_law_991 (Nat.le_of_ble_eq_true rfl) rfl ?_
  dsimp only [List.set]
  refine r_aload_n C dL_law_993 rfl rfl ?_
  refine r_aload_n C dL_law_994 rfl rfl ?_
  refine r_iload C dL_law_995 rfl ?_
  refine r_iconst C dL_law_997 ?_
  refine r_iadd C dL_law_998 ?_
  refine r_sld C hsc dL_law_999 (by omega) ?_
  refine r_aload_n C dL_law_1000 rfl rfl ?_
  refine r_iload C dL_law_1001 rfl ?_
  refine r_iconst C dL_law_1003 ?_
  refine r_iadd C dL_law_1004 ?_
  refine r_sld C hsc dL_law_1005 (by omega) ?_
  refine r_cV C cwL_138 (lw_m (by decide) (c_X5_room (by omega) hs hr hw)) dL_law_1006 rfl (by omega) (lw_r5 (by decide)) rfl rfl rfl (Nat.le_of_ble_eq_true rfl) ⟨Nat.le_of_ble_eq_true rfl, Nat.le_of_ble_eq_true rfl⟩ hc ?_
  refine r_istore C dL_law_1009 (Nat.le_of_ble_eq_true rfl) rfl ?_
  dsimp only [List.set]
  refine r_aload_n C dL_law_1011 rfl rfl ?_
  refine r_cV C cwL_86 (lw_m (by decide) (c_X5_thrown (by omega))) dL_law_1012 rfl (by omega) (lw_r5 (by decide)) rfl rfl rfl (Nat.le_of_ble_eq_true rfl) ⟨Nat.le_of_ble_eq_true rfl, Nat.le_of_ble_eq_true rfl⟩ hc ?_
  rw [show (up v 6 0) 6 = 0 from rfl]
  refine r_iload C dL_law_1015 rfl ?_
  refine r_icmpE (tgt := 1022) C dL_law_1017 (by decide) ?_
  refine r_iload C dL_law_1022 rfl ?_
  refine r_ifne0 (tgt := 1039) C dL_law_1024 (by decide) ?_
  refine r_aload_n C dL_law_1027 rfl rfl ?_
  refine r_iconst C dL_law_1028 ?_
  refine r_lald C dL_law_1029 (by omega) lw_g2 (by omega) (by decide) ?_
  show V _ _ _ _ _ _ (.long (gI (numR (rm s (xz (i + 1))) (xz (i + 2)))).toInt64 :: _) _ _ _
  refine r_iload C dL_law_1030 rfl ?_
  refine r_i2l C dL_law_1032 ?_
  refine r_lcmpE C dL_law_1033 ?_
  refine r_ifeq0 (tgt := 1039) C dL_law_1034 (by decide) ?_
  refine r_goto (tgt := 1415) C dL_law_1039 (by decide) ?_
  refine V_drop 5 ?_
  dsimp only [List.set]
  refine V_drop 6 ?_
  dsimp only [List.set]
  exact K _ _ _ _ _ _ _ _ _ _ _ ⟨ho, hh, rfl, rfl⟩

set_option maxRecDepth 100000 in
set_option maxHeartbeats 4000000 in
theorem lw_room_f1 {X : gT} {rt : Option FieldType} {kc kn : Nat} {Q : State → Prop} {ad : Int → Nat} {σ : Int → va_E} {b Ls : Nat} {xz : Int → Int} {i : Int} {s tx v t p q : Int → Int} {n k len : Int} {u : Int → Int → Int} {g : Nat → Int64} (C : gOk X cL_law 9 RL room_1 rt) (hX : gXk X) (hsc : gSc X b Ls xz) (hi : 0 ≤ i ∧ i + 3 ≤ Ls) (hc : kc + 1 ≤ 628140 ∧ kn + 6 ≤ 7211684) (I : LI s n k u len tx v p) (K : LK X ad σ Q kc kn b i) (hnr : ¬ (0 ≤ xz (i + 1) ∧ xz (i + 1) < 6)) : V X kc kn Q 974 (LL b ad i) [] ad 152 (LW ad (gty X) σ s n k u len tx v s t p tx q g) := by
  obtain ⟨ho, hh, hv3, hv5⟩ := I
  subst hv3 hv5
  have hs := ho.1
  have hn := ho.2.1
  have hxt := ho.2.2.2
  have hlen := hxt.1
  have hz1 := hsc.2.2 (i + 1)
  have hz2 := hsc.2.2 (i + 2)
  show V X kc kn Q 974 [some (.ref b), some (.ref (ad 0)), some (.ref (ad 145)), some (.ref (ad 151)), some (.int (gI i)), none, none, none, none] [] ad 152 _
  refine r_aload_n C dL_law_974 rfl rfl ?_
  refine r_aload_n C dL_law_975 rfl rfl ?_
  refine r_iload C dL_law_976 rfl ?_
  refine r_iconst C dL_law_978 ?_
  refine r_iadd C dL_law_979 ?_
  refine r_sld C hsc dL_law_980 (by omega) ?_
  refine r_aload_n C dL_law_981 rfl rfl ?_
  refine r_iload C dL_law_982 rfl ?_
  refine r_iconst C dL_law_984 ?_
  refine r_iadd C dL_law_985 ?_
  refine r_sld C hsc dL_law_986 (by omega) ?_
  refine r_aload_n C dL_law_987 rfl rfl ?_
  refine r_cW C hX.2 cwL_136 (w_L_room_f1 hX.1 (by omega) ho (by omega) lw_g hnr hz1) dL_law_988 rfl rfl rfl (Nat.le_of_ble_eq_true rfl) ⟨Nat.le_of_ble_eq_true rfl, Nat.le_of_ble_eq_true rfl⟩ hc ?_
  refine r_istore C dL_law_991 (Nat.le_of_ble_eq_true rfl) rfl ?_
  dsimp only [List.set]
  refine r_aload_n C dL_law_993 rfl rfl ?_
  refine r_aload_n C dL_law_994 rfl rfl ?_
  refine r_iload C dL_law_995 rfl ?_
  refine r_iconst C dL_law_997 ?_
  refine r_iadd C dL_law_998 ?_
  refine r_sld C hsc dL_law_999 (by omega) ?_
  refine r_aload_n C dL_law_1000 rfl rfl ?_
  refine r_iload C dL_law_1001 rfl ?_
  refine r_iconst C dL_law_1003 ?_
  refine r_iadd C dL_law_1004 ?_
  refine r_sld C hsc dL_law_1005 (by omega) ?_
  refine r_cV C cwL_138 (lw_m (by decide) (c_X5_room_f1 (by omega) hnr hz1)) dL_law_1006 rfl (by omega) (lw_r5 (by decide)) rfl rfl rfl (Nat.le_of_ble_eq_true rfl) ⟨Nat.le_of_ble_eq_true rfl, Nat.le_of_ble_eq_true rfl⟩ hc ?_
  refine r_istore C dL_law_1009 (Nat.le_of_ble_eq_true rfl) rfl ?_
  dsimp only [List.set]
  refine r_aload_n C dL_law_1011 rfl rfl ?_
  refine r_cV C cwL_86 (lw_m (by decide) (c_X5_thrown (by omega))) dL_law_1012 rfl (by omega) (lw_r5 (by decide)) rfl rfl rfl (Nat.le_of_ble_eq_true rfl) ⟨Nat.le_of_ble_eq_true rfl, Nat.le_of_ble_eq_true rfl⟩ hc ?_
  rw [show (up v 6 1) 6 = 1 from rfl]
  refine r_iload C dL_law_1015 rfl ?_
  refine r_icmpE (tgt := 1022) C dL_law_1017 (by decide) ?_
  refine r_iload C dL_law_1022 rfl ?_
  refine r_ifneK (tgt := 1039) C dL_law_1024 (by decide) (by decide) ?_
  refine r_goto (tgt := 1415) C dL_law_1039 (by decide) ?_
  refine V_drop 5 ?_
  dsimp only [List.set]
  refine V_drop 6 ?_
  dsimp only [List.set]
  exact K _ _ _ _ _ _ _ _ _ _ _ ⟨ho, hh, rfl, rfl⟩

set_option maxRecDepth 100000 in
set_option maxHeartbeats 4000000 in
theorem lw_room_f2 {X : gT} {rt : Option FieldType} {kc kn : Nat} {Q : State → Prop} {ad : Int → Nat} {σ : Int → va_E} {b Ls : Nat} {xz : Int → Int} {i : Int} {s tx v t p q : Int → Int} {n k len : Int} {u : Int → Int → Int} {g : Nat → Int64} (C : gOk X cL_law 9 RL room_1 rt) (hX : gXk X) (hsc : gSc X b Ls xz) (hi : 0 ≤ i ∧ i + 3 ≤ Ls) (hc : kc + 1 ≤ 628140 ∧ kn + 6 ≤ 7211684) (I : LI s n k u len tx v p) (K : LK X ad σ Q kc kn b i) (hr : 0 ≤ xz (i + 1) ∧ xz (i + 1) < 6) (hw : ¬ (0 ≤ xz (i + 2) ∧ xz (i + 2) < 8)) : V X kc kn Q 974 (LL b ad i) [] ad 152 (LW ad (gty X) σ s n k u len tx v s t p tx q g) := by
  obtain ⟨ho, hh, hv3, hv5⟩ := I
  subst hv3 hv5
  have hs := ho.1
  have hn := ho.2.1
  have hxt := ho.2.2.2
  have hlen := hxt.1
  have hz1 := hsc.2.2 (i + 1)
  have hz2 := hsc.2.2 (i + 2)
  show V X kc kn Q 974 [some (.ref b), some (.ref (ad 0)), some (.ref (ad 145)), some (.ref (ad 151)), some (.int (gI i)), none, none, none, none] [] ad 152 _
  refine r_aload_n C dL_law_974 rfl rfl ?_
  refine r_aload_n C dL_law_975 rfl rfl ?_
  refine r_iload C dL_law_976 rfl ?_
  refine r_iconst C dL_law_978 ?_
  refine r_iadd C dL_law_979 ?_
  refine r_sld C hsc dL_law_980 (by omega) ?_
  refine r_aload_n C dL_law_981 rfl rfl ?_
  refine r_iload C dL_law_982 rfl ?_
  refine r_iconst C dL_law_984 ?_
  refine r_iadd C dL_law_985 ?_
  refine r_sld C hsc dL_law_986 (by omega) ?_
  refine r_aload_n C dL_law_987 rfl rfl ?_
  refine r_cW C hX.2 cwL_136 (w_L_room_f2 hX.1 (by omega) ho (by omega) lw_g hr hw hz2) dL_law_988 rfl rfl rfl (Nat.le_of_ble_eq_true rfl) ⟨Nat.le_of_ble_eq_true rfl, Nat.le_of_ble_eq_true rfl⟩ hc ?_
  refine r_istore C dL_law_991 (Nat.le_of_ble_eq_true rfl) rfl ?_
  dsimp only [List.set]
  refine r_aload_n C dL_law_993 rfl rfl ?_
  refine r_aload_n C dL_law_994 rfl rfl ?_
  refine r_iload C dL_law_995 rfl ?_
  refine r_iconst C dL_law_997 ?_
  refine r_iadd C dL_law_998 ?_
  refine r_sld C hsc dL_law_999 (by omega) ?_
  refine r_aload_n C dL_law_1000 rfl rfl ?_
  refine r_iload C dL_law_1001 rfl ?_
  refine r_iconst C dL_law_1003 ?_
  refine r_iadd C dL_law_1004 ?_
  refine r_sld C hsc dL_law_1005 (by omega) ?_
  refine r_cV C cwL_138 (lw_m (by decide) (c_X5_room_f2 (by omega) hr hw hz2)) dL_law_1006 rfl (by omega) (lw_r5 (by decide)) rfl rfl rfl (Nat.le_of_ble_eq_true rfl) ⟨Nat.le_of_ble_eq_true rfl, Nat.le_of_ble_eq_true rfl⟩ hc ?_
  refine r_istore C dL_law_1009 (Nat.le_of_ble_eq_true rfl) rfl ?_
  dsimp only [List.set]
  refine r_aload_n C dL_law_1011 rfl rfl ?_
  refine r_cV C cwL_86 (lw_m (by decide) (c_X5_thrown (by omega))) dL_law_1012 rfl (by omega) (lw_r5 (by decide)) rfl rfl rfl (Nat.le_of_ble_eq_true rfl) ⟨Nat.le_of_ble_eq_true rfl, Nat.le_of_ble_eq_true rfl⟩ hc ?_
  rw [show (up v 6 2) 6 = 2 from rfl]
  refine r_iload C dL_law_1015 rfl ?_
  refine r_icmpE (tgt := 1022) C dL_law_1017 (by decide) ?_
  refine r_iload C dL_law_1022 rfl ?_
  refine r_ifneK (tgt := 1039) C dL_law_1024 (by decide) (by decide) ?_
  refine r_goto (tgt := 1415) C dL_law_1039 (by decide) ?_
  refine V_drop 5 ?_
  dsimp only [List.set]
  refine V_drop 6 ?_
  dsimp only [List.set]
  exact K _ _ _ _ _ _ _ _ _ _ _ ⟨ho, hh, rfl, rfl⟩

set_option maxRecDepth 100000 in
set_option maxHeartbeats 4000000 in
theorem lw_thing {X : gT} {rt : Option FieldType} {kc kn : Nat} {Q : State → Prop} {ad : Int → Nat} {σ : Int → va_E} {b Ls : Nat} {xz : Int → Int} {i : Int} {s tx v t p q : Int → Int} {n k len : Int} {u : Int → Int → Int} {g : Nat → Int64} (C : gOk X cL_law 9 RL room_1 rt) (hX : gXk X) (hsc : gSc X b Ls xz) (hi : 0 ≤ i ∧ i + 3 ≤ Ls) (hc : kc + 1 ≤ 628140 ∧ kn + 6 ≤ 7211684) (I : LI s n k u len tx v p) (K : LK X ad σ Q kc kn b i) (hk : 0 ≤ xz (i + 1) ∧ xz (i + 1) < 100) (hw : 0 ≤ xz (i + 2) ∧ xz (i + 2) < 3) : V X kc kn Q 1042 (LL b ad i) [] ad 152 (LW ad (gty X) σ s n k u len tx v s t p tx q g) := by
  obtain ⟨ho, hh, hv3, hv5⟩ := I
  subst hv3 hv5
  have hs := ho.1
  have hn := ho.2.1
  have hxt := ho.2.2.2
  have hlen := hxt.1
  have hz1 := hsc.2.2 (i + 1)
  have hz2 := hsc.2.2 (i + 2)
  show V X kc kn Q 1042 [some (.ref b), some (.ref (ad 0)), some (.ref (ad 145)), some (.ref (ad 151)), some (.int (gI i)), none, none, none, none] [] ad 152 _
  refine r_aload_n C dL_law_1042 rfl rfl ?_
  refine r_aload_n C dL_law_1043 rfl rfl ?_
  refine r_iload C dL_law_1044 rfl ?_
  refine r_iconst C dL_law_1046 ?_
  refine r_iadd C dL_law_1047 ?_
  refine r_sld C hsc dL_law_1048 (by omega) ?_
  refine r_aload_n C dL_law_1049 rfl rfl ?_
  refine r_iload C dL_law_1050 rfl ?_
  refine r_iconst C dL_law_1052 ?_
  refine r_iadd C dL_law_1053 ?_
  refine r_sld C hsc dL_law_1054 (by omega) ?_
  refine r_aload_n C dL_law_1055 rfl rfl ?_
  refine r_cW C hX.2 cwL_139 (lw_w (w_L_thing hX.1 (by omega) ho (by omega) lw_g hk hw)) dL_law_1056 rfl rfl rfl (Nat.le_of_ble_eq_true rfl) ⟨Nat.le_of_ble_eq_true rfl, Nat.le_of_ble_eq_true rfl⟩ hc ?_
  refine r_istore C dL_law_1059 (Nat.le_of_ble_eq_true rfl) rfl ?_
  dsimp only [List.set]
  refine r_aload_n C dL_law_1061 rfl rfl ?_
  refine r_aload_n C dL_law_1062 rfl rfl ?_
  refine r_iload C dL_law_1063 rfl ?_
  refine r_iconst C dL_law_1065 ?_
  refine r_iadd C dL_law_1066 ?_
  refine r_sld C hsc dL_law_1067 (by omega) ?_
  refine r_aload_n C dL_law_1068 rfl rfl ?_
  refine r_iload C dL_law_1069 rfl ?_
  refine r_iconst C dL_law_1071 ?_
  refine r_iadd C dL_law_1072 ?_
  refine r_sld C hsc dL_law_1073 (by omega) ?_
  refine r_cV C cwL_141 (lw_m (by decide) (c_X5_thing (by omega) hs (by omega) hw)) dL_law_1074 rfl (by omega) (lw_r5 (by decide)) rfl rfl rfl (Nat.le_of_ble_eq_true rfl) ⟨Nat.le_of_ble_eq_true rfl, Nat.le_of_ble_eq_true rfl⟩ hc ?_
  refine r_istore C dL_law_1077 (Nat.le_of_ble_eq_true rfl) rfl ?_
  dsimp only [List.set]
  refine r_aload_n C dL_law_1079 rfl rfl ?_
  refine r_cV C cwL_86 (lw_m (by decide) (c_X5_thrown (by omega))) dL_law_1080 rfl (by omega) (lw_r5 (by decide)) rfl rfl rfl (Nat.le_of_ble_eq_true rfl) ⟨Nat.le_of_ble_eq_true rfl, Nat.le_of_ble_eq_true rfl⟩ hc ?_
  rw [show (up v 6 0) 6 = 0 from rfl]
  refine r_iload C dL_law_1083 rfl ?_
  refine r_icmpE (tgt := 1090) C dL_law_1085 (by decide) ?_
  refine r_iload C dL_law_1090 rfl ?_
  refine r_ifne0 (tgt := 1107) C dL_law_1092 (by decide) ?_
  refine r_aload_n C dL_law_1095 rfl rfl ?_
  refine r_iconst C dL_law_1096 ?_
  refine r_lald C dL_law_1097 (by omega) lw_g2 (by omega) (by decide) ?_
  show V _ _ _ _ _ _ (.long (gI (thn s (xz (i + 1)) (xz (i + 2)))).toInt64 :: _) _ _ _
  refine r_iload C dL_law_1098 rfl ?_
  refine r_i2l C dL_law_1100 ?_
  refine r_lcmpE C dL_law_1101 ?_
  refine r_ifeq0 (tgt := 1107) C dL_law_1102 (by decide) ?_
  refine r_goto (tgt := 1415) C dL_law_1107 (by decide) ?_
  refine V_drop 5 ?_
  dsimp only [List.set]
  refine V_drop 6 ?_
  dsimp only [List.set]
  exact K _ _ _ _ _ _ _ _ _ _ _ ⟨ho, hh, rfl, rfl⟩

set_option maxRecDepth 100000 in
set_option maxHeartbeats 4000000 in
theorem lw_thing_f1 {X : gT} {rt : Option FieldType} {kc kn : Nat} {Q : State → Prop} {ad : Int → Nat} {σ : Int → va_E} {b Ls : Nat} {xz : Int → Int} {i : Int} {s tx v t p q : Int → Int} {n k len : Int} {u : Int → Int → Int} {g : Nat → Int64} (C : gOk X cL_law 9 RL room_1 rt) (hX : gXk X) (hsc : gSc X b Ls xz) (hi : 0 ≤ i ∧ i + 3 ≤ Ls) (hc : kc + 1 ≤ 628140 ∧ kn + 6 ≤ 7211684) (I : LI s n k u len tx v p) (K : LK X ad σ Q kc kn b i) (hk : ¬ (0 ≤ xz (i + 1) ∧ xz (i + 1) < 100)) : V X kc kn Q 1042 (LL b ad i) [] ad 152 (LW ad (gty X) σ s n k u len tx v s t p tx q g) := by
  obtain ⟨ho, hh, hv3, hv5⟩ := I
  subst hv3 hv5
  have hs := ho.1
  have hn := ho.2.1
  have hxt := ho.2.2.2
  have hlen := hxt.1
  have hz1 := hsc.2.2 (i + 1)
  have hz2 := hsc.2.2 (i + 2)
  show V X kc kn Q 1042 [some (.ref b), some (.ref (ad 0)), some (.ref (ad 145)), some (.ref (ad 151)), some (.int (gI i)), none, none, none, none] [] ad 152 _
  refine r_aload_n C dL_law_1042 rfl rfl ?_
  refine r_aload_n C dL_law_1043 rfl rfl ?_
  refine r_iload C dL_law_1044 rfl ?_
  refine r_iconst C dL_law_1046 ?_
  refine r_iadd C dL_law_1047 ?_
  refine r_sld C hsc dL_law_1048 (by omega) ?_
  refine r_aload_n C dL_law_1049 rfl rfl ?_
  refine r_iload C dL_law_1050 rfl ?_
  refine r_iconst C dL_law_1052 ?_
  refine r_iadd C dL_law_1053 ?_
  refine r_sld C hsc dL_law_1054 (by omega) ?_
  refine r_aload_n C dL_law_1055 rfl rfl ?_
  refine r_cW C hX.2 cwL_139 (w_L_thing_f1 hX.1 (by omega) ho (by omega) lw_g hk hz1) dL_law_1056 rfl rfl rfl (Nat.le_of_ble_eq_true rfl) ⟨Nat.le_of_ble_eq_true rfl, Nat.le_of_ble_eq_true rfl⟩ hc ?_
  refine r_istore C dL_law_1059 (Nat.le_of_ble_eq_true rfl) rfl ?_
  dsimp only [List.set]
  refine r_aload_n C dL_law_1061 rfl rfl ?_
  refine r_aload_n C dL_law_1062 rfl rfl ?_
  refine r_iload C dL_law_1063 rfl ?_
  refine r_iconst C dL_law_1065 ?_
  refine r_iadd C dL_law_1066 ?_
  refine r_sld C hsc dL_law_1067 (by omega) ?_
  refine r_aload_n C dL_law_1068 rfl rfl ?_
  refine r_iload C dL_law_1069 rfl ?_
  refine r_iconst C dL_law_1071 ?_
  refine r_iadd C dL_law_1072 ?_
  refine r_sld C hsc dL_law_1073 (by omega) ?_
  refine r_cV C cwL_141 (lw_m (by decide) (c_X5_thing_f1 (by omega) (fun h => hk (by omega)) hz1 hz2)) dL_law_1074 rfl (by omega) (lw_r5 (by decide)) rfl rfl rfl (Nat.le_of_ble_eq_true rfl) ⟨Nat.le_of_ble_eq_true rfl, Nat.le_of_ble_eq_true rfl⟩ hc ?_
  refine r_istore C dL_law_1077 (Nat.le_of_ble_eq_true rfl) rfl ?_
  dsimp only [List.set]
  refine r_aload_n C dL_law_1079 rfl rfl ?_
  refine r_cV C cwL_86 (lw_m (by decide) (c_X5_thrown (by omega))) dL_law_1080 rfl (by omega) (lw_r5 (by decide)) rfl rfl rfl (Nat.le_of_ble_eq_true rfl) ⟨Nat.le_of_ble_eq_true rfl, Nat.le_of_ble_eq_true rfl⟩ hc ?_
  rw [show (up v 6 1) 6 = 1 from rfl]
  refine r_iload C dL_law_1083 rfl ?_
  refine r_icmpE (tgt := 1090) C dL_law_1085 (by decide) ?_
  refine r_iload C dL_law_1090 rfl ?_
  refine r_ifneK (tgt := 1107) C dL_law_1092 (by decide) (by decide) ?_
  refine r_goto (tgt := 1415) C dL_law_1107 (by decide) ?_
  refine V_drop 5 ?_
  dsimp only [List.set]
  refine V_drop 6 ?_
  dsimp only [List.set]
  exact K _ _ _ _ _ _ _ _ _ _ _ ⟨ho, hh, rfl, rfl⟩

set_option maxRecDepth 100000 in
set_option maxHeartbeats 4000000 in
theorem lw_thing_f2 {X : gT} {rt : Option FieldType} {kc kn : Nat} {Q : State → Prop} {ad : Int → Nat} {σ : Int → va_E} {b Ls : Nat} {xz : Int → Int} {i : Int} {s tx v t p q : Int → Int} {n k len : Int} {u : Int → Int → Int} {g : Nat → Int64} (C : gOk X cL_law 9 RL room_1 rt) (hX : gXk X) (hsc : gSc X b Ls xz) (hi : 0 ≤ i ∧ i + 3 ≤ Ls) (hc : kc + 1 ≤ 628140 ∧ kn + 6 ≤ 7211684) (I : LI s n k u len tx v p) (K : LK X ad σ Q kc kn b i) (hk : 0 ≤ xz (i + 1) ∧ xz (i + 1) < 100) (hw : ¬ (0 ≤ xz (i + 2) ∧ xz (i + 2) < 3)) : V X kc kn Q 1042 (LL b ad i) [] ad 152 (LW ad (gty X) σ s n k u len tx v s t p tx q g) := by
  obtain ⟨ho, hh, hv3, hv5⟩ := I
  subst hv3 hv5
  have hs := ho.1
  have hn := ho.2.1
  have hxt := ho.2.2.2
  have hlen := hxt.1
  have hz1 := hsc.2.2 (i + 1)
  have hz2 := hsc.2.2 (i + 2)
  show V X kc kn Q 1042 [some (.ref b), some (.ref (ad 0)), some (.ref (ad 145)), some (.ref (ad 151)), some (.int (gI i)), none, none, none, none] [] ad 152 _
  refine r_aload_n C dL_law_1042 rfl rfl ?_
  refine r_aload_n C dL_law_1043 rfl rfl ?_
  refine r_iload C dL_law_1044 rfl ?_
  refine r_iconst C dL_law_1046 ?_
  refine r_iadd C dL_law_1047 ?_
  refine r_sld C hsc dL_law_1048 (by omega) ?_
  refine r_aload_n C dL_law_1049 rfl rfl ?_
  refine r_iload C dL_law_1050 rfl ?_
  refine r_iconst C dL_law_1052 ?_
  refine r_iadd C dL_law_1053 ?_
  refine r_sld C hsc dL_law_1054 (by omega) ?_
  refine r_aload_n C dL_law_1055 rfl rfl ?_
  refine r_cW C hX.2 cwL_139 (w_L_thing_f2 hX.1 (by omega) ho (by omega) lw_g hk hw hz2) dL_law_1056 rfl rfl rfl (Nat.le_of_ble_eq_true rfl) ⟨Nat.le_of_ble_eq_true rfl, Nat.le_of_ble_eq_true rfl⟩ hc ?_
  refine r_istore C dL_law_1059 (Nat.le_of_ble_eq_true rfl) rfl ?_
  dsimp only [List.set]
  refine r_aload_n C dL_law_1061 rfl rfl ?_
  refine r_aload_n C dL_law_1062 rfl rfl ?_
  refine r_iload C dL_law_1063 rfl ?_
  refine r_iconst C dL_law_1065 ?_
  refine r_iadd C dL_law_1066 ?_
  refine r_sld C hsc dL_law_1067 (by omega) ?_
  refine r_aload_n C dL_law_1068 rfl rfl ?_
  refine r_iload C dL_law_1069 rfl ?_
  refine r_iconst C dL_law_1071 ?_
  refine r_iadd C dL_law_1072 ?_
  refine r_sld C hsc dL_law_1073 (by omega) ?_
  refine r_cV C cwL_141 (lw_m (by decide) (c_X5_thing_f1 (by omega) (fun h => hw h.2) hz1 hz2)) dL_law_1074 rfl (by omega) (lw_r5 (by decide)) rfl rfl rfl (Nat.le_of_ble_eq_true rfl) ⟨Nat.le_of_ble_eq_true rfl, Nat.le_of_ble_eq_true rfl⟩ hc ?_
  refine r_istore C dL_law_1077 (Nat.le_of_ble_eq_true rfl) rfl ?_
  dsimp only [List.set]
  refine r_aload_n C dL_law_1079 rfl rfl ?_
  refine r_cV C cwL_86 (lw_m (by decide) (c_X5_thrown (by omega))) dL_law_1080 rfl (by omega) (lw_r5 (by decide)) rfl rfl rfl (Nat.le_of_ble_eq_true rfl) ⟨Nat.le_of_ble_eq_true rfl, Nat.le_of_ble_eq_true rfl⟩ hc ?_
  rw [show (up v 6 1) 6 = 1 from rfl]
  refine r_iload C dL_law_1083 rfl ?_
  refine r_icmpE (tgt := 1090) C dL_law_1085 (by decide) ?_
  refine r_iload C dL_law_1090 rfl ?_
  refine r_ifneK (tgt := 1107) C dL_law_1092 (by decide) (by decide) ?_
  refine r_goto (tgt := 1415) C dL_law_1107 (by decide) ?_
  refine V_drop 5 ?_
  dsimp only [List.set]
  refine V_drop 6 ?_
  dsimp only [List.set]
  exact K _ _ _ _ _ _ _ _ _ _ _ ⟨ho, hh, rfl, rfl⟩

set_option maxRecDepth 100000 in
set_option maxHeartbeats 4000000 in
theorem lw_count {X : gT} {rt : Option FieldType} {kc kn : Nat} {Q : State → Prop} {ad : Int → Nat} {σ : Int → va_E} {b Ls : Nat} {xz : Int → Int} {i : Int} {s tx v t p q : Int → Int} {n k len : Int} {u : Int → Int → Int} {g : Nat → Int64} (C : gOk X cL_law 9 RL room_1 rt) (hX : gXk X) (hsc : gSc X b Ls xz) (hi : 0 ≤ i ∧ i + 3 ≤ Ls) (hc : kc + 1 ≤ 628140 ∧ kn + 6 ≤ 7211684) (I : LI s n k u len tx v p) (K : LK X ad σ Q kc kn b i) (hw : 0 ≤ xz (i + 1) ∧ xz (i + 1) < 12) : V X kc kn Q 1110 (LL b ad i) [] ad 152 (LW ad (gty X) σ s n k u len tx v s t p tx q g) := by
  obtain ⟨ho, hh, hv3, hv5⟩ := I
  subst hv3 hv5
  have hs := ho.1
  have hn := ho.2.1
  have hxt := ho.2.2.2
  have hlen := hxt.1
  have hz1 := hsc.2.2 (i + 1)
  have hz2 := hsc.2.2 (i + 2)
  show V X kc kn Q 1110 [some (.ref b), some (.ref (ad 0)), some (.ref (ad 145)), some (.ref (ad 151)), some (.int (gI i)), none, none, none, none] [] ad 152 _
  refine r_aload_n C dL_law_1110 rfl rfl ?_
  refine r_aload_n C dL_law_1111 rfl rfl ?_
  refine r_iload C dL_law_1112 rfl ?_
  refine r_iconst C dL_law_1114 ?_
  refine r_iadd C dL_law_1115 ?_
  refine r_sld C hsc dL_law_1116 (by omega) ?_
  refine r_aload_n C dL_law_1117 rfl rfl ?_
  refine r_cW C hX.2 cwL_142 (lw_w (w_L_count hX.1 (by omega) ho (by omega) lw_g hw)) dL_law_1118 rfl rfl rfl (Nat.le_of_ble_eq_true rfl) ⟨Nat.le_of_ble_eq_true rfl, Nat.le_of_ble_eq_true rfl⟩ hc ?_
  refine r_istore C dL_law_1121 (Nat.le_of_ble_eq_true rfl) rfl ?_
  dsimp only [List.set]
  refine r_aload_n C dL_law_1123 rfl rfl ?_
  refine r_aload_n C dL_law_1124 rfl rfl ?_
  refine r_iload C dL_law_1125 rfl ?_
  refine r_iconst C dL_law_1127 ?_
  refine r_iadd C dL_law_1128 ?_
  refine r_sld C hsc dL_law_1129 (by omega) ?_
  refine r_cV C cwL_144 (lw_m (by decide) (c_X5_count (by omega) hs hw)) dL_law_1130 rfl (by omega) (lw_r5 (by decide)) rfl rfl rfl (Nat.le_of_ble_eq_true rfl) ⟨Nat.le_of_ble_eq_true rfl, Nat.le_of_ble_eq_true rfl⟩ hc ?_
  refine r_istore C dL_law_1133 (Nat.le_of_ble_eq_true rfl) rfl ?_
  dsimp only [List.set]
  refine r_aload_n C dL_law_1135 rfl rfl ?_
  refine r_cV C cwL_86 (lw_m (by decide) (c_X5_thrown (by omega))) dL_law_1136 rfl (by omega) (lw_r5 (by decide)) rfl rfl rfl (Nat.le_of_ble_eq_true rfl) ⟨Nat.le_of_ble_eq_true rfl, Nat.le_of_ble_eq_true rfl⟩ hc ?_
  rw [show (up v 6 0) 6 = 0 from rfl]
  refine r_iload C dL_law_1139 rfl ?_
  refine r_icmpE (tgt := 1146) C dL_law_1141 (by decide) ?_
  refine r_iload C dL_law_1146 rfl ?_
  refine r_ifne0 (tgt := 1163) C dL_law_1148 (by decide) ?_
  refine r_aload_n C dL_law_1151 rfl rfl ?_
  refine r_iconst C dL_law_1152 ?_
  refine r_lald C dL_law_1153 (by omega) lw_g2 (by omega) (by decide) ?_
  show V _ _ _ _ _ _ (.long (gI (cntX s (v 3) (xz (i + 1)))).toInt64 :: _) _ _ _
  refine r_iload C dL_law_1154 rfl ?_
  refine r_i2l C dL_law_1156 ?_
  refine r_lcmpE C dL_law_1157 ?_
  refine r_ifeq0 (tgt := 1163) C dL_law_1158 (by decide) ?_
  refine r_goto (tgt := 1415) C dL_law_1163 (by decide) ?_
  refine V_drop 5 ?_
  dsimp only [List.set]
  refine V_drop 6 ?_
  dsimp only [List.set]
  exact K _ _ _ _ _ _ _ _ _ _ _ ⟨ho, hh, rfl, rfl⟩

set_option maxRecDepth 100000 in
set_option maxHeartbeats 4000000 in
theorem lw_count_f1 {X : gT} {rt : Option FieldType} {kc kn : Nat} {Q : State → Prop} {ad : Int → Nat} {σ : Int → va_E} {b Ls : Nat} {xz : Int → Int} {i : Int} {s tx v t p q : Int → Int} {n k len : Int} {u : Int → Int → Int} {g : Nat → Int64} (C : gOk X cL_law 9 RL room_1 rt) (hX : gXk X) (hsc : gSc X b Ls xz) (hi : 0 ≤ i ∧ i + 3 ≤ Ls) (hc : kc + 1 ≤ 628140 ∧ kn + 6 ≤ 7211684) (I : LI s n k u len tx v p) (K : LK X ad σ Q kc kn b i) (hw : ¬ (0 ≤ xz (i + 1) ∧ xz (i + 1) < 12)) : V X kc kn Q 1110 (LL b ad i) [] ad 152 (LW ad (gty X) σ s n k u len tx v s t p tx q g) := by
  obtain ⟨ho, hh, hv3, hv5⟩ := I
  subst hv3 hv5
  have hs := ho.1
  have hn := ho.2.1
  have hxt := ho.2.2.2
  have hlen := hxt.1
  have hz1 := hsc.2.2 (i + 1)
  have hz2 := hsc.2.2 (i + 2)
  show V X kc kn Q 1110 [some (.ref b), some (.ref (ad 0)), some (.ref (ad 145)), some (.ref (ad 151)), some (.int (gI i)), none, none, none, none] [] ad 152 _
  refine r_aload_n C dL_law_1110 rfl rfl ?_
  refine r_aload_n C dL_law_1111 rfl rfl ?_
  refine r_iload C dL_law_1112 rfl ?_
  refine r_iconst C dL_law_1114 ?_
  refine r_iadd C dL_law_1115 ?_
  refine r_sld C hsc dL_law_1116 (by omega) ?_
  refine r_aload_n C dL_law_1117 rfl rfl ?_
  refine r_cW C hX.2 cwL_142 (w_L_count_f1 hX.1 (by omega) ho (by omega) lw_g hw hz1) dL_law_1118 rfl rfl rfl (Nat.le_of_ble_eq_true rfl) ⟨Nat.le_of_ble_eq_true rfl, Nat.le_of_ble_eq_true rfl⟩ hc ?_
  refine r_istore C dL_law_1121 (Nat.le_of_ble_eq_true rfl) rfl ?_
  dsimp only [List.set]
  refine r_aload_n C dL_law_1123 rfl rfl ?_
  refine r_aload_n C dL_law_1124 rfl rfl ?_
  refine r_iload C dL_law_1125 rfl ?_
  refine r_iconst C dL_law_1127 ?_
  refine r_iadd C dL_law_1128 ?_
  refine r_sld C hsc dL_law_1129 (by omega) ?_
  refine r_cV C cwL_144 (lw_m (by decide) (c_X5_count_f1 (by omega) hw hz1)) dL_law_1130 rfl (by omega) (lw_r5 (by decide)) rfl rfl rfl (Nat.le_of_ble_eq_true rfl) ⟨Nat.le_of_ble_eq_true rfl, Nat.le_of_ble_eq_true rfl⟩ hc ?_
  refine r_istore C dL_law_1133 (Nat.le_of_ble_eq_true rfl) rfl ?_
  dsimp only [List.set]
  refine r_aload_n C dL_law_1135 rfl rfl ?_
  refine r_cV C cwL_86 (lw_m (by decide) (c_X5_thrown (by omega))) dL_law_1136 rfl (by omega) (lw_r5 (by decide)) rfl rfl rfl (Nat.le_of_ble_eq_true rfl) ⟨Nat.le_of_ble_eq_true rfl, Nat.le_of_ble_eq_true rfl⟩ hc ?_
  rw [show (up v 6 1) 6 = 1 from rfl]
  refine r_iload C dL_law_1139 rfl ?_
  refine r_icmpE (tgt := 1146) C dL_law_1141 (by decide) ?_
  refine r_iload C dL_law_1146 rfl ?_
  refine r_ifneK (tgt := 1163) C dL_law_1148 (by decide) (by decide) ?_
  refine r_goto (tgt := 1415) C dL_law_1163 (by decide) ?_
  refine V_drop 5 ?_
  dsimp only [List.set]
  refine V_drop 6 ?_
  dsimp only [List.set]
  exact K _ _ _ _ _ _ _ _ _ _ _ ⟨ho, hh, rfl, rfl⟩

set_option maxRecDepth 100000 in
set_option maxHeartbeats 4000000 in
theorem lw_lasts {X : gT} {rt : Option FieldType} {kc kn : Nat} {Q : State → Prop} {ad : Int → Nat} {σ : Int → va_E} {b Ls : Nat} {xz : Int → Int} {i : Int} {s tx v t p q : Int → Int} {n k len : Int} {u : Int → Int → Int} {g : Nat → Int64} (C : gOk X cL_law 9 RL room_1 rt) (hX : gXk X) (hsc : gSc X b Ls xz) (hi : 0 ≤ i ∧ i + 3 ≤ Ls) (hc : kc + 1 ≤ 628140 ∧ kn + 6 ≤ 7211684) (I : LI s n k u len tx v p) (K : LK X ad σ Q kc kn b i) (hr : 0 ≤ xz (i + 1) ∧ xz (i + 1) < 6) : V X kc kn Q 1166 (LL b ad i) [] ad 152 (LW ad (gty X) σ s n k u len tx v s t p tx q g) := by
  obtain ⟨ho, hh, hv3, hv5⟩ := I
  subst hv3 hv5
  have hs := ho.1
  have hn := ho.2.1
  have hxt := ho.2.2.2
  have hlen := hxt.1
  have hz1 := hsc.2.2 (i + 1)
  have hz2 := hsc.2.2 (i + 2)
  show V X kc kn Q 1166 [some (.ref b), some (.ref (ad 0)), some (.ref (ad 145)), some (.ref (ad 151)), some (.int (gI i)), none, none, none, none] [] ad 152 _
  refine r_aload_n C dL_law_1166 rfl rfl ?_
  refine r_aload_n C dL_law_1167 rfl rfl ?_
  refine r_iload C dL_law_1168 rfl ?_
  refine r_iconst C dL_law_1170 ?_
  refine r_iadd C dL_law_1171 ?_
  refine r_sld C hsc dL_law_1172 (by omega) ?_
  refine r_aload_n C dL_law_1173 rfl rfl ?_
  refine r_cW C hX.2 cwL_145 (lw_w (w_L_lasts hX.1 (by omega) ho (by omega) lw_g hr)) dL_law_1174 rfl rfl rfl (Nat.le_of_ble_eq_true rfl) ⟨Nat.le_of_ble_eq_true rfl, Nat.le_of_ble_eq_true rfl⟩ hc ?_
  refine r_istore C dL_law_1177 (Nat.le_of_ble_eq_true rfl) rfl ?_
  dsimp only [List.set]
  refine r_aload_n C dL_law_1179 rfl rfl ?_
  refine r_aload_n C dL_law_1180 rfl rfl ?_
  refine r_iload C dL_law_1181 rfl ?_
  refine r_iconst C dL_law_1183 ?_
  refine r_iadd C dL_law_1184 ?_
  refine r_sld C hsc dL_law_1185 (by omega) ?_
  refine r_cV C cwL_147 (lw_m (by decide) (c_X5_lasts (by omega) hs hr)) dL_law_1186 rfl (by omega) (lw_r5 (by decide)) rfl rfl rfl (Nat.le_of_ble_eq_true rfl) ⟨Nat.le_of_ble_eq_true rfl, Nat.le_of_ble_eq_true rfl⟩ hc ?_
  refine r_istore C dL_law_1189 (Nat.le_of_ble_eq_true rfl) rfl ?_
  dsimp only [List.set]
  refine r_aload_n C dL_law_1191 rfl rfl ?_
  refine r_cV C cwL_86 (lw_m (by decide) (c_X5_thrown (by omega))) dL_law_1192 rfl (by omega) (lw_r5 (by decide)) rfl rfl rfl (Nat.le_of_ble_eq_true rfl) ⟨Nat.le_of_ble_eq_true rfl, Nat.le_of_ble_eq_true rfl⟩ hc ?_
  rw [show (up v 6 0) 6 = 0 from rfl]
  refine r_iload C dL_law_1195 rfl ?_
  refine r_icmpE (tgt := 1202) C dL_law_1197 (by decide) ?_
  refine r_iload C dL_law_1202 rfl ?_
  refine r_ifne0 (tgt := 1219) C dL_law_1204 (by decide) ?_
  refine r_aload_n C dL_law_1207 rfl rfl ?_
  refine r_iconst C dL_law_1208 ?_
  refine r_lald C dL_law_1209 (by omega) lw_g2 (by omega) (by decide) ?_
  show V _ _ _ _ _ _ (.long (gI (blit s (xz (i + 1)))).toInt64 :: _) _ _ _
  refine r_iload C dL_law_1210 rfl ?_
  refine r_i2l C dL_law_1212 ?_
  refine r_lcmpE C dL_law_1213 ?_
  refine r_ifeq0 (tgt := 1219) C dL_law_1214 (by decide) ?_
  refine r_goto (tgt := 1415) C dL_law_1219 (by decide) ?_
  refine V_drop 5 ?_
  dsimp only [List.set]
  refine V_drop 6 ?_
  dsimp only [List.set]
  exact K _ _ _ _ _ _ _ _ _ _ _ ⟨ho, hh, rfl, rfl⟩

set_option maxRecDepth 100000 in
set_option maxHeartbeats 4000000 in
theorem lw_lasts_f1 {X : gT} {rt : Option FieldType} {kc kn : Nat} {Q : State → Prop} {ad : Int → Nat} {σ : Int → va_E} {b Ls : Nat} {xz : Int → Int} {i : Int} {s tx v t p q : Int → Int} {n k len : Int} {u : Int → Int → Int} {g : Nat → Int64} (C : gOk X cL_law 9 RL room_1 rt) (hX : gXk X) (hsc : gSc X b Ls xz) (hi : 0 ≤ i ∧ i + 3 ≤ Ls) (hc : kc + 1 ≤ 628140 ∧ kn + 6 ≤ 7211684) (I : LI s n k u len tx v p) (K : LK X ad σ Q kc kn b i) (hnr : ¬ (0 ≤ xz (i + 1) ∧ xz (i + 1) < 6)) : V X kc kn Q 1166 (LL b ad i) [] ad 152 (LW ad (gty X) σ s n k u len tx v s t p tx q g) := by
  obtain ⟨ho, hh, hv3, hv5⟩ := I
  subst hv3 hv5
  have hs := ho.1
  have hn := ho.2.1
  have hxt := ho.2.2.2
  have hlen := hxt.1
  have hz1 := hsc.2.2 (i + 1)
  have hz2 := hsc.2.2 (i + 2)
  show V X kc kn Q 1166 [some (.ref b), some (.ref (ad 0)), some (.ref (ad 145)), some (.ref (ad 151)), some (.int (gI i)), none, none, none, none] [] ad 152 _
  refine r_aload_n C dL_law_1166 rfl rfl ?_
  refine r_aload_n C dL_law_1167 rfl rfl ?_
  refine r_iload C dL_law_1168 rfl ?_
  refine r_iconst C dL_law_1170 ?_
  refine r_iadd C dL_law_1171 ?_
  refine r_sld C hsc dL_law_1172 (by omega) ?_
  refine r_aload_n C dL_law_1173 rfl rfl ?_
  refine r_cW C hX.2 cwL_145 (w_L_lasts_f1 hX.1 (by omega) ho (by omega) lw_g hnr hz1) dL_law_1174 rfl rfl rfl (Nat.le_of_ble_eq_true rfl) ⟨Nat.le_of_ble_eq_true rfl, Nat.le_of_ble_eq_true rfl⟩ hc ?_
  refine r_istore C dL_law_1177 (Nat.le_of_ble_eq_true rfl) rfl ?_
  dsimp only [List.set]
  refine r_aload_n C dL_law_1179 rfl rfl ?_
  refine r_aload_n C dL_law_1180 rfl rfl ?_
  refine r_iload C dL_law_1181 rfl ?_
  refine r_iconst C dL_law_1183 ?_
  refine r_iadd C dL_law_1184 ?_
  refine r_sld C hsc dL_law_1185 (by omega) ?_
  refine r_cV C cwL_147 (lw_m (by decide) (c_X5_lasts_f1 (by omega) hnr hz1)) dL_law_1186 rfl (by omega) (lw_r5 (by decide)) rfl rfl rfl (Nat.le_of_ble_eq_true rfl) ⟨Nat.le_of_ble_eq_true rfl, Nat.le_of_ble_eq_true rfl⟩ hc ?_
  refine r_istore C dL_law_1189 (Nat.le_of_ble_eq_true rfl) rfl ?_
  dsimp only [List.set]
  refine r_aload_n C dL_law_1191 rfl rfl ?_
  refine r_cV C cwL_86 (lw_m (by decide) (c_X5_thrown (by omega))) dL_law_1192 rfl (by omega) (lw_r5 (by decide)) rfl rfl rfl (Nat.le_of_ble_eq_true rfl) ⟨Nat.le_of_ble_eq_true rfl, Nat.le_of_ble_eq_true rfl⟩ hc ?_
  rw [show (up v 6 1) 6 = 1 from rfl]
  refine r_iload C dL_law_1195 rfl ?_
  refine r_icmpE (tgt := 1202) C dL_law_1197 (by decide) ?_
  refine r_iload C dL_law_1202 rfl ?_
  refine r_ifneK (tgt := 1219) C dL_law_1204 (by decide) (by decide) ?_
  refine r_goto (tgt := 1415) C dL_law_1219 (by decide) ?_
  refine V_drop 5 ?_
  dsimp only [List.set]
  refine V_drop 6 ?_
  dsimp only [List.set]
  exact K _ _ _ _ _ _ _ _ _ _ _ ⟨ho, hh, rfl, rfl⟩

set_option maxRecDepth 100000 in
set_option maxHeartbeats 4000000 in
theorem lw_carried {X : gT} {rt : Option FieldType} {kc kn : Nat} {Q : State → Prop} {ad : Int → Nat} {σ : Int → va_E} {b Ls : Nat} {xz : Int → Int} {i : Int} {s tx v t p q : Int → Int} {n k len : Int} {u : Int → Int → Int} {g : Nat → Int64} (C : gOk X cL_law 9 RL room_1 rt) (hX : gXk X) (hsc : gSc X b Ls xz) (hi : 0 ≤ i ∧ i + 3 ≤ Ls) (hc : kc + 1 ≤ 628140 ∧ kn + 6 ≤ 7211684) (I : LI s n k u len tx v p) (K : LK X ad σ Q kc kn b i) (hr : 0 ≤ xz (i + 1) ∧ xz (i + 1) < 6) : V X kc kn Q 1235 (LL b ad i) [] ad 152 (LW ad (gty X) σ s n k u len tx v s t p tx q g) := by
  obtain ⟨ho, hh, hv3, hv5⟩ := I
  subst hv3 hv5
  have hs := ho.1
  have hn := ho.2.1
  have hxt := ho.2.2.2
  have hlen := hxt.1
  have hz1 := hsc.2.2 (i + 1)
  have hz2 := hsc.2.2 (i + 2)
  show V X kc kn Q 1235 [some (.ref b), some (.ref (ad 0)), some (.ref (ad 145)), some (.ref (ad 151)), some (.int (gI i)), none, none, none, none] [] ad 152 _
  refine r_aload_n C dL_law_1235 rfl rfl ?_
  refine r_aload_n C dL_law_1236 rfl rfl ?_
  refine r_iload C dL_law_1237 rfl ?_
  refine r_iconst C dL_law_1239 ?_
  refine r_iadd C dL_law_1240 ?_
  refine r_sld C hsc dL_law_1241 (by omega) ?_
  refine r_aload_n C dL_law_1242 rfl rfl ?_
  refine r_cW C hX.2 cwL_152 (lw_w (w_L_carried hX.1 (by omega) ho (by omega) lw_g hr)) dL_law_1243 rfl rfl rfl (Nat.le_of_ble_eq_true rfl) ⟨Nat.le_of_ble_eq_true rfl, Nat.le_of_ble_eq_true rfl⟩ hc ?_
  refine r_istore C dL_law_1246 (Nat.le_of_ble_eq_true rfl) rfl ?_
  dsimp only [List.set]
  refine r_aload_n C dL_law_1248 rfl rfl ?_
  refine r_aload_n C dL_law_1249 rfl rfl ?_
  refine r_iload C dL_law_1250 rfl ?_
  refine r_iconst C dL_law_1252 ?_
  refine r_iadd C dL_law_1253 ?_
  refine r_sld C hsc dL_law_1254 (by omega) ?_
  refine r_cV C cwL_154 (lw_m (by decide) (c_X5_carried (by omega) hs hr)) dL_law_1255 rfl (by omega) (lw_r5 (by decide)) rfl rfl rfl (Nat.le_of_ble_eq_true rfl) ⟨Nat.le_of_ble_eq_true rfl, Nat.le_of_ble_eq_true rfl⟩ hc ?_
  refine r_istore C dL_law_1258 (Nat.le_of_ble_eq_true rfl) rfl ?_
  dsimp only [List.set]
  refine r_aload_n C dL_law_1260 rfl rfl ?_
  refine r_cV C cwL_86 (lw_m (by decide) (c_X5_thrown (by omega))) dL_law_1261 rfl (by omega) (lw_r5 (by decide)) rfl rfl rfl (Nat.le_of_ble_eq_true rfl) ⟨Nat.le_of_ble_eq_true rfl, Nat.le_of_ble_eq_true rfl⟩ hc ?_
  rw [show (up v 6 0) 6 = 0 from rfl]
  refine r_iload C dL_law_1264 rfl ?_
  refine r_icmpE (tgt := 1271) C dL_law_1266 (by decide) ?_
  refine r_iload C dL_law_1271 rfl ?_
  refine r_ifne0 (tgt := 1288) C dL_law_1273 (by decide) ?_
  refine r_aload_n C dL_law_1276 rfl rfl ?_
  refine r_iconst C dL_law_1277 ?_
  refine r_lald C dL_law_1278 (by omega) lw_g2 (by omega) (by decide) ?_
  show V _ _ _ _ _ _ (.long (gI (toL s (xz (i + 1)))).toInt64 :: _) _ _ _
  refine r_iload C dL_law_1279 rfl ?_
  refine r_i2l C dL_law_1281 ?_
  refine r_lcmpE C dL_law_1282 ?_
  refine r_ifeq0 (tgt := 1288) C dL_law_1283 (by decide) ?_
  refine r_goto (tgt := 1415) C dL_law_1288 (by decide) ?_
  refine V_drop 5 ?_
  dsimp only [List.set]
  refine V_drop 6 ?_
  dsimp only [List.set]
  exact K _ _ _ _ _ _ _ _ _ _ _ ⟨ho, hh, rfl, rfl⟩

set_option maxRecDepth 100000 in
set_option maxHeartbeats 4000000 in
theorem lw_carried_f1 {X : gT} {rt : Option FieldType} {kc kn : Nat} {Q : State → Prop} {ad : Int → Nat} {σ : Int → va_E} {b Ls : Nat} {xz : Int → Int} {i : Int} {s tx v t p q : Int → Int} {n k len : Int} {u : Int → Int → Int} {g : Nat → Int64} (C : gOk X cL_law 9 RL room_1 rt) (hX : gXk X) (hsc : gSc X b Ls xz) (hi : 0 ≤ i ∧ i + 3 ≤ Ls) (hc : kc + 1 ≤ 628140 ∧ kn + 6 ≤ 7211684) (I : LI s n k u len tx v p) (K : LK X ad σ Q kc kn b i) (hnr : ¬ (0 ≤ xz (i + 1) ∧ xz (i + 1) < 6)) : V X kc kn Q 1235 (LL b ad i) [] ad 152 (LW ad (gty X) σ s n k u len tx v s t p tx q g) := by
  obtain ⟨ho, hh, hv3, hv5⟩ := I
  subst hv3 hv5
  have hs := ho.1
  have hn := ho.2.1
  have hxt := ho.2.2.2
  have hlen := hxt.1
  have hz1 := hsc.2.2 (i + 1)
  have hz2 := hsc.2.2 (i + 2)
  show V X kc kn Q 1235 [some (.ref b), some (.ref (ad 0)), some (.ref (ad 145)), some (.ref (ad 151)), some (.int (gI i)), none, none, none, none] [] ad 152 _
  refine r_aload_n C dL_law_1235 rfl rfl ?_
  refine r_aload_n C dL_law_1236 rfl rfl ?_
  refine r_iload C dL_law_1237 rfl ?_
  refine r_iconst C dL_law_1239 ?_
  refine r_iadd C dL_law_1240 ?_
  refine r_sld C hsc dL_law_1241 (by omega) ?_
  refine r_aload_n C dL_law_1242 rfl rfl ?_
  refine r_cW C hX.2 cwL_152 (w_L_carried_f1 hX.1 (by omega) ho (by omega) lw_g hnr hz1) dL_law_1243 rfl rfl rfl (Nat.le_of_ble_eq_true rfl) ⟨Nat.le_of_ble_eq_true rfl, Nat.le_of_ble_eq_true rfl⟩ hc ?_
  refine r_istore C dL_law_1246 (Nat.le_of_ble_eq_true rfl) rfl ?_
  dsimp only [List.set]
  refine r_aload_n C dL_law_1248 rfl rfl ?_
  refine r_aload_n C dL_law_1249 rfl rfl ?_
  refine r_iload C dL_law_1250 rfl ?_
  refine r_iconst C dL_law_1252 ?_
  refine r_iadd C dL_law_1253 ?_
  refine r_sld C hsc dL_law_1254 (by omega) ?_
  refine r_cV C cwL_154 (lw_m (by decide) (c_X5_carried_f1 (by omega) hnr hz1)) dL_law_1255 rfl (by omega) (lw_r5 (by decide)) rfl rfl rfl (Nat.le_of_ble_eq_true rfl) ⟨Nat.le_of_ble_eq_true rfl, Nat.le_of_ble_eq_true rfl⟩ hc ?_
  refine r_istore C dL_law_1258 (Nat.le_of_ble_eq_true rfl) rfl ?_
  dsimp only [List.set]
  refine r_aload_n C dL_law_1260 rfl rfl ?_
  refine r_cV C cwL_86 (lw_m (by decide) (c_X5_thrown (by omega))) dL_law_1261 rfl (by omega) (lw_r5 (by decide)) rfl rfl rfl (Nat.le_of_ble_eq_true rfl) ⟨Nat.le_of_ble_eq_true rfl, Nat.le_of_ble_eq_true rfl⟩ hc ?_
  rw [show (up v 6 1) 6 = 1 from rfl]
  refine r_iload C dL_law_1264 rfl ?_
  refine r_icmpE (tgt := 1271) C dL_law_1266 (by decide) ?_
  refine r_iload C dL_law_1271 rfl ?_
  refine r_ifneK (tgt := 1288) C dL_law_1273 (by decide) (by decide) ?_
  refine r_goto (tgt := 1415) C dL_law_1288 (by decide) ?_
  refine V_drop 5 ?_
  dsimp only [List.set]
  refine V_drop 6 ?_
  dsimp only [List.set]
  exact K _ _ _ _ _ _ _ _ _ _ _ ⟨ho, hh, rfl, rfl⟩

set_option maxRecDepth 100000 in
set_option maxHeartbeats 4000000 in
theorem lw_saves {X : gT} {rt : Option FieldType} {kc kn : Nat} {Q : State → Prop} {ad : Int → Nat} {σ : Int → va_E} {b Ls : Nat} {xz : Int → Int} {i : Int} {s tx v t p q : Int → Int} {n k len : Int} {u : Int → Int → Int} {g : Nat → Int64} (C : gOk X cL_law 9 RL room_1 rt) (hX : gXk X) (hsc : gSc X b Ls xz) (hi : 0 ≤ i ∧ i + 3 ≤ Ls) (hc : kc + 1 ≤ 628140 ∧ kn + 6 ≤ 7211684) (I : LI s n k u len tx v p) (K : LK X ad σ Q kc kn b i) (hr : 0 ≤ xz (i + 1) ∧ xz (i + 1) < 6) : V X kc kn Q 1304 (LL b ad i) [] ad 152 (LW ad (gty X) σ s n k u len tx v s t p tx q g) := by
  obtain ⟨ho, hh, hv3, hv5⟩ := I
  subst hv3 hv5
  have hs := ho.1
  have hn := ho.2.1
  have hxt := ho.2.2.2
  have hlen := hxt.1
  have hz1 := hsc.2.2 (i + 1)
  have hz2 := hsc.2.2 (i + 2)
  show V X kc kn Q 1304 [some (.ref b), some (.ref (ad 0)), some (.ref (ad 145)), some (.ref (ad 151)), some (.int (gI i)), none, none, none, none] [] ad 152 _
  refine r_aload_n C dL_law_1304 rfl rfl ?_
  refine r_aload_n C dL_law_1305 rfl rfl ?_
  refine r_iload C dL_law_1306 rfl ?_
  refine r_iconst C dL_law_1308 ?_
  refine r_iadd C dL_law_1309 ?_
  refine r_sld C hsc dL_law_1310 (by omega) ?_
  refine r_aload_n C dL_law_1311 rfl rfl ?_
  refine r_cW C hX.2 cwL_159 (lw_w (w_L_saves hX.1 (by omega) ho (by omega) lw_g hr)) dL_law_1312 rfl rfl rfl (Nat.le_of_ble_eq_true rfl) ⟨Nat.le_of_ble_eq_true rfl, Nat.le_of_ble_eq_true rfl⟩ hc ?_
  refine r_istore C dL_law_1315 (Nat.le_of_ble_eq_true rfl) rfl ?_
  dsimp only [List.set]
  refine r_aload_n C dL_law_1317 rfl rfl ?_
  refine r_aload_n C dL_law_1318 rfl rfl ?_
  refine r_iload C dL_law_1319 rfl ?_
  refine r_iconst C dL_law_1321 ?_
  refine r_iadd C dL_law_1322 ?_
  refine r_sld C hsc dL_law_1323 (by omega) ?_
  refine r_cV C cwL_161 (lw_m (by decide) (c_X5_saves (by omega) hs hr)) dL_law_1324 rfl (by omega) (lw_r5 (by decide)) rfl rfl rfl (Nat.le_of_ble_eq_true rfl) ⟨Nat.le_of_ble_eq_true rfl, Nat.le_of_ble_eq_true rfl⟩ hc ?_
  refine r_istore C dL_law_1327 (Nat.le_of_ble_eq_true rfl) rfl ?_
  dsimp only [List.set]
  refine r_aload_n C dL_law_1329 rfl rfl ?_
  refine r_cV C cwL_86 (lw_m (by decide) (c_X5_thrown (by omega))) dL_law_1330 rfl (by omega) (lw_r5 (by decide)) rfl rfl rfl (Nat.le_of_ble_eq_true rfl) ⟨Nat.le_of_ble_eq_true rfl, Nat.le_of_ble_eq_true rfl⟩ hc ?_
  rw [show (up v 6 0) 6 = 0 from rfl]
  refine r_iload C dL_law_1333 rfl ?_
  refine r_icmpE (tgt := 1340) C dL_law_1335 (by decide) ?_
  refine r_iload C dL_law_1340 rfl ?_
  refine r_ifne0 (tgt := 1357) C dL_law_1342 (by decide) ?_
  refine r_aload_n C dL_law_1345 rfl rfl ?_
  refine r_iconst C dL_law_1346 ?_
  refine r_lald C dL_law_1347 (by omega) lw_g2 (by omega) (by decide) ?_
  show V _ _ _ _ _ _ (.long (gI (savR (rm s (xz (i + 1))))).toInt64 :: _) _ _ _
  refine r_iload C dL_law_1348 rfl ?_
  refine r_i2l C dL_law_1350 ?_
  refine r_lcmpE C dL_law_1351 ?_
  refine r_ifeq0 (tgt := 1357) C dL_law_1352 (by decide) ?_
  refine r_goto (tgt := 1415) C dL_law_1357 (by decide) ?_
  refine V_drop 5 ?_
  dsimp only [List.set]
  refine V_drop 6 ?_
  dsimp only [List.set]
  exact K _ _ _ _ _ _ _ _ _ _ _ ⟨ho, hh, rfl, rfl⟩

set_option maxRecDepth 100000 in
set_option maxHeartbeats 4000000 in
theorem lw_saves_f1 {X : gT} {rt : Option FieldType} {kc kn : Nat} {Q : State → Prop} {ad : Int → Nat} {σ : Int → va_E} {b Ls : Nat} {xz : Int → Int} {i : Int} {s tx v t p q : Int → Int} {n k len : Int} {u : Int → Int → Int} {g : Nat → Int64} (C : gOk X cL_law 9 RL room_1 rt) (hX : gXk X) (hsc : gSc X b Ls xz) (hi : 0 ≤ i ∧ i + 3 ≤ Ls) (hc : kc + 1 ≤ 628140 ∧ kn + 6 ≤ 7211684) (I : LI s n k u len tx v p) (K : LK X ad σ Q kc kn b i) (hnr : ¬ (0 ≤ xz (i + 1) ∧ xz (i + 1) < 6)) : V X kc kn Q 1304 (LL b ad i) [] ad 152 (LW ad (gty X) σ s n k u len tx v s t p tx q g) := by
  obtain ⟨ho, hh, hv3, hv5⟩ := I
  subst hv3 hv5
  have hs := ho.1
  have hn := ho.2.1
  have hxt := ho.2.2.2
  have hlen := hxt.1
  have hz1 := hsc.2.2 (i + 1)
  have hz2 := hsc.2.2 (i + 2)
  show V X kc kn Q 1304 [some (.ref b), some (.ref (ad 0)), some (.ref (ad 145)), some (.ref (ad 151)), some (.int (gI i)), none, none, none, none] [] ad 152 _
  refine r_aload_n C dL_law_1304 rfl rfl ?_
  refine r_aload_n C dL_law_1305 rfl rfl ?_
  refine r_iload C dL_law_1306 rfl ?_
  refine r_iconst C dL_law_1308 ?_
  refine r_iadd C dL_law_1309 ?_
  refine r_sld C hsc dL_law_1310 (by omega) ?_
  refine r_aload_n C dL_law_1311 rfl rfl ?_
  refine r_cW C hX.2 cwL_159 (w_L_saves_f1 hX.1 (by omega) ho (by omega) lw_g hnr hz1) dL_law_1312 rfl rfl rfl (Nat.le_of_ble_eq_true rfl) ⟨Nat.le_of_ble_eq_true rfl, Nat.le_of_ble_eq_true rfl⟩ hc ?_
  refine r_istore C dL_law_1315 (Nat.le_of_ble_eq_true rfl) rfl ?_
  dsimp only [List.set]
  refine r_aload_n C dL_law_1317 rfl rfl ?_
  refine r_aload_n C dL_law_1318 rfl rfl ?_
  refine r_iload C dL_law_1319 rfl ?_
  refine r_iconst C dL_law_1321 ?_
  refine r_iadd C dL_law_1322 ?_
  refine r_sld C hsc dL_law_1323 (by omega) ?_
  refine r_cV C cwL_161 (lw_m (by decide) (c_X5_saves_f1 (by omega) hnr hz1)) dL_law_1324 rfl (by omega) (lw_r5 (by decide)) rfl rfl rfl (Nat.le_of_ble_eq_true rfl) ⟨Nat.le_of_ble_eq_true rfl, Nat.le_of_ble_eq_true rfl⟩ hc ?_
  refine r_istore C dL_law_1327 (Nat.le_of_ble_eq_true rfl) rfl ?_
  dsimp only [List.set]
  refine r_aload_n C dL_law_1329 rfl rfl ?_
  refine r_cV C cwL_86 (lw_m (by decide) (c_X5_thrown (by omega))) dL_law_1330 rfl (by omega) (lw_r5 (by decide)) rfl rfl rfl (Nat.le_of_ble_eq_true rfl) ⟨Nat.le_of_ble_eq_true rfl, Nat.le_of_ble_eq_true rfl⟩ hc ?_
  rw [show (up v 6 1) 6 = 1 from rfl]
  refine r_iload C dL_law_1333 rfl ?_
  refine r_icmpE (tgt := 1340) C dL_law_1335 (by decide) ?_
  refine r_iload C dL_law_1340 rfl ?_
  refine r_ifneK (tgt := 1357) C dL_law_1342 (by decide) (by decide) ?_
  refine r_goto (tgt := 1415) C dL_law_1357 (by decide) ?_
  refine V_drop 5 ?_
  dsimp only [List.set]
  refine V_drop 6 ?_
  dsimp only [List.set]
  exact K _ _ _ _ _ _ _ _ _ _ _ ⟨ho, hh, rfl, rfl⟩

set_option maxRecDepth 100000 in
set_option maxHeartbeats 4000000 in
theorem lw_nextForgotten {X : gT} {rt : Option FieldType} {kc kn : Nat} {Q : State → Prop} {ad : Int → Nat} {σ : Int → va_E} {b Ls : Nat} {xz : Int → Int} {i : Int} {s tx v t p q : Int → Int} {n k len : Int} {u : Int → Int → Int} {g : Nat → Int64} (C : gOk X cL_law 9 RL room_1 rt) (hX : gXk X) (hsc : gSc X b Ls xz) (hi : 0 ≤ i ∧ i + 3 ≤ Ls) (hc : kc + 1 ≤ 628140 ∧ kn + 6 ≤ 7211684) (I : LI s n k u len tx v p) (K : LK X ad σ Q kc kn b i)  : V X kc kn Q 1222 (LL b ad i) [] ad 152 (LW ad (gty X) σ s n k u len tx v s t p tx q g) := by
  obtain ⟨ho, hh, hv3, hv5⟩ := I
  subst hv3 hv5
  have hs := ho.1
  have hn := ho.2.1
  have hxt := ho.2.2.2
  have hlen := hxt.1
  have hz1 := hsc.2.2 (i + 1)
  have hz2 := hsc.2.2 (i + 2)
  show V X kc kn Q 1222 [some (.ref b), some (.ref (ad 0)), some (.ref (ad 145)), some (.ref (ad 151)), some (.int (gI i)), none, none, none, none] [] ad 152 _
  refine r_aload_n C dL_law_1222 rfl rfl ?_
  refine r_cV C cwL_148 (c_X4_nextForgotten (by omega) ho) dL_law_1223 rfl (by omega) xput_0 rfl rfl rfl (Nat.le_of_ble_eq_true rfl) ⟨Nat.le_of_ble_eq_true rfl, Nat.le_of_ble_eq_true rfl⟩ ⟨Nat.le_trans (Nat.le_add_right _ _) hc.1, Nat.le_trans (Nat.le_add_right _ _) hc.2⟩ ?_
  refine r_aload_n C dL_law_1226 rfl rfl ?_
  refine r_cV C cwL_151 (lw_m (by decide) (c_X5_nextForgotten (by omega) hs)) dL_law_1227 rfl (by omega) (lw_r5 (by decide)) rfl rfl rfl (Nat.le_of_ble_eq_true rfl) ⟨Nat.le_of_ble_eq_true rfl, Nat.le_of_ble_eq_true rfl⟩ ⟨Nat.le_trans (Nat.le_add_right _ _) hc.1, Nat.le_trans (Nat.le_add_right _ _) hc.2⟩ ?_
  refine r_icmpE (tgt := 1415) C dL_law_1230 (by decide) ?_
  refine r_wid (k2 := kc + 1) (n2 := kn + 6) (by omega) (by omega) ?_
  exact K _ _ _ _ _ _ _ _ _ _ _ ⟨ho, hh, rfl, rfl⟩

set_option maxRecDepth 100000 in
set_option maxHeartbeats 4000000 in
theorem lw_needy {X : gT} {rt : Option FieldType} {kc kn : Nat} {Q : State → Prop} {ad : Int → Nat} {σ : Int → va_E} {b Ls : Nat} {xz : Int → Int} {i : Int} {s tx v t p q : Int → Int} {n k len : Int} {u : Int → Int → Int} {g : Nat → Int64} (C : gOk X cL_law 9 RL room_1 rt) (hX : gXk X) (hsc : gSc X b Ls xz) (hi : 0 ≤ i ∧ i + 3 ≤ Ls) (hc : kc + 1 ≤ 628140 ∧ kn + 6 ≤ 7211684) (I : LI s n k u len tx v p) (K : LK X ad σ Q kc kn b i)  : V X kc kn Q 1291 (LL b ad i) [] ad 152 (LW ad (gty X) σ s n k u len tx v s t p tx q g) := by
  obtain ⟨ho, hh, hv3, hv5⟩ := I
  subst hv3 hv5
  have hs := ho.1
  have hn := ho.2.1
  have hxt := ho.2.2.2
  have hlen := hxt.1
  have hz1 := hsc.2.2 (i + 1)
  have hz2 := hsc.2.2 (i + 2)
  show V X kc kn Q 1291 [some (.ref b), some (.ref (ad 0)), some (.ref (ad 145)), some (.ref (ad 151)), some (.int (gI i)), none, none, none, none] [] ad 152 _
  refine r_aload_n C dL_law_1291 rfl rfl ?_
  refine r_cV C cwL_155 (c_X4_needy (by omega) ho) dL_law_1292 rfl (by omega) xput_0 rfl rfl rfl (Nat.le_of_ble_eq_true rfl) ⟨Nat.le_of_ble_eq_true rfl, Nat.le_of_ble_eq_true rfl⟩ ⟨Nat.le_trans (Nat.le_add_right _ _) hc.1, Nat.le_trans (Nat.le_add_right _ _) hc.2⟩ ?_
  refine r_aload_n C dL_law_1295 rfl rfl ?_
  refine r_cV C cwL_158 (lw_m (by decide) (c_X5_needy (by omega) hs)) dL_law_1296 rfl (by omega) (lw_r5 (by decide)) rfl rfl rfl (Nat.le_of_ble_eq_true rfl) ⟨Nat.le_of_ble_eq_true rfl, Nat.le_of_ble_eq_true rfl⟩ ⟨Nat.le_trans (Nat.le_add_right _ _) hc.1, Nat.le_trans (Nat.le_add_right _ _) hc.2⟩ ?_
  refine r_icmpE (tgt := 1415) C dL_law_1299 (by decide) ?_
  refine r_wid (k2 := kc + 1) (n2 := kn + 6) (by omega) (by omega) ?_
  exact K _ _ _ _ _ _ _ _ _ _ _ ⟨ho, hh, rfl, rfl⟩

set_option maxRecDepth 100000 in
set_option maxHeartbeats 4000000 in
theorem lw_lit {X : gT} {rt : Option FieldType} {kc kn : Nat} {Q : State → Prop} {ad : Int → Nat} {σ : Int → va_E} {b Ls : Nat} {xz : Int → Int} {i : Int} {s tx v t p q : Int → Int} {n k len : Int} {u : Int → Int → Int} {g : Nat → Int64} (C : gOk X cL_law 9 RL room_1 rt) (hX : gXk X) (hsc : gSc X b Ls xz) (hi : 0 ≤ i ∧ i + 3 ≤ Ls) (hc : kc + 1 ≤ 628140 ∧ kn + 6 ≤ 7211684) (I : LI s n k u len tx v p) (K : LK X ad σ Q kc kn b i)  : V X kc kn Q 1360 (LL b ad i) [] ad 152 (LW ad (gty X) σ s n k u len tx v s t p tx q g) := by
  obtain ⟨ho, hh, hv3, hv5⟩ := I
  subst hv3 hv5
  have hs := ho.1
  have hn := ho.2.1
  have hxt := ho.2.2.2
  have hlen := hxt.1
  have hz1 := hsc.2.2 (i + 1)
  have hz2 := hsc.2.2 (i + 2)
  have hsh := shOk_n (share_ok hs)
  show V X kc kn Q 1360 [some (.ref b), some (.ref (ad 0)), some (.ref (ad 145)), some (.ref (ad 151)), some (.int (gI i)), none, none, none, none] [] ad 152 _
  refine r_aload_n C dL_law_1360 rfl rfl ?_
  refine r_cV C cwL_162 (c_X4_lit (by omega) ho) dL_law_1361 rfl (by omega) xput_0 rfl rfl rfl (Nat.le_of_ble_eq_true rfl) ⟨Nat.le_of_ble_eq_true rfl, Nat.le_of_ble_eq_true rfl⟩ ⟨Nat.le_trans (Nat.le_add_right _ _) hc.1, Nat.le_trans (Nat.le_add_right _ _) hc.2⟩ ?_
  refine r_dstore C dL_law_1364 (Nat.le_of_ble_eq_true rfl) rfl ?_
  dsimp only [List.set]
  refine r_aload_n C dL_law_1366 rfl rfl ?_
  refine r_cV C cwL_166 (lw_m (by decide) (c_X5_lit (by omega) hs)) dL_law_1367 rfl (by omega) (lw_r5 (by decide)) rfl rfl rfl (Nat.le_of_ble_eq_true rfl) ⟨Nat.le_of_ble_eq_true rfl, Nat.le_of_ble_eq_true rfl⟩ ⟨Nat.le_trans (Nat.le_add_right _ _) hc.1, Nat.le_trans (Nat.le_add_right _ _) hc.2⟩ ?_
  refine r_dstore C dL_law_1370 (Nat.le_of_ble_eq_true rfl) rfl ?_
  dsimp only [List.set]
  refine r_dload C dL_law_1372 rfl ?_
  refine r_dload C dL_law_1374 rfl ?_
  refine r_dcmp C dL_law_1376 ?_
  rw [hsh.1]
  refine r_ifeq0 (tgt := 1398) C dL_law_1377 (by decide) ?_
  refine r_goto (tgt := 1415) C dL_law_1398 (by decide) ?_
  refine V_drop 5 ?_
  dsimp only [List.set]
  refine V_drop 7 ?_
  dsimp only [List.set]
  refine r_wid (k2 := kc + 1) (n2 := kn + 6) (by omega) (by omega) ?_
  exact K _ _ _ _ _ _ _ _ _ _ _ ⟨ho, hh, rfl, rfl⟩

set_option maxRecDepth 100000 in
set_option maxHeartbeats 4000000 in
theorem lw_digest {X : gT} {rt : Option FieldType} {kc kn : Nat} {Q : State → Prop} {ad : Int → Nat} {σ : Int → va_E} {b Ls : Nat} {xz : Int → Int} {i : Int} {s tx v t p q : Int → Int} {n k len : Int} {u : Int → Int → Int} {g : Nat → Int64} (C : gOk X cL_law 9 RL room_1 rt) (hX : gXk X) (hsc : gSc X b Ls xz) (hi : 0 ≤ i ∧ i + 3 ≤ Ls) (hc : kc + 1 ≤ 628140 ∧ kn + 6 ≤ 7211684) (I : LI s n k u len tx v p) (K : LK X ad σ Q kc kn b i)  : V X kc kn Q 1401 (LL b ad i) [] ad 152 (LW ad (gty X) σ s n k u len tx v s t p tx q g) := by
  obtain ⟨ho, hh, hv3, hv5⟩ := I
  subst hv3 hv5
  have hs := ho.1
  have hn := ho.2.1
  have hxt := ho.2.2.2
  have hlen := hxt.1
  have hz1 := hsc.2.2 (i + 1)
  have hz2 := hsc.2.2 (i + 2)
  have hsh := shOk_n (share_ok hs)
  show V X kc kn Q 1401 [some (.ref b), some (.ref (ad 0)), some (.ref (ad 145)), some (.ref (ad 151)), some (.int (gI i)), none, none, none, none] [] ad 152 _
  refine r_aload_n C dL_law_1401 rfl rfl ?_
  refine r_cV C cwL_167 (c_X4_digest (by omega) ho hsh.2.2) dL_law_1402 rfl (by omega) xput_0 rfl rfl rfl (Nat.le_of_ble_eq_true rfl) ⟨Nat.le_of_ble_eq_true rfl, Nat.le_of_ble_eq_true rfl⟩ ⟨Nat.le_trans (Nat.le_add_right _ _) hc.1, Nat.le_trans (Nat.le_add_right _ _) hc.2⟩ ?_
  refine r_aload_n C dL_law_1405 rfl rfl ?_
  refine r_cV C cwL_171 (lw_m (by decide) (c_X5_digest (by omega) hs hxt)) dL_law_1406 rfl (by omega) (lw_r5 (by decide)) rfl rfl rfl (Nat.le_of_ble_eq_true rfl) ⟨Nat.le_of_ble_eq_true rfl, Nat.le_of_ble_eq_true rfl⟩ ⟨Nat.le_trans (Nat.le_add_right _ _) hc.1, Nat.le_trans (Nat.le_add_right _ _) hc.2⟩ ?_
  refine r_lcmpE C dL_law_1409 ?_
  refine r_ifeq0 (tgt := 1415) C dL_law_1410 (by decide) ?_
  refine r_wid (k2 := kc + 1) (n2 := kn + 6) (by omega) (by omega) ?_
  exact K _ _ _ _ _ _ _ _ _ _ _ ⟨ho, hh, rfl, rfl⟩

