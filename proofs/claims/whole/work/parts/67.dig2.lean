/-! digest: both sides -/
section XDH
variable {G : xx_G} {l : Launch} {A A' : xx_H} {n : Nat} {b bm bp bs bn ba : Nat} {vL nl : Nat → Int64} {M M' M1 P P' S S1 F FF F' R PS F2 D R0 T : xS} {len i j k q s e t d nt tok v m nw nb r cr w : Nat} {tk : Nat → Nat} {ru : xS → Nat → Nat → Int32} {sg : Nat → Option Nat}
/-- what the class's digest leaves -/
def dgX (b n : Nat) (ru : xS → Nat → Nat → Int32) (cr nw nb r len : Nat) (FF : xS) (A : xx_H) : xx_Q := fun x A' n' => n' = n ∧ x = .inl (some (.long (dgA FF nw nb cr len))) ∧ gI b ru cr nw nb r FF A' ∧ xx_same (b + 16) (b + 46) A A'
set_option maxHeartbeats 2000000 in
theorem c_X6_digest (hst : l.stackTraces = false) (hX : xx_w b (layX b) A) (hG : gI b ru cr nw nb r FF A) (hT : xx_w (b + 2) (layT sg (b + 2) T) A) (hlen : T.1 1 = nI len) : xx_C G l yX6_digest mX6_digest 4 93 0 0 [.ref b] A n (dgX b n ru cr nw nb r len FF A) := by
  obtain ⟨R, F, F2, PS, hR, hF, hF2, hP, hru, he, hok⟩ := hG
  have hn : F.1 0 = nI nw := hok.1.1
  have h12 := hok.1.2
  have hb : F.1 5 = nI nb := hok.2.1.1
  have h6 := hok.2.1.2
  obtain ⟨en, mt, hmt, hro, hrl⟩ := id hru
  refine J_C hst (by decide +kernel) rfl rfl rfl (Nat.le_of_ble_eq_true rfl) ?_
  show xx_J _ _ _ _ _ _ _ _ 0 [(0, _)] [] _ _ _ _
  refine J_ldc2 dX6_digest_0 kl_X6_212 ?_
  refine J_lstore_n (L' := [(1, _), (0, _)]) dX6_digest_3 rfl (by decide) rfl ?_
  refine J_lload_n dX6_digest_4 rfl rfl ?_
  refine J_ldc2 dX6_digest_5 kl_X6_214 ?_
  refine J_lmul dX6_digest_8 ?_
  refine J_aload_n dX6_digest_9 rfl rfl ?_
  refine J_callVr (As := []) dX6_digest_10 ml_X6_216 cal_X6_wrestlers im_X6_wrestlers se_X6_wrestlers (hX.at 0 rfl) rfl rfl rfl (Nat.le_of_ble_eq_true rfl) ⟨by decide, by decide⟩ ⟨by decide, by decide⟩ (c_X6_wrestlers hst hX hF hR hn h12 hb h6) ?_
  refine J_i2l dX6_digest_13 rfl ?_
  refine J_ladd dX6_digest_14 ?_
  refine J_lstore_n (L' := [(1, _), (0, _)]) dX6_digest_15 rfl (by decide) rfl ?_
  refine J_lload_n dX6_digest_16 rfl rfl ?_
  refine J_ldc2 dX6_digest_17 kl_X6_214 ?_
  refine J_lmul dX6_digest_20 ?_
  refine J_aload_n dX6_digest_21 rfl rfl ?_
  refine J_callVr (As := []) dX6_digest_22 ml_X6_218 cal_X6_wrestlersIn im_X6_wrestlersIn se_X6_wrestlersIn (hX.at 0 rfl) rfl rfl rfl (Nat.le_of_ble_eq_true rfl) ⟨by decide, by decide⟩ ⟨by decide, by decide⟩ (c_X6_wrestlersIn hst hX hF hR hn h12 hb h6) ?_
  refine J_i2l dX6_digest_25 rfl ?_
  refine J_ladd dX6_digest_26 ?_
  refine J_lstore_n (L' := [(1, _), (0, _)]) dX6_digest_27 rfl (by decide) rfl ?_
  refine J_lload_n dX6_digest_28 rfl rfl ?_
  refine J_ldc2 dX6_digest_29 kl_X6_214 ?_
  refine J_lmul dX6_digest_32 ?_
  refine J_aload_n dX6_digest_33 rfl rfl ?_
  refine J_callVr (As := []) dX6_digest_34 ml_X6_221 cal_X6_rules im_X6_rules se_X6_rules (hX.at 0 rfl) rfl rfl rfl (Nat.le_of_ble_eq_true rfl) ⟨by decide, by decide⟩ ⟨by decide, by decide⟩ (c_X6_rules hst hX hF hR hn h12 hb h6) ?_
  refine J_i2l dX6_digest_37 rfl ?_
  refine J_ladd dX6_digest_38 ?_
  refine J_lstore_n (L' := [(1, _), (0, _)]) dX6_digest_39 rfl (by decide) rfl ?_
  refine J_lload_n dX6_digest_40 rfl rfl ?_
  refine J_ldc2 dX6_digest_41 kl_X6_214 ?_
  refine J_lmul dX6_digest_44 ?_
  refine J_aload_n dX6_digest_45 rfl rfl ?_
  refine J_callVr (As := []) dX6_digest_46 ml_X6_223 cal_X6_rounds im_X6_rounds se_X6_rounds (hX.at 0 rfl) rfl rfl rfl (Nat.le_of_ble_eq_true rfl) ⟨by decide, by decide⟩ ⟨by decide, by decide⟩ (c_X6_rounds hst hX hF hR hn h12 hb h6) ?_
  refine J_i2l dX6_digest_49 rfl ?_
  refine J_ladd dX6_digest_50 ?_
  refine J_lstore_n (L' := [(1, _), (0, _)]) dX6_digest_51 rfl (by decide) rfl ?_
  refine J_lload_n dX6_digest_52 rfl rfl ?_
  refine J_ldc2 dX6_digest_53 kl_X6_214 ?_
  refine J_lmul dX6_digest_56 ?_
  refine J_aload_n dX6_digest_57 rfl rfl ?_
  refine J_callVr (As := []) dX6_digest_58 ml_X6_225 cal_X6_tapeBytes im_X6_tapeBytes se_X6_tapeBytes (hX.at 0 rfl) rfl rfl rfl (Nat.le_of_ble_eq_true rfl) ⟨by decide, by decide⟩ ⟨by decide, by decide⟩ (c_X6_tapeBytes hst hX hT) ?_
  refine J_i2l dX6_digest_61 rfl ?_
  refine J_ladd dX6_digest_62 ?_
  refine J_lstore_n (L' := [(1, _), (0, _)]) dX6_digest_63 rfl (by decide) rfl ?_
  refine J_lload_n dX6_digest_64 rfl rfl ?_
  refine J_ldc2 dX6_digest_65 kl_X6_214 ?_
  refine J_lmul dX6_digest_68 ?_
  refine J_aload_n dX6_digest_69 rfl rfl ?_
  refine J_callVr (As := []) dX6_digest_70 ml_X6_228 cal_X6_bouts im_X6_bouts se_X6_bouts (hX.at 0 rfl) rfl rfl rfl (Nat.le_of_ble_eq_true rfl) ⟨by decide, by decide⟩ ⟨by decide, by decide⟩ (c_X6_bouts hst hX hF hR hn h12 hb h6) ?_
  refine J_i2l dX6_digest_73 rfl ?_
  refine J_ladd dX6_digest_74 ?_
  refine J_lstore_n (L' := [(1, _), (0, _)]) dX6_digest_75 rfl (by decide) rfl ?_
  refine J_lload_n dX6_digest_76 rfl rfl ?_
  refine J_ldc2 dX6_digest_77 kl_X6_214 ?_
  refine J_lmul dX6_digest_80 ?_
  refine J_aload_n dX6_digest_81 rfl rfl ?_
  refine J_callVr (As := []) dX6_digest_82 ml_X6_230 cal_X6_openBouts im_X6_openBouts se_X6_openBouts (hX.at 0 rfl) rfl rfl rfl (Nat.le_of_ble_eq_true rfl) ⟨by decide, by decide⟩ ⟨by decide, by decide⟩ (c_X6_openBouts hst hX hF hR hn h12 hb h6) ?_
  refine J_i2l dX6_digest_85 rfl ?_
  refine J_ladd dX6_digest_86 ?_
  refine J_lstore_n (L' := [(1, _), (0, _)]) dX6_digest_87 rfl (by decide) rfl ?_
  refine J_aload_n dX6_digest_88 rfl rfl ?_
  refine J_getf dX6_digest_89 fl_X6_31 (hX.at 0 rfl) rfl ?_
  refine J_callVw (As := []) dX6_digest_92 ml_X6_120 cal_X0_putInOrder im_X0_putInOrder se_X0_putInOrder (hF.at 0 rfl) rfl rfl rfl (Nat.le_of_ble_eq_true rfl) ⟨by decide, by decide⟩ ⟨by decide, by decide⟩ (c_X0_putInOrder hst hF hn h12) (fun A1 hQ1 => ?_)
  obtain ⟨mp1, o1, ls1, wF1, sF1, hor1⟩ := hQ1
  have w1X := hX.s2 sF1 (m := 1) rfl (by omega)
  have w1R2 := hR.s2 sF1 (m := 6) rfl (by omega)
  have w1F2 := hF2.s2 sF1 (m := 9) rfl (by omega)
  have w1P := hP.s2 sF1 (m := 6) rfl (by omega)
  have w1T := hT.s2 sF1 (m := 5) rfl (by omega)
  have he1 := eqF.o78 (mp := mp1) (o := o1) (nw := nw) (nb := nb) (F := F)
  obtain ⟨F1, hF1e⟩ : ∃ F1, F1 = a_up (a_up F 8 mp1) 7 o1 := ⟨_, rfl⟩
  rw [← hF1e] at wF1 he1
  have hor1 : ordOf (f_R F1 nw) nw (F1.2 7) ls1 := by rw [hF1e]; exact hor1
  have hn1 : F1.1 0 = nI nw := by rw [hF1e]; exact hn
  have hb1 : F1.1 5 = nI nb := by rw [hF1e]; exact hb
  have hok1 := he1.symm.ok hok
  have heF := he1.trans he
  refine J_iconst (v := 0) dX6_digest_95 (by decide) ?_
  refine J_istore_n (L' := [(3, _), (1, _), (0, _)]) dX6_digest_96 rfl (by decide) rfl ?_
  have loop : ∀ i, i ≤ nw → ∀ (x : Int32) (y : Int64) , (x = nI i) → (y = dgN F1 nw (dgs (dgs (dgs (dgs (dgs (dgs (dgs 967 (F1.1 0)) (bx_sum (fun w => F1.2 2 (8 * 12 + w)) nw)) (nI cr)) (F1.1 1)) (nI len)) (F1.1 5)) (bx_sum (opn (F1.2 6)) nb)) i) → xx_J G l mX6_digest 4 93 0 0 (dgX b n ru cr nw nb r len FF A) 97 [(3, .int x), (1, .long y), (0, .ref b)] [] A1 n 0 0 := by
    refine xx_dn ?_ ?_
    · intro x  y   hx hy
      have ex : x.toInt = nw := by rw [hx]; exact i_n (by omega)
      have en : (F1.1 0).toInt = nw := by rw [hn1]; exact i_n (by omega)
      refine J_iload_n dX6_digest_97 rfl rfl ?_
      refine J_aload_n dX6_digest_98 rfl rfl ?_
      refine J_getf dX6_digest_99 fl_X6_31 (w1X.at 0 rfl) rfl ?_
      refine J_getf dX6_digest_102 fl_X6_93 (wF1.at 0 rfl) rfl ?_
      refine J_icmp_ge (tgt := 121) dX6_digest_105 rfl (fun h105 => ?_) (fun h105 => ?_)
      · refine J_iconst (v := 0) dX6_digest_121 (by decide) ?_
        refine J_istore_n (L' := [(3, _), (1, _), (0, _)]) dX6_digest_122 rfl (by decide) rfl ?_
        have loop2 : ∀ i, i ≤ nb → ∀ (x : Int32) (y : Int64) , (x = nI i) → (y = dgB F1 (dgN F1 nw (dgs (dgs (dgs (dgs (dgs (dgs (dgs 967 (F1.1 0)) (bx_sum (fun w => F1.2 2 (8 * 12 + w)) nw)) (nI cr)) (F1.1 1)) (nI len)) (F1.1 5)) (bx_sum (opn (F1.2 6)) nb)) nw) i) → xx_J G l mX6_digest 4 93 0 0 (dgX b n ru cr nw nb r len FF A) 123 [(3, .int x), (1, .long y), (0, .ref b)] [] A1 n 0 0 := by
          refine xx_dn ?_ ?_
          · intro x  y   hx hy
            have ex : x.toInt = nb := by rw [hx]; exact i_n (by omega)
            have en : (F1.1 5).toInt = nb := by rw [hb1]; exact i_n (by omega)
            refine J_iload_n dX6_digest_123 rfl rfl ?_
            refine J_aload_n dX6_digest_124 rfl rfl ?_
            refine J_getf dX6_digest_125 fl_X6_31 (w1X.at 0 rfl) rfl ?_
            refine J_getf dX6_digest_128 fl_X6_103 (wF1.at 0 rfl) rfl ?_
            refine J_icmp_ge (tgt := 188) dX6_digest_131 rfl (fun h131 => ?_) (fun h131 => ?_)
            · refine J_lload_n dX6_digest_188 rfl rfl ?_
              refine J_lreturn dX6_digest_189 rfl (by decide) (by decide) ?_
              exact ⟨rfl, by rw [hy, ← dgA_c heF]; rfl, ⟨_, _, _, _, w1R2, wF1, w1F2, w1P, hru, heF, hok1⟩, ((xx_same.rf (b := b + 16) (e := b + 46)).trans (sF1.wide (by omega) (by omega)))⟩
            · first | (exfalso; simp only [i_lt, i_le, i_eq, i_0, i_1, i_2, i_3, i_4, i_5, i_6, i_8, i_9, i_10, i_12, i_16, i_20, i_m1, i_400, i_2000] at h131; omega) | (exfalso; simp only [s_up, a_up, va_up, i_lt, i_le, i_eq, i_0, i_1, i_2, i_3, i_4, i_5, i_6, i_8, i_9, i_10, i_12, i_16, i_20, i_m1, i_400, i_2000, ↓reduceIte, Nat.reduceEqDiff] at h131; omega)
          · intro i hii ih x  y   hx hy
            have ex : x.toInt = i := by rw [hx]; exact i_n (by omega)
            have en : (F1.1 5).toInt = nb := by rw [hb1]; exact i_n (by omega)
            refine J_iload_n dX6_digest_123 rfl rfl ?_
            refine J_aload_n dX6_digest_124 rfl rfl ?_
            refine J_getf dX6_digest_125 fl_X6_31 (w1X.at 0 rfl) rfl ?_
            refine J_getf dX6_digest_128 fl_X6_103 (wF1.at 0 rfl) rfl ?_
            refine J_icmp_ge (tgt := 188) dX6_digest_131 rfl (fun h131 => ?_) (fun h131 => ?_)
            · first | (exfalso; simp only [i_lt, i_le, i_eq, i_0, i_1, i_2, i_3, i_4, i_5, i_6, i_8, i_9, i_10, i_12, i_16, i_20, i_m1, i_400, i_2000] at h131; omega) | (exfalso; simp only [s_up, a_up, va_up, i_lt, i_le, i_eq, i_0, i_1, i_2, i_3, i_4, i_5, i_6, i_8, i_9, i_10, i_12, i_16, i_20, i_m1, i_400, i_2000, ↓reduceIte, Nat.reduceEqDiff] at h131; omega)
            · refine J_lload_n dX6_digest_134 rfl rfl ?_
              refine J_ldc2 dX6_digest_135 kl_X6_214 ?_
              refine J_lmul dX6_digest_138 ?_
              refine J_aload_n dX6_digest_139 rfl rfl ?_
              refine J_getf dX6_digest_140 fl_X6_31 (w1X.at 0 rfl) rfl ?_
              refine J_iload_n dX6_digest_143 rfl rfl ?_
              refine J_callVr (As := [_]) dX6_digest_144 ml_X6_144 cal_X0_redIn im_X0_redIn se_X0_redIn (wF1.at 0 rfl) rfl rfl rfl (Nat.le_of_ble_eq_true rfl) ⟨by decide, by decide⟩ ⟨by decide, by decide⟩ (c_X0_redIn hst wF1 hb1 h6 hx hii) ?_
              refine J_i2l dX6_digest_147 rfl ?_
              refine J_ladd dX6_digest_148 ?_
              refine J_lstore_n (L' := [(1, _), (3, _), (0, _)]) dX6_digest_149 rfl (by decide) rfl ?_
              refine J_lload_n dX6_digest_150 rfl rfl ?_
              refine J_ldc2 dX6_digest_151 kl_X6_214 ?_
              refine J_lmul dX6_digest_154 ?_
              refine J_aload_n dX6_digest_155 rfl rfl ?_
              refine J_getf dX6_digest_156 fl_X6_31 (w1X.at 0 rfl) rfl ?_
              refine J_iload_n dX6_digest_159 rfl rfl ?_
              refine J_callVr (As := [_]) dX6_digest_160 ml_X6_147 cal_X0_blueIn im_X0_blueIn se_X0_blueIn (wF1.at 0 rfl) rfl rfl rfl (Nat.le_of_ble_eq_true rfl) ⟨by decide, by decide⟩ ⟨by decide, by decide⟩ (c_X0_blueIn hst wF1 hb1 h6 hx hii) ?_
              refine J_i2l dX6_digest_163 rfl ?_
              refine J_ladd dX6_digest_164 ?_
              refine J_lstore_n (L' := [(1, _), (3, _), (0, _)]) dX6_digest_165 rfl (by decide) rfl ?_
              refine J_lload_n dX6_digest_166 rfl rfl ?_
              refine J_ldc2 dX6_digest_167 kl_X6_214 ?_
              refine J_lmul dX6_digest_170 ?_
              refine J_aload_n dX6_digest_171 rfl rfl ?_
              refine J_getf dX6_digest_172 fl_X6_31 (w1X.at 0 rfl) rfl ?_
              refine J_iload_n dX6_digest_175 rfl rfl ?_
              refine J_callVr (As := [_]) dX6_digest_176 ml_X6_150 cal_X0_outcomeIn im_X0_outcomeIn se_X0_outcomeIn (wF1.at 0 rfl) rfl rfl rfl (Nat.le_of_ble_eq_true rfl) ⟨by decide, by decide⟩ ⟨by decide, by decide⟩ (c_X0_outcomeIn hst wF1 hb1 h6 hx hii) ?_
              refine J_i2l dX6_digest_179 rfl ?_
              refine J_ladd dX6_digest_180 ?_
              refine J_lstore_n (L' := [(1, _), (3, _), (0, _)]) dX6_digest_181 rfl (by decide) rfl ?_
              refine J_iinc (v := _ + 1) (L' := [(3, _), (1, _), (0, _)]) dX6_digest_182 rfl rfl (by decide) rfl ?_
              refine J_goto (tgt := 123) dX6_digest_185 rfl ?_
              refine xx_J.pick [0, 1, 2] rfl ?_
              exact ih _ _  (by rw [hx]; exact nI_1 i) (by rw [hy]; rfl)
        refine xx_J.pick [0, 1, 2] rfl ?_
        exact loop2 0 (by omega) _ _  rfl (by rw [hy]; rfl)
      · first | (exfalso; simp only [i_lt, i_le, i_eq, i_0, i_1, i_2, i_3, i_4, i_5, i_6, i_8, i_9, i_10, i_12, i_16, i_20, i_m1, i_400, i_2000] at h105; omega) | (exfalso; simp only [s_up, a_up, va_up, i_lt, i_le, i_eq, i_0, i_1, i_2, i_3, i_4, i_5, i_6, i_8, i_9, i_10, i_12, i_16, i_20, i_m1, i_400, i_2000, ↓reduceIte, Nat.reduceEqDiff] at h105; omega)
    · intro i hii ih x  y   hx hy
      subst hx
      have ex : (nI i).toInt = i := i_n (by omega)
      have en : (F1.1 0).toInt = nw := by rw [hn1]; exact i_n (by omega)
      refine J_iload_n dX6_digest_97 rfl rfl ?_
      refine J_aload_n dX6_digest_98 rfl rfl ?_
      refine J_getf dX6_digest_99 fl_X6_31 (w1X.at 0 rfl) rfl ?_
      refine J_getf dX6_digest_102 fl_X6_93 (wF1.at 0 rfl) rfl ?_
      refine J_icmp_ge (tgt := 121) dX6_digest_105 rfl (fun h105 => ?_) (fun h105 => ?_)
      · first | (exfalso; simp only [i_lt, i_le, i_eq, i_0, i_1, i_2, i_3, i_4, i_5, i_6, i_8, i_9, i_10, i_12, i_16, i_20, i_m1, i_400, i_2000] at h105; omega) | (exfalso; simp only [s_up, a_up, va_up, i_lt, i_le, i_eq, i_0, i_1, i_2, i_3, i_4, i_5, i_6, i_8, i_9, i_10, i_12, i_16, i_20, i_m1, i_400, i_2000, ↓reduceIte, Nat.reduceEqDiff] at h105; omega)
      · refine J_aload_n dX6_digest_108 rfl rfl ?_
        refine J_lload_n dX6_digest_109 rfl rfl ?_
        refine J_iload_n dX6_digest_110 rfl rfl ?_
        refine J_callVr (As := [_, _]) dX6_digest_111 ml_X6_233 cal_X6_digestWrestler im_X6_digestWrestler se_X6_digestWrestler (w1X.at 0 rfl) rfl rfl rfl (Nat.le_of_ble_eq_true rfl) ⟨by decide, by decide⟩ ⟨by decide, by decide⟩ (c_X6_digestWrestler hst w1X wF1 hn1 h12 hor1 hii _) ?_
        refine J_lstore_n (L' := [(1, _), (3, _), (0, _)]) dX6_digest_114 rfl (by decide) rfl ?_
        refine J_iinc (v := _ + 1) (L' := [(3, _), (1, _), (0, _)]) dX6_digest_115 rfl rfl (by decide) rfl ?_
        refine J_goto (tgt := 97) dX6_digest_118 rfl ?_
        refine xx_J.pick [0, 1, 2] rfl ?_
        exact ih _ _  (nI_1 i) (by rw [hy]; rfl)
  refine xx_J.pick [0, 1, 2] rfl ?_
  exact loop 0 (by omega) _ _  rfl (by rw [← hro.1, ← hlen, hF1e]; rfl)
theorem wZ11_a0 {f : Nat → Int32} (h : xx_w b [(0, .inl (0, 11, .inl f))] A) (g : Nat → Int32) : xx_w b [(0, .inl (0, 11, .inl g))] (xx_up A (b + 0) (.inl (0, 11, .inl g))) := h.put 0 _ rfl rfl
theorem wZ7_a0 {f : Nat → Int32} (h : xx_w b [(0, .inl (0, 7, .inl f))] A) (g : Nat → Int32) : xx_w b [(0, .inl (0, 7, .inl g))] (xx_up A (b + 0) (.inl (0, 7, .inl g))) := h.put 0 _ rfl rfl
/-- nothing below n has changed -/
def xx_bl (n : Nat) (A0 A : xx_H) : Prop := ∀ z, z < n → A z = A0 z
theorem xx_bl.rf : xx_bl n A A := fun _ _ => rfl
theorem xx_bl.put {A0 : xx_H} {q : Nat} (h : xx_bl n A0 A) (hq : n ≤ q) (_ : 0 = 0) (c : va_E) : xx_bl n A0 (xx_up A q c) := fun z hz => by rw [xx_up_n _ _ (by omega)]; exact h z hz
/-- what digestOne leaves -/
def dg1Q (n : Nat) (A : xx_H) (y : Int64) : xx_Q := fun x A' n' => n' = n + 1 ∧ x = .inl (some (.long y)) ∧ xx_bl n A A'
set_option maxHeartbeats 4000000 in
theorem c_X9_digestOne (hst : l.stackTraces = false) (hM : xx_w bm (layM bp vL bn ba bm M) A) (hN : xx_w bp (layN nl bp P) A) (hS : xx_w bn (layS bn S) A) (hap : apR bm bp bn) (hok : okF (fS S P) nw nb r) (hbn1 : bm + 48 ≤ n) (hbn2 : bp + 9 ≤ n) (hbn3 : bn + 14 ≤ n) (hw : w < nw) (d0 : Int64) : xx_C G l yX9_digestOne mX9_digestOne 4 94 1 11 [.ref bm, .long d0, .int (nI w)] A n (dg1Q n A (dgO (fS S P) nw w d0)) := by
  have hn : P.1 0 = nI nw := hok.1.1
  have h12 := hok.1.2
  have hb : S.1 1 = nI nb := hok.2.1.1
  have h6 := hok.2.1.2
  refine J_C hst (by decide +kernel) rfl rfl rfl (Nat.le_of_ble_eq_true rfl) ?_
  show xx_J _ _ _ _ _ _ _ _ 0 [(0, _), (1, _), (3, _)] [] _ _ _ _
  refine J_bipush (v := 11) dX9_digestOne_0 (by decide) ?_
  refine J_newi (N := 11) dX9_digestOne_2 ac_int (by decide) (by decide) (by decide) (Nat.le_of_ble_eq_true rfl) (Nat.le_of_ble_eq_true rfl) ?_
  refine J_genA (b := n) (cs := [(0, .inl (0, 11, .inl (fun _ => 0)))]) (xx_w_cons (xx_up_s _ _ _) xx_w_nil) ((xx_bl.rf (n := n) (A := A)).put (Nat.le_refl n) rfl _) (fun A40 w40 s40 o40 => ?_)
  have hM40 := hM.o2 o40 (m := 48) rfl (by omega)
  have hN40 := hN.o2 o40 (m := 9) rfl (by omega)
  have hS40 := hS.o2 o40 (m := 14) rfl (by omega)
  refine J_dup dX9_digestOne_4 rfl ?_
  refine J_iconst (v := 0) dX9_digestOne_5 (by decide) ?_
  refine J_aload_n dX9_digestOne_6 rfl rfl ?_
  refine J_getf dX9_digestOne_7 fl_X9_20 (hM40.at 0 rfl) rfl ?_
  refine J_getf dX9_digestOne_10 fl_X9_83 (hN40.at 0 rfl) rfl ?_
  refine J_iload_n dX9_digestOne_13 rfl rfl ?_
  refine J_ialdN w dX9_digestOne_14 (hN40.at 2 rfl) rfl (by omega) (by decide) ?_
  refine J_iastN 0 dX9_digestOne_15 (w40.at 0 rfl) rfl (by omega) (by decide) ?_
  refine J_genA (wZ11_a0 w40 _) (s40.put (by omega) rfl _) (fun A61 w61 s61 o61 => ?_)
  have w61M := hM40.o2 o61 (m := 48) rfl (by omega)
  have w61N := hN40.o2 o61 (m := 9) rfl (by omega)
  have w61S := hS40.o2 o61 (m := 14) rfl (by omega)
  refine J_dup dX9_digestOne_16 rfl ?_
  refine J_iconst (v := 1) dX9_digestOne_17 (by decide) ?_
  refine J_aload_n dX9_digestOne_18 rfl rfl ?_
  refine J_getf dX9_digestOne_19 fl_X9_40 (w61M.at 0 rfl) rfl ?_
  refine J_getf dX9_digestOne_22 fl_X9_76 (w61S.at 0 rfl) rfl ?_
  refine J_iload_n dX9_digestOne_25 rfl rfl ?_
  refine J_ialdN w dX9_digestOne_26 (w61S.at 1 rfl) rfl (by omega) (by decide) ?_
  refine J_iastN 1 dX9_digestOne_27 (w61.at 0 rfl) rfl (by omega) (by decide) ?_
  refine J_genA (wZ11_a0 w61 _) (s61.put (by omega) rfl _) (fun A62 w62 s62 o62 => ?_)
  have w62M := w61M.o2 o62 (m := 48) rfl (by omega)
  have w62N := w61N.o2 o62 (m := 9) rfl (by omega)
  have w62S := w61S.o2 o62 (m := 14) rfl (by omega)
  refine J_dup dX9_digestOne_28 rfl ?_
  refine J_iconst (v := 2) dX9_digestOne_29 (by decide) ?_
  refine J_aload_n dX9_digestOne_30 rfl rfl ?_
  refine J_getf dX9_digestOne_31 fl_X9_40 (w62M.at 0 rfl) rfl ?_
  refine J_getf dX9_digestOne_34 fl_X9_186 (w62S.at 0 rfl) rfl ?_
  refine J_iload_n dX9_digestOne_37 rfl rfl ?_
  refine J_ialdN w dX9_digestOne_38 (w62S.at 2 rfl) rfl (by omega) (by decide) ?_
  refine J_iastN 2 dX9_digestOne_39 (w62.at 0 rfl) rfl (by omega) (by decide) ?_
  refine J_genA (wZ11_a0 w62 _) (s62.put (by omega) rfl _) (fun A63 w63 s63 o63 => ?_)
  have w63M := w62M.o2 o63 (m := 48) rfl (by omega)
  have w63N := w62N.o2 o63 (m := 9) rfl (by omega)
  have w63S := w62S.o2 o63 (m := 14) rfl (by omega)
  refine J_dup dX9_digestOne_40 rfl ?_
  refine J_iconst (v := 3) dX9_digestOne_41 (by decide) ?_
  refine J_aload_n dX9_digestOne_42 rfl rfl ?_
  refine J_getf dX9_digestOne_43 fl_X9_40 (w63M.at 0 rfl) rfl ?_
  refine J_getf dX9_digestOne_46 fl_X9_183 (w63S.at 0 rfl) rfl ?_
  refine J_iload_n dX9_digestOne_49 rfl rfl ?_
  refine J_ialdN w dX9_digestOne_50 (w63S.at 3 rfl) rfl (by omega) (by decide) ?_
  refine J_iastN 3 dX9_digestOne_51 (w63.at 0 rfl) rfl (by omega) (by decide) ?_
  refine J_genA (wZ11_a0 w63 _) (s63.put (by omega) rfl _) (fun A64 w64 s64 o64 => ?_)
  have w64M := w63M.o2 o64 (m := 48) rfl (by omega)
  have w64N := w63N.o2 o64 (m := 9) rfl (by omega)
  have w64S := w63S.o2 o64 (m := 14) rfl (by omega)
  refine J_dup dX9_digestOne_52 rfl ?_
  refine J_iconst (v := 4) dX9_digestOne_53 (by decide) ?_
  refine J_aload_n dX9_digestOne_54 rfl rfl ?_
  refine J_getf dX9_digestOne_55 fl_X9_40 (w64M.at 0 rfl) rfl ?_
  refine J_getf dX9_digestOne_58 fl_X9_189 (w64S.at 0 rfl) rfl ?_
  refine J_iload_n dX9_digestOne_61 rfl rfl ?_
  refine J_ialdN w dX9_digestOne_62 (w64S.at 4 rfl) rfl (by omega) (by decide) ?_
  refine J_iastN 4 dX9_digestOne_63 (w64.at 0 rfl) rfl (by omega) (by decide) ?_
  refine J_genA (wZ11_a0 w64 _) (s64.put (by omega) rfl _) (fun A65 w65 s65 o65 => ?_)
  have w65M := w64M.o2 o65 (m := 48) rfl (by omega)
  have w65N := w64N.o2 o65 (m := 9) rfl (by omega)
  have w65S := w64S.o2 o65 (m := 14) rfl (by omega)
  refine J_dup dX9_digestOne_64 rfl ?_
  refine J_iconst (v := 5) dX9_digestOne_65 (by decide) ?_
  refine J_aload_n dX9_digestOne_66 rfl rfl ?_
  refine J_getf dX9_digestOne_67 fl_X9_40 (w65M.at 0 rfl) rfl ?_
  refine J_getf dX9_digestOne_70 fl_X9_117 (w65S.at 0 rfl) rfl ?_
  refine J_iload_n dX9_digestOne_73 rfl rfl ?_
  refine J_ialdN w dX9_digestOne_74 (w65S.at 5 rfl) rfl (by omega) (by decide) ?_
  refine J_iastN 5 dX9_digestOne_75 (w65.at 0 rfl) rfl (by omega) (by decide) ?_
  refine J_genA (wZ11_a0 w65 _) (s65.put (by omega) rfl _) (fun A66 w66 s66 o66 => ?_)
  have w66M := w65M.o2 o66 (m := 48) rfl (by omega)
  have w66N := w65N.o2 o66 (m := 9) rfl (by omega)
  have w66S := w65S.o2 o66 (m := 14) rfl (by omega)
  refine J_dup dX9_digestOne_76 rfl ?_
  refine J_bipush (v := 6) dX9_digestOne_77 (by decide) ?_
  refine J_aload_n dX9_digestOne_79 rfl rfl ?_
  refine J_getf dX9_digestOne_80 fl_X9_40 (w66M.at 0 rfl) rfl ?_
  refine J_getf dX9_digestOne_83 fl_X9_142 (w66S.at 0 rfl) rfl ?_
  refine J_iload_n dX9_digestOne_86 rfl rfl ?_
  refine J_ialdN w dX9_digestOne_87 (w66S.at 6 rfl) rfl (by omega) (by decide) ?_
  refine J_iastN 6 dX9_digestOne_88 (w66.at 0 rfl) rfl (by omega) (by decide) ?_
  refine J_genA (wZ11_a0 w66 _) (s66.put (by omega) rfl _) (fun A67 w67 s67 o67 => ?_)
  have w67M := w66M.o2 o67 (m := 48) rfl (by omega)
  have w67N := w66N.o2 o67 (m := 9) rfl (by omega)
  have w67S := w66S.o2 o67 (m := 14) rfl (by omega)
  refine J_dup dX9_digestOne_89 rfl ?_
  refine J_bipush (v := 7) dX9_digestOne_90 (by decide) ?_
  refine J_aload_n dX9_digestOne_92 rfl rfl ?_
  refine J_getf dX9_digestOne_93 fl_X9_40 (w67M.at 0 rfl) rfl ?_
  refine J_getf dX9_digestOne_96 fl_X9_157 (w67S.at 0 rfl) rfl ?_
  refine J_iload_n dX9_digestOne_99 rfl rfl ?_
  refine J_ialdN w dX9_digestOne_100 (w67S.at 7 rfl) rfl (by omega) (by decide) ?_
  refine J_iastN 7 dX9_digestOne_101 (w67.at 0 rfl) rfl (by omega) (by decide) ?_
  refine J_genA (wZ11_a0 w67 _) (s67.put (by omega) rfl _) (fun A68 w68 s68 o68 => ?_)
  have w68M := w67M.o2 o68 (m := 48) rfl (by omega)
  have w68N := w67N.o2 o68 (m := 9) rfl (by omega)
  have w68S := w67S.o2 o68 (m := 14) rfl (by omega)
  refine J_dup dX9_digestOne_102 rfl ?_
  refine J_bipush (v := 8) dX9_digestOne_103 (by decide) ?_
  refine J_aload_n dX9_digestOne_105 rfl rfl ?_
  refine J_aload_n dX9_digestOne_106 rfl rfl ?_
  refine J_getf dX9_digestOne_107 fl_X9_40 (w68M.at 0 rfl) rfl ?_
  refine J_iload_n dX9_digestOne_110 rfl rfl ?_
  refine J_callVr (As := [_, _]) dX9_digestOne_111 ml_X9_79 cal_X9_ofMet im_X9_ofMet se_X9_ofMet (w68M.at 0 rfl) rfl rfl rfl (Nat.le_of_ble_eq_true rfl) ⟨by decide, by decide⟩ ⟨by decide, by decide⟩ (c_X9_ofMet hst w68M w68N w68S hn h12 rfl hw) ?_
  refine J_iastN 8 dX9_digestOne_114 (w68.at 0 rfl) rfl (by omega) (by decide) ?_
  refine J_genA (wZ11_a0 w68 _) (s68.put (by omega) rfl _) (fun A69 w69 s69 o69 => ?_)
  have w69M := w68M.o2 o69 (m := 48) rfl (by omega)
  have w69N := w68N.o2 o69 (m := 9) rfl (by omega)
  have w69S := w68S.o2 o69 (m := 14) rfl (by omega)
  refine J_dup dX9_digestOne_115 rfl ?_
  refine J_bipush (v := 9) dX9_digestOne_116 (by decide) ?_
  refine J_aload_n dX9_digestOne_118 rfl rfl ?_
  refine J_aload_n dX9_digestOne_119 rfl rfl ?_
  refine J_getf dX9_digestOne_120 fl_X9_40 (w69M.at 0 rfl) rfl ?_
  refine J_iload_n dX9_digestOne_123 rfl rfl ?_
  refine J_callVr (As := [_, _]) dX9_digestOne_124 ml_X9_90 cal_X9_rank im_X9_rank se_X9_rank (w69M.at 0 rfl) rfl rfl rfl (Nat.le_of_ble_eq_true rfl) ⟨by decide, by decide⟩ ⟨by decide, by decide⟩ (c_X9_rank hst w69M w69N w69S hn h12 hok.bd rfl hw) ?_
  refine J_iastN 9 dX9_digestOne_127 (w69.at 0 rfl) rfl (by omega) (by decide) ?_
  refine J_genA (wZ11_a0 w69 _) (s69.put (by omega) rfl _) (fun A70 w70 s70 o70 => ?_)
  have w70M := w69M.o2 o70 (m := 48) rfl (by omega)
  have w70N := w69N.o2 o70 (m := 9) rfl (by omega)
  have w70S := w69S.o2 o70 (m := 14) rfl (by omega)
  refine J_dup dX9_digestOne_128 rfl ?_
  refine J_bipush (v := 10) dX9_digestOne_129 (by decide) ?_
  refine J_aload_n dX9_digestOne_131 rfl rfl ?_
  refine J_getf dX9_digestOne_132 fl_X9_40 (w70M.at 0 rfl) rfl ?_
  refine J_getf dX9_digestOne_135 fl_X9_93 (w70S.at 0 rfl) rfl ?_
  refine J_iload_n dX9_digestOne_138 rfl rfl ?_
  refine J_zaldN w dX9_digestOne_139 (w70S.at 9 rfl) rfl (by omega) (by decide) ?_
  refine J_if_ne (tgt := 147) dX9_digestOne_140 rfl (fun h140 => ?_) (fun h140 => ?_)
  · obtain ⟨vb, hvb⟩ : ∃ vb : Int32, vb = cntS S P 8 w := ⟨_, rfl⟩
    have hvb0 : vb = 0 := hvb.trans (if_neg h140)
    refine J_iconst (v := 0) dX9_digestOne_147 (by decide) ?_
    refine J_callSr (As := [_]) dX9_digestOne_148 ml_X9_232 cal_X9_one sm_X9_one rfl rfl (Nat.le_of_ble_eq_true rfl) ⟨by decide, by decide⟩ ⟨by decide, by decide⟩ (c_X9_one hst _) ?_
    first | rw [show (if (0 : Int32) = 0 then (0 : Int32) else 1) = vb from by rw [hvb0]; rfl] | rw [show (if (1 : Int32) = 0 then (0 : Int32) else 1) = vb from by rw [hvb0]; rfl]
    refine J_iastN 10 dX9_digestOne_151 (w70.at 0 rfl) rfl (by omega) (by decide) ?_
    refine J_genA (wZ11_a0 w70 _) (s70.put (by omega) rfl _) (fun A71 w71 s71 o71 => ?_)
    have w71M := w70M.o2 o71 (m := 48) rfl (by omega)
    have w71N := w70N.o2 o71 (m := 9) rfl (by omega)
    have w71S := w70S.o2 o71 (m := 14) rfl (by omega)
    refine J_astore (L' := [(4, _), (0, _), (1, _), (3, _)]) dX9_digestOne_152 (by decide) rfl ?_
    obtain ⟨g11, hg11⟩ : ∃ g, g = (upd (upd (upd (upd (upd (upd (upd (upd (upd (upd (upd (fun _ => 0) 0 (P.2 2 w)) 1 (S.2 1 w)) 2 (S.2 2 w)) 3 (S.2 3 w)) 4 (S.2 4 w)) 5 (S.2 5 w)) 6 (S.2 6 w)) 7 (S.2 7 w)) 8 (rpts (fS S P) nw w)) 9 (nI (rkN (f_R (fS S P) nw) nw w))) 10 (vb)) := ⟨_, rfl⟩
    have hVg : xx_w n [(0, .inl (0, 11, .inl g11))] A71 := by rw [hg11]; exact w71
    have egr : dgr g11 d0 11 = (dgs (dgs (dgs (dgr (fun c => (fS S P).2 2 (c * 12 + w)) d0 8) (rpts (fS S P) nw w)) (nI (rkN (f_R (fS S P) nw) nw w))) ((fS S P).2 2 (8 * 12 + w))) := by
      have c8 : dgr (fun c => (fS S P).2 2 (c * 12 + w)) d0 8 = dgr g11 d0 8 := dgr_c 8 (fun c hc => by
        show (fS S P).2 2 (c * 12 + w) = g11 c
        rw [fS_c (by omega), hg11]
        rcases (show c = 0 ∨ c = 1 ∨ c = 2 ∨ c = 3 ∨ c = 4 ∨ c = 5 ∨ c = 6 ∨ c = 7 by omega) with z | z | z | z | z | z | z | z <;> (subst z; rfl))
      rw [c8, show (fS S P).2 2 (8 * 12 + w) = vb from by rw [fS_c (by omega)]; exact hvb.symm]
      show dgs (dgs (dgs (dgr g11 d0 8) (g11 8)) (g11 9)) (g11 10) = _
      rw [show g11 8 = rpts (fS S P) nw w by rw [hg11]; rfl, show g11 9 = nI (rkN (f_R (fS S P) nw) nw w) by rw [hg11]; rfl, show g11 10 = vb by rw [hg11]; rfl]
    refine J_lload_n dX9_digestOne_154 rfl rfl ?_
    refine J_lstore (L' := [(5, _), (4, _), (0, _), (1, _), (3, _)]) dX9_digestOne_155 (by decide) rfl ?_
    refine J_aload dX9_digestOne_157 rfl ?_
    refine J_astore (L' := [(7, _), (5, _), (4, _), (0, _), (1, _), (3, _)]) dX9_digestOne_159 (by decide) rfl ?_
    refine J_aload dX9_digestOne_161 rfl ?_
    refine J_alen dX9_digestOne_163 (hVg.at 0 rfl) (by decide) rfl ?_
    refine J_istore (L' := [(8, _), (7, _), (5, _), (4, _), (0, _), (1, _), (3, _)]) dX9_digestOne_164 (by decide) rfl ?_
    refine J_iconst (v := 0) dX9_digestOne_166 (by decide) ?_
    refine J_istore (L' := [(9, _), (8, _), (7, _), (5, _), (4, _), (0, _), (1, _), (3, _)]) dX9_digestOne_167 (by decide) rfl ?_
    have loop : ∀ i, i ≤ 11 → ∀ (x : Int32) (y : Int64) , (x = nI i) → (y = dgr g11 d0 i) → xx_J G l mX9_digestOne 4 94 1 11 (dg1Q n A (dgO (fS S P) nw w d0)) 169 [(9, .int x), (8, .int (Int32.ofNat 11)), (7, .ref n), (5, .long y), (0, .ref bm), (3, .int (nI w))] [] A71 (n + 1) (0 + 1) (0 + 11) := by
      refine xx_dn ?_ ?_
      · intro x  y   hx hy
        have ex : x.toInt = 11 := by rw [hx]; rfl
        have e11 : (Int32.ofNat 11).toInt = 11 := rfl
        refine J_iload dX9_digestOne_169 rfl ?_
        refine J_iload dX9_digestOne_171 rfl ?_
        refine J_icmp_ge (tgt := 201) dX9_digestOne_173 rfl (fun h173 => ?_) (fun h173 => ?_)
        · refine J_iconst (v := 0) dX9_digestOne_201 (by decide) ?_
          refine J_istore (L' := [(7, _), (9, _), (8, _), (5, _), (0, _), (3, _)]) dX9_digestOne_202 (by decide) rfl ?_
          have loop2 : ∀ i, i ≤ nw → ∀ (x : Int32) (y : Int64) , (x = nI i) → (y = dgr (fun o => (fS S P).2 3 (w * 12 + o)) (dgs (dgs (dgs (dgr (fun c => (fS S P).2 2 (c * 12 + w)) d0 8) (rpts (fS S P) nw w)) (nI (rkN (f_R (fS S P) nw) nw w))) ((fS S P).2 2 (8 * 12 + w))) i) → xx_J G l mX9_digestOne 4 94 1 11 (dg1Q n A (dgO (fS S P) nw w d0)) 204 [(7, .int x), (5, .long y), (0, .ref bm), (3, .int (nI w))] [] A71 (n + 1) (0 + 1) (0 + 11) := by
            refine xx_dn ?_ ?_
            · intro x  y   hx hy
              have ex : x.toInt = nw := by rw [hx]; exact i_n (by omega)
              have en : (P.1 0).toInt = nw := by rw [hn]; exact i_n (by omega)
              refine J_iload dX9_digestOne_204 rfl ?_
              refine J_aload_n dX9_digestOne_206 rfl rfl ?_
              refine J_getf dX9_digestOne_207 fl_X9_20 (w71M.at 0 rfl) rfl ?_
              refine J_getf dX9_digestOne_210 fl_X9_65 (w71N.at 0 rfl) rfl ?_
              refine J_icmp_ge (tgt := 242) dX9_digestOne_213 rfl (fun h213 => ?_) (fun h213 => ?_)
              · refine J_lload dX9_digestOne_242 rfl ?_
                refine J_lreturn dX9_digestOne_244 rfl (by decide) (by decide) ?_
                exact ⟨rfl, by rw [hy]; rfl, s71⟩
              · first | (exfalso; simp only [i_lt, i_le, i_eq, i_0, i_1, i_2, i_3, i_4, i_5, i_6, i_8, i_9, i_10, i_12, i_16, i_20, i_m1, i_400, i_2000] at h213; omega) | (exfalso; simp only [s_up, a_up, va_up, i_lt, i_le, i_eq, i_0, i_1, i_2, i_3, i_4, i_5, i_6, i_8, i_9, i_10, i_12, i_16, i_20, i_m1, i_400, i_2000, ↓reduceIte, Nat.reduceEqDiff] at h213; omega)
            · intro i hii ih x  y   hx hy
              have ex : x.toInt = i := by rw [hx]; exact i_n (by omega)
              have en : (P.1 0).toInt = nw := by rw [hn]; exact i_n (by omega)
              refine J_iload dX9_digestOne_204 rfl ?_
              refine J_aload_n dX9_digestOne_206 rfl rfl ?_
              refine J_getf dX9_digestOne_207 fl_X9_20 (w71M.at 0 rfl) rfl ?_
              refine J_getf dX9_digestOne_210 fl_X9_65 (w71N.at 0 rfl) rfl ?_
              refine J_icmp_ge (tgt := 242) dX9_digestOne_213 rfl (fun h213 => ?_) (fun h213 => ?_)
              · first | (exfalso; simp only [i_lt, i_le, i_eq, i_0, i_1, i_2, i_3, i_4, i_5, i_6, i_8, i_9, i_10, i_12, i_16, i_20, i_m1, i_400, i_2000] at h213; omega) | (exfalso; simp only [s_up, a_up, va_up, i_lt, i_le, i_eq, i_0, i_1, i_2, i_3, i_4, i_5, i_6, i_8, i_9, i_10, i_12, i_16, i_20, i_m1, i_400, i_2000, ↓reduceIte, Nat.reduceEqDiff] at h213; omega)
              · refine J_lload dX9_digestOne_216 rfl ?_
                refine J_ldc2 dX9_digestOne_218 kl_X9_423 ?_
                refine J_lmul dX9_digestOne_221 ?_
                refine J_aload_n dX9_digestOne_222 rfl rfl ?_
                refine J_getf dX9_digestOne_223 fl_X9_40 (w71M.at 0 rfl) rfl ?_
                refine J_iload_n dX9_digestOne_226 rfl rfl ?_
                refine J_iload dX9_digestOne_227 rfl ?_
                refine J_callVr (As := [_, _]) dX9_digestOne_229 ml_X9_72 cal_X8_met im_X8_met se_X8_met (w71S.at 0 rfl) rfl rfl rfl (Nat.le_of_ble_eq_true rfl) ⟨by decide, by decide⟩ ⟨by decide, by decide⟩ (c_X8_met hst w71S rfl (by omega) hx (by omega)) ?_
                refine J_i2l dX9_digestOne_232 rfl ?_
                refine J_ladd dX9_digestOne_233 ?_
                refine J_lstore (L' := [(5, _), (7, _), (0, _), (3, _)]) dX9_digestOne_234 (by decide) rfl ?_
                refine J_iinc (v := _ + 1) (L' := [(7, _), (5, _), (0, _), (3, _)]) dX9_digestOne_236 rfl rfl (by decide) rfl ?_
                refine J_goto (tgt := 204) dX9_digestOne_239 rfl ?_
                refine xx_J.pick [0, 1, 2, 3] rfl ?_
                exact ih _ _  (by rw [hx]; exact nI_1 i) (by rw [hy]; rfl)
          refine xx_J.pick [0, 3, 4, 5] rfl ?_
          exact loop2 0 (by omega) _ _  rfl (by rw [hy]; exact egr)
        · first | (exfalso; simp only [i_lt, i_le, i_eq, i_0, i_1, i_2, i_3, i_4, i_5, i_6, i_8, i_9, i_10, i_12, i_16, i_20, i_m1, i_400, i_2000] at h173; omega) | (exfalso; simp only [s_up, a_up, va_up, i_lt, i_le, i_eq, i_0, i_1, i_2, i_3, i_4, i_5, i_6, i_8, i_9, i_10, i_12, i_16, i_20, i_m1, i_400, i_2000, ↓reduceIte, Nat.reduceEqDiff] at h173; omega)
      · intro i hii ih x  y   hx hy
        have ex : x.toInt = i := by rw [hx]; exact i_n (by omega)
        have e11 : (Int32.ofNat 11).toInt = 11 := rfl
        refine J_iload dX9_digestOne_169 rfl ?_
        refine J_iload dX9_digestOne_171 rfl ?_
        refine J_icmp_ge (tgt := 201) dX9_digestOne_173 rfl (fun h173 => ?_) (fun h173 => ?_)
        · first | (exfalso; simp only [i_lt, i_le, i_eq, i_0, i_1, i_2, i_3, i_4, i_5, i_6, i_8, i_9, i_10, i_12, i_16, i_20, i_m1, i_400, i_2000] at h173; omega) | (exfalso; simp only [s_up, a_up, va_up, i_lt, i_le, i_eq, i_0, i_1, i_2, i_3, i_4, i_5, i_6, i_8, i_9, i_10, i_12, i_16, i_20, i_m1, i_400, i_2000, ↓reduceIte, Nat.reduceEqDiff] at h173; omega)
        · refine J_aload dX9_digestOne_176 rfl ?_
          refine J_iload dX9_digestOne_178 rfl ?_
          refine J_ialdN i dX9_digestOne_180 (hVg.at 0 rfl) hx (by omega) (by decide) ?_
          refine J_istore (L' := [(10, _), (9, _), (8, _), (7, _), (5, _), (0, _), (3, _)]) dX9_digestOne_181 (by decide) rfl ?_
          refine J_lload dX9_digestOne_183 rfl ?_
          refine J_ldc2 dX9_digestOne_185 kl_X9_423 ?_
          refine J_lmul dX9_digestOne_188 ?_
          refine J_iload dX9_digestOne_189 rfl ?_
          refine J_i2l dX9_digestOne_191 rfl ?_
          refine J_ladd dX9_digestOne_192 ?_
          refine J_lstore (L' := [(5, _), (10, _), (9, _), (8, _), (7, _), (0, _), (3, _)]) dX9_digestOne_193 (by decide) rfl ?_
          refine J_iinc (v := _ + 1) (L' := [(9, _), (5, _), (10, _), (8, _), (7, _), (0, _), (3, _)]) dX9_digestOne_195 rfl rfl (by decide) rfl ?_
          refine J_goto (tgt := 169) dX9_digestOne_198 rfl ?_
          refine xx_J.pick [0, 3, 4, 1, 5, 6] rfl ?_
          exact ih _ _  (by rw [hx]; exact nI_1 i) (by rw [hy]; rfl)
    refine xx_J.pick [0, 1, 2, 3, 5, 7] rfl ?_
    exact loop 0 (by omega) _ _  rfl rfl
  · obtain ⟨vb, hvb⟩ : ∃ vb : Int32, vb = cntS S P 8 w := ⟨_, rfl⟩
    have hvb0 : vb = 1 := hvb.trans (if_pos h140)
    refine J_iconst (v := 1) dX9_digestOne_143 (by decide) ?_
    refine J_goto (tgt := 148) dX9_digestOne_144 rfl ?_
    refine J_callSr (As := [_]) dX9_digestOne_148 ml_X9_232 cal_X9_one sm_X9_one rfl rfl (Nat.le_of_ble_eq_true rfl) ⟨by decide, by decide⟩ ⟨by decide, by decide⟩ (c_X9_one hst _) ?_
    first | rw [show (if (0 : Int32) = 0 then (0 : Int32) else 1) = vb from by rw [hvb0]; rfl] | rw [show (if (1 : Int32) = 0 then (0 : Int32) else 1) = vb from by rw [hvb0]; rfl]
    refine J_iastN 10 dX9_digestOne_151 (w70.at 0 rfl) rfl (by omega) (by decide) ?_
    refine J_genA (wZ11_a0 w70 _) (s70.put (by omega) rfl _) (fun A72 w72 s72 o72 => ?_)
    have w72M := w70M.o2 o72 (m := 48) rfl (by omega)
    have w72N := w70N.o2 o72 (m := 9) rfl (by omega)
    have w72S := w70S.o2 o72 (m := 14) rfl (by omega)
    refine J_astore (L' := [(4, _), (0, _), (1, _), (3, _)]) dX9_digestOne_152 (by decide) rfl ?_
    obtain ⟨g11, hg11⟩ : ∃ g, g = (upd (upd (upd (upd (upd (upd (upd (upd (upd (upd (upd (fun _ => 0) 0 (P.2 2 w)) 1 (S.2 1 w)) 2 (S.2 2 w)) 3 (S.2 3 w)) 4 (S.2 4 w)) 5 (S.2 5 w)) 6 (S.2 6 w)) 7 (S.2 7 w)) 8 (rpts (fS S P) nw w)) 9 (nI (rkN (f_R (fS S P) nw) nw w))) 10 (vb)) := ⟨_, rfl⟩
    have hVg : xx_w n [(0, .inl (0, 11, .inl g11))] A72 := by rw [hg11]; exact w72
    have egr : dgr g11 d0 11 = (dgs (dgs (dgs (dgr (fun c => (fS S P).2 2 (c * 12 + w)) d0 8) (rpts (fS S P) nw w)) (nI (rkN (f_R (fS S P) nw) nw w))) ((fS S P).2 2 (8 * 12 + w))) := by
      have c8 : dgr (fun c => (fS S P).2 2 (c * 12 + w)) d0 8 = dgr g11 d0 8 := dgr_c 8 (fun c hc => by
        show (fS S P).2 2 (c * 12 + w) = g11 c
        rw [fS_c (by omega), hg11]
        rcases (show c = 0 ∨ c = 1 ∨ c = 2 ∨ c = 3 ∨ c = 4 ∨ c = 5 ∨ c = 6 ∨ c = 7 by omega) with z | z | z | z | z | z | z | z <;> (subst z; rfl))
      rw [c8, show (fS S P).2 2 (8 * 12 + w) = vb from by rw [fS_c (by omega)]; exact hvb.symm]
      show dgs (dgs (dgs (dgr g11 d0 8) (g11 8)) (g11 9)) (g11 10) = _
      rw [show g11 8 = rpts (fS S P) nw w by rw [hg11]; rfl, show g11 9 = nI (rkN (f_R (fS S P) nw) nw w) by rw [hg11]; rfl, show g11 10 = vb by rw [hg11]; rfl]
    refine J_lload_n dX9_digestOne_154 rfl rfl ?_
    refine J_lstore (L' := [(5, _), (4, _), (0, _), (1, _), (3, _)]) dX9_digestOne_155 (by decide) rfl ?_
    refine J_aload dX9_digestOne_157 rfl ?_
    refine J_astore (L' := [(7, _), (5, _), (4, _), (0, _), (1, _), (3, _)]) dX9_digestOne_159 (by decide) rfl ?_
    refine J_aload dX9_digestOne_161 rfl ?_
    refine J_alen dX9_digestOne_163 (hVg.at 0 rfl) (by decide) rfl ?_
    refine J_istore (L' := [(8, _), (7, _), (5, _), (4, _), (0, _), (1, _), (3, _)]) dX9_digestOne_164 (by decide) rfl ?_
    refine J_iconst (v := 0) dX9_digestOne_166 (by decide) ?_
    refine J_istore (L' := [(9, _), (8, _), (7, _), (5, _), (4, _), (0, _), (1, _), (3, _)]) dX9_digestOne_167 (by decide) rfl ?_
    have loop : ∀ i, i ≤ 11 → ∀ (x : Int32) (y : Int64) , (x = nI i) → (y = dgr g11 d0 i) → xx_J G l mX9_digestOne 4 94 1 11 (dg1Q n A (dgO (fS S P) nw w d0)) 169 [(9, .int x), (8, .int (Int32.ofNat 11)), (7, .ref n), (5, .long y), (0, .ref bm), (3, .int (nI w))] [] A72 (n + 1) (0 + 1) (0 + 11) := by
      refine xx_dn ?_ ?_
      · intro x  y   hx hy
        have ex : x.toInt = 11 := by rw [hx]; rfl
        have e11 : (Int32.ofNat 11).toInt = 11 := rfl
        refine J_iload dX9_digestOne_169 rfl ?_
        refine J_iload dX9_digestOne_171 rfl ?_
        refine J_icmp_ge (tgt := 201) dX9_digestOne_173 rfl (fun h173 => ?_) (fun h173 => ?_)
        · refine J_iconst (v := 0) dX9_digestOne_201 (by decide) ?_
          refine J_istore (L' := [(7, _), (9, _), (8, _), (5, _), (0, _), (3, _)]) dX9_digestOne_202 (by decide) rfl ?_
          have loop2 : ∀ i, i ≤ nw → ∀ (x : Int32) (y : Int64) , (x = nI i) → (y = dgr (fun o => (fS S P).2 3 (w * 12 + o)) (dgs (dgs (dgs (dgr (fun c => (fS S P).2 2 (c * 12 + w)) d0 8) (rpts (fS S P) nw w)) (nI (rkN (f_R (fS S P) nw) nw w))) ((fS S P).2 2 (8 * 12 + w))) i) → xx_J G l mX9_digestOne 4 94 1 11 (dg1Q n A (dgO (fS S P) nw w d0)) 204 [(7, .int x), (5, .long y), (0, .ref bm), (3, .int (nI w))] [] A72 (n + 1) (0 + 1) (0 + 11) := by
            refine xx_dn ?_ ?_
            · intro x  y   hx hy
              have ex : x.toInt = nw := by rw [hx]; exact i_n (by omega)
              have en : (P.1 0).toInt = nw := by rw [hn]; exact i_n (by omega)
              refine J_iload dX9_digestOne_204 rfl ?_
              refine J_aload_n dX9_digestOne_206 rfl rfl ?_
              refine J_getf dX9_digestOne_207 fl_X9_20 (w72M.at 0 rfl) rfl ?_
              refine J_getf dX9_digestOne_210 fl_X9_65 (w72N.at 0 rfl) rfl ?_
              refine J_icmp_ge (tgt := 242) dX9_digestOne_213 rfl (fun h213 => ?_) (fun h213 => ?_)
              · refine J_lload dX9_digestOne_242 rfl ?_
                refine J_lreturn dX9_digestOne_244 rfl (by decide) (by decide) ?_
                exact ⟨rfl, by rw [hy]; rfl, s72⟩
              · first | (exfalso; simp only [i_lt, i_le, i_eq, i_0, i_1, i_2, i_3, i_4, i_5, i_6, i_8, i_9, i_10, i_12, i_16, i_20, i_m1, i_400, i_2000] at h213; omega) | (exfalso; simp only [s_up, a_up, va_up, i_lt, i_le, i_eq, i_0, i_1, i_2, i_3, i_4, i_5, i_6, i_8, i_9, i_10, i_12, i_16, i_20, i_m1, i_400, i_2000, ↓reduceIte, Nat.reduceEqDiff] at h213; omega)
            · intro i hii ih x  y   hx hy
              have ex : x.toInt = i := by rw [hx]; exact i_n (by omega)
              have en : (P.1 0).toInt = nw := by rw [hn]; exact i_n (by omega)
              refine J_iload dX9_digestOne_204 rfl ?_
              refine J_aload_n dX9_digestOne_206 rfl rfl ?_
              refine J_getf dX9_digestOne_207 fl_X9_20 (w72M.at 0 rfl) rfl ?_
              refine J_getf dX9_digestOne_210 fl_X9_65 (w72N.at 0 rfl) rfl ?_
              refine J_icmp_ge (tgt := 242) dX9_digestOne_213 rfl (fun h213 => ?_) (fun h213 => ?_)
              · first | (exfalso; simp only [i_lt, i_le, i_eq, i_0, i_1, i_2, i_3, i_4, i_5, i_6, i_8, i_9, i_10, i_12, i_16, i_20, i_m1, i_400, i_2000] at h213; omega) | (exfalso; simp only [s_up, a_up, va_up, i_lt, i_le, i_eq, i_0, i_1, i_2, i_3, i_4, i_5, i_6, i_8, i_9, i_10, i_12, i_16, i_20, i_m1, i_400, i_2000, ↓reduceIte, Nat.reduceEqDiff] at h213; omega)
              · refine J_lload dX9_digestOne_216 rfl ?_
                refine J_ldc2 dX9_digestOne_218 kl_X9_423 ?_
                refine J_lmul dX9_digestOne_221 ?_
                refine J_aload_n dX9_digestOne_222 rfl rfl ?_
                refine J_getf dX9_digestOne_223 fl_X9_40 (w72M.at 0 rfl) rfl ?_
                refine J_iload_n dX9_digestOne_226 rfl rfl ?_
                refine J_iload dX9_digestOne_227 rfl ?_
                refine J_callVr (As := [_, _]) dX9_digestOne_229 ml_X9_72 cal_X8_met im_X8_met se_X8_met (w72S.at 0 rfl) rfl rfl rfl (Nat.le_of_ble_eq_true rfl) ⟨by decide, by decide⟩ ⟨by decide, by decide⟩ (c_X8_met hst w72S rfl (by omega) hx (by omega)) ?_
                refine J_i2l dX9_digestOne_232 rfl ?_
                refine J_ladd dX9_digestOne_233 ?_
                refine J_lstore (L' := [(5, _), (7, _), (0, _), (3, _)]) dX9_digestOne_234 (by decide) rfl ?_
                refine J_iinc (v := _ + 1) (L' := [(7, _), (5, _), (0, _), (3, _)]) dX9_digestOne_236 rfl rfl (by decide) rfl ?_
                refine J_goto (tgt := 204) dX9_digestOne_239 rfl ?_
                refine xx_J.pick [0, 1, 2, 3] rfl ?_
                exact ih _ _  (by rw [hx]; exact nI_1 i) (by rw [hy]; rfl)
          refine xx_J.pick [0, 3, 4, 5] rfl ?_
          exact loop2 0 (by omega) _ _  rfl (by rw [hy]; exact egr)
        · first | (exfalso; simp only [i_lt, i_le, i_eq, i_0, i_1, i_2, i_3, i_4, i_5, i_6, i_8, i_9, i_10, i_12, i_16, i_20, i_m1, i_400, i_2000] at h173; omega) | (exfalso; simp only [s_up, a_up, va_up, i_lt, i_le, i_eq, i_0, i_1, i_2, i_3, i_4, i_5, i_6, i_8, i_9, i_10, i_12, i_16, i_20, i_m1, i_400, i_2000, ↓reduceIte, Nat.reduceEqDiff] at h173; omega)
      · intro i hii ih x  y   hx hy
        have ex : x.toInt = i := by rw [hx]; exact i_n (by omega)
        have e11 : (Int32.ofNat 11).toInt = 11 := rfl
        refine J_iload dX9_digestOne_169 rfl ?_
        refine J_iload dX9_digestOne_171 rfl ?_
        refine J_icmp_ge (tgt := 201) dX9_digestOne_173 rfl (fun h173 => ?_) (fun h173 => ?_)
        · first | (exfalso; simp only [i_lt, i_le, i_eq, i_0, i_1, i_2, i_3, i_4, i_5, i_6, i_8, i_9, i_10, i_12, i_16, i_20, i_m1, i_400, i_2000] at h173; omega) | (exfalso; simp only [s_up, a_up, va_up, i_lt, i_le, i_eq, i_0, i_1, i_2, i_3, i_4, i_5, i_6, i_8, i_9, i_10, i_12, i_16, i_20, i_m1, i_400, i_2000, ↓reduceIte, Nat.reduceEqDiff] at h173; omega)
        · refine J_aload dX9_digestOne_176 rfl ?_
          refine J_iload dX9_digestOne_178 rfl ?_
          refine J_ialdN i dX9_digestOne_180 (hVg.at 0 rfl) hx (by omega) (by decide) ?_
          refine J_istore (L' := [(10, _), (9, _), (8, _), (7, _), (5, _), (0, _), (3, _)]) dX9_digestOne_181 (by decide) rfl ?_
          refine J_lload dX9_digestOne_183 rfl ?_
          refine J_ldc2 dX9_digestOne_185 kl_X9_423 ?_
          refine J_lmul dX9_digestOne_188 ?_
          refine J_iload dX9_digestOne_189 rfl ?_
          refine J_i2l dX9_digestOne_191 rfl ?_
          refine J_ladd dX9_digestOne_192 ?_
          refine J_lstore (L' := [(5, _), (10, _), (9, _), (8, _), (7, _), (0, _), (3, _)]) dX9_digestOne_193 (by decide) rfl ?_
          refine J_iinc (v := _ + 1) (L' := [(9, _), (5, _), (10, _), (8, _), (7, _), (0, _), (3, _)]) dX9_digestOne_195 rfl rfl (by decide) rfl ?_
          refine J_goto (tgt := 169) dX9_digestOne_198 rfl ?_
          refine xx_J.pick [0, 3, 4, 1, 5, 6] rfl ?_
          exact ih _ _  (by rw [hx]; exact nI_1 i) (by rw [hy]; rfl)
    refine xx_J.pick [0, 1, 2, 3, 5, 7] rfl ?_
    exact loop 0 (by omega) _ _  rfl rfl
end XDH
