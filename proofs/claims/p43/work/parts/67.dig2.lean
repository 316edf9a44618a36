/-! digest: both sides -/
section XDH
variable {G : xx_G} {l : Launch} {A A' : xx_H} {n : Nat} {b bm bp bs bn ba : Nat} {vL nl : Nat → Int64} {M M' M1 P P' S S1 F FF F' R PS F2 D R0 T : xS} {len i j k q s e t d nt tok v m nw nb r cr w : Nat} {tk : Nat → Nat} {ru : xS → Nat → Nat → Int32} {sg : Nat → Option Nat}
/-- what the class's digest leaves -/
def dgX (b n : Nat) (ru : xS → Nat → Nat → Int32) (cr nw nb r len : Nat) (FF : xS) (A : xx_H) : xx_Q := fun x A' n' => n' = n ∧ x = .inl (some (.long (dgA FF nw nb cr len))) ∧ gI b ru cr nw nb r FF A' ∧ xx_same (b + 16) (b + 46) A A'
set_option maxHeartbeats 2000000 in
theorem c_X6_digest (hst : l.stackTraces = false) (hX : xx_w b (layX b) A) (hG : gI b ru cr nw nb r FF A) (hT : xx_w (b + 2) (layT sg (b + 2) T) A) (hlen : T.1 1 = nI len) : xx_C G l yX6_digest mX6_digest 4 93 0 0 [.ref b] A n (dgX b n ru cr nw nb r len FF A) := by
  obtain ⟨R, F, F2, PS, hR, hF, hF2, hP, hru, he, hok⟩ := hG
  have hn : F.1 0 = nI nw := hok.1.1
  have h12 := hok.1.2
  have hb : F.1 5 = nI nb := hok.2.1.1
  have h6 := hok.2.1.2
  obtain ⟨en, mt, hmt, hro, hrl⟩ := id hru
  refine J_C hst (by decide +kernel) rfl rfl rfl (Nat.le_of_ble_eq_true rfl) ?_
  show xx_J _ _ _ _ _ _ _ _ 0 [(0, _)] [] _ _ _ _
  refine J_ldc2 dX6_digest_0 kl_X6_212 ?_
  refine J_lstore_n (L' := [(1, _), (0, _)]) dX6_digest_3 rfl (by decide) rfl ?_
  refine J_lload_n dX6_digest_4 rfl rfl ?_
  refine J_ldc2 dX6_digest_5 kl_X6_214 ?_
  refine J_lmul dX6_digest_8 ?_
  refine J_aload_n dX6_digest_9 rfl rfl ?_
  refine J_callVr (As := []) dX6_digest_10 ml_X6_216 cal_X6_wrestlers im_X6_wrestlers se_X6_wrestlers (hX.at 0 rfl) rfl rfl rfl (Nat.le_of_ble_eq_true rfl) ⟨by decide, by decide⟩ ⟨by decide, by decide⟩ (c_X6_wrestlers hst hX hF hR hn h12 hb h6) ?_
  refine J_i2l dX6_digest_13 rfl ?_
  refine J_ladd dX6_digest_14 ?_
  refine J_lstore_n (L' := [(1, _), (0, _)]) dX6_digest_15 rfl (by decide) rfl ?_
  refine J_lload_n dX6_digest_16 rfl rfl ?_
  refine J_ldc2 dX6_digest_17 kl_X6_214 ?_
  refine J_lmul dX6_digest_20 ?_
  refine J_aload_n dX6_digest_21 rfl rfl ?_
  refine J_callVr (As := []) dX6_digest_22 ml_X6_218 cal_X6_wrestlersIn im_X6_wrestlersIn se_X6_wrestlersIn (hX.at 0 rfl) rfl rfl rfl (Nat.le_of_ble_eq_true rfl) ⟨by decide, by decide⟩ ⟨by decide, by decide⟩ (c_X6_wrestlersIn hst hX hF hR hn h12 hb h6) ?_
  refine J_i2l dX6_digest_25 rfl ?_
  refine J_ladd dX6_digest_26 ?_
  refine J_lstore_n (L' := [(1, _), (0, _)]) dX6_digest_27 rfl (by decide) rfl ?_
  refine J_lload_n dX6_digest_28 rfl rfl ?_
  refine J_ldc2 dX6_digest_29 kl_X6_214 ?_
  refine J_lmul dX6_digest_32 ?_
  refine J_aload_n dX6_digest_33 rfl rfl ?_
  refine J_callVr (As := []) dX6_digest_34 ml_X6_221 cal_X6_rules im_X6_rules se_X6_rules (hX.at 0 rfl) rfl rfl rfl (Nat.le_of_ble_eq_true rfl) ⟨by decide, by decide⟩ ⟨by decide, by decide⟩ (c_X6_rules hst hX hF hR hn h12 hb h6) ?_
  refine J_i2l dX6_digest_37 rfl ?_
  refine J_ladd dX6_digest_38 ?_
  refine J_lstore_n (L' := [(1, _), (0, _)]) dX6_digest_39 rfl (by decide) rfl ?_
  refine J_lload_n dX6_digest_40 rfl rfl ?_
  refine J_ldc2 dX6_digest_41 kl_X6_214 ?_
  refine J_lmul dX6_digest_44 ?_
  refine J_aload_n dX6_digest_45 rfl rfl ?_
  refine J_callVr (As := []) dX6_digest_46 ml_X6_223 cal_X6_rounds im_X6_rounds se_X6_rounds (hX.at 0 rfl) rfl rfl rfl (Nat.le_of_ble_eq_true rfl) ⟨by decide, by decide⟩ ⟨by decide, by decide⟩ (c_X6_rounds hst hX hF hR hn h12 hb h6) ?_
  refine J_i2l dX6_digest_49 rfl ?_
  refine J_ladd dX6_digest_50 ?_
  refine J_lstore_n (L' := [(1, _), (0, _)]) dX6_digest_51 rfl (by decide) rfl ?_
  refine J_lload_n dX6_digest_52 rfl rfl ?_
  refine J_ldc2 dX6_digest_53 kl_X6_214 ?_
  refine J_lmul dX6_digest_56 ?_
  refine J_aload_n dX6_digest_57 rfl rfl ?_
  refine J_callVr (As := []) dX6_digest_58 ml_X6_225 cal_X6_tapeBytes im_X6_tapeBytes se_X6_tapeBytes (hX.at 0 rfl) rfl rfl rfl (Nat.le_of_ble_eq_true rfl) ⟨by decide, by decide⟩ ⟨by decide, by decide⟩ (c_X6_tapeBytes hst hX hT) ?_
  refine J_i2l dX6_digest_61 rfl ?_
  refine J_ladd dX6_digest_62 ?_
  refine J_lstore_n (L' := [(1, _), (0, _)]) dX6_digest_63 rfl (by decide) rfl ?_
  refine J_lload_n dX6_digest_64 rfl rfl ?_
  refine J_ldc2 dX6_digest_65 kl_X6_214 ?_
  refine J_lmul dX6_digest_68 ?_
  refine J_aload_n dX6_digest_69 rfl rfl ?_
  refine J_callVr (As := []) dX6_digest_70 ml_X6_228 cal_X6_bouts im_X6_bouts se_X6_bouts (hX.at 0 rfl) rfl rfl rfl (Nat.le_of_ble_eq_true rfl) ⟨by decide, by decide⟩ ⟨by decide, by decide⟩ (c_X6_bouts hst hX hF hR hn h12 hb h6) ?_
  refine J_i2l dX6_digest_73 rfl ?_
  refine J_ladd dX6_digest_74 ?_
  refine J_lstore_n (L' := [(1, _), (0, _)]) dX6_digest_75 rfl (by decide) rfl ?_
  refine J_lload_n dX6_digest_76 rfl rfl ?_
  refine J_ldc2 dX6_digest_77 kl_X6_214 ?_
  refine J_lmul dX6_digest_80 ?_
  refine J_aload_n dX6_digest_81 rfl rfl ?_
  refine J_callVr (As := []) dX6_digest_82 ml_X6_230 cal_X6_openBouts im_X6_openBouts se_X6_openBouts (hX.at 0 rfl) rfl rfl rfl (Nat.le_of_ble_eq_true rfl) ⟨by decide, by decide⟩ ⟨by decide, by decide⟩ (c_X6_openBouts hst hX hF hR hn h12 hb h6) ?_
  refine J_i2l dX6_digest_85 rfl ?_
  refine J_ladd dX6_digest_86 ?_
  refine J_lstore_n (L' := [(1, _), (0, _)]) dX6_digest_87 rfl (by decide) rfl ?_
  refine J_aload_n dX6_digest_88 rfl rfl ?_
  refine J_getf dX6_digest_89 fl_X6_31 (hX.at 0 rfl) rfl ?_
  refine J_callVw (As := []) dX6_digest_92 ml_X6_120 cal_X0_putInOrder im_X0_putInOrder se_X0_putInOrder (hF.at 0 rfl) rfl rfl rfl (Nat.le_of_ble_eq_true rfl) ⟨by decide, by decide⟩ ⟨by decide, by decide⟩ (c_X0_putInOrder hst hF hn h12) (fun A1 hQ1 => ?_)
  obtain ⟨mp1, o1, ls1, wF1, sF1, hor1⟩ := hQ1
  have w1X := hX.s2 sF1 (m := 1) rfl (by omega)
  have w1R2 := hR.s2 sF1 (m := 6) rfl (by omega)
  have w1F2 := hF2.s2 sF1 (m := 9) rfl (by omega)
  have w1P := hP.s2 sF1 (m := 6) rfl (by omega)
  have w1T := hT.s2 sF1 (m := 5) rfl (by omega)
  have he1 := eqF.o78 (mp := mp1) (o := o1) (nw := nw) (nb := nb) (F := F)
  obtain ⟨F1, hF1e⟩ : ∃ F1, F1 = a_up (a_up F 8 mp1) 7 o1 := ⟨_, rfl⟩
  rw [← hF1e] at wF1 he1
  have hor1 : ordOf (f_R F1 nw) nw (F1.2 7) ls1 := by rw [hF1e]; exact hor1
  have hn1 : F1.1 0 = nI nw := by rw [hF1e]; exact hn
  have hb1 : F1.1 5 = nI nb := by rw [hF1e]; exact hb
  have hok1 := he1.symm.ok hok
  have heF := he1.trans he
  refine J_iconst (v := 0) dX6_digest_95 (by decide) ?_
  refine J_istore_n (L' := [(3, _), (1, _), (0, _)]) dX6_digest_96 rfl (by decide) rfl ?_
  have loop : ∀ i, i ≤ nw → ∀ (x : Int32) (y : Int64) , (x = nI i) → (y = dgN F1 nw (dgs (dgs (dgs (dgs (dgs (dgs (dgs 967 (F1.1 0)) (bx_sum (fun w => F1.2 2 (8 * 12 + w)) nw)) (nI cr)) (F1.1 1)) (nI len)) (F1.1 5)) (bx_sum (opn (F1.2 6)) nb)) i) → xx_J G l mX6_digest 4 93 0 0 (dgX b n ru cr nw nb r len FF A) 97 [(3, .int x), (1, .long y), (0, .ref b)] [] A1 n 0 0 := by
    refine xx_dn ?_ ?_
    · intro x  y   hx hy
      have ex : x.toInt = nw := by rw [hx]; exact i_n (by omega)
      have en : (F1.1 0).toInt = nw := by rw [hn1]; exact i_n (by omega)
      refine J_iload_n dX6_digest_97 rfl rfl ?_
      refine J_aload_n dX6_digest_98 rfl rfl ?_
      refine J_getf dX6_digest_99 fl_X6_31 (w1X.at 0 rfl) rfl ?_
      refine J_getf dX6_digest_102 fl_X6_93 (wF1.at 0 rfl) rfl ?_
      refine J_icmp_ge (tgt := 121) dX6_digest_105 rfl (fun h105 => ?_) (fun h105 => ?_)
      · refine J_iconst (v := 0) dX6_digest_121 (by decide) ?_
        refine J_istore_n (L' := [(3, _), (1, _), (0, _)]) dX6_digest_122 rfl (by decide) rfl ?_
        have loop2 : ∀ i, i ≤ nb → ∀ (x : Int32) (y : Int64) , (x = nI i) → (y = dgB F1 (dgN F1 nw (dgs (dgs (dgs (dgs (dgs (dgs (dgs 967 (F1.1 0)) (bx_sum (fun w => F1.2 2 (8 * 12 + w)) nw)) (nI cr)) (F1.1 1)) (nI len)) (F1.1 5)) (bx_sum (opn (F1.2 6)) nb)) nw) i) → xx_J G l mX6_digest 4 93 0 0 (dgX b n ru cr nw nb r len FF A) 123 [(3, .int x), (1, .long y), (0, .ref b)] [] A1 n 0 0 := by
          refine xx_dn ?_ ?_
          · intro x  y   hx hy
            have ex : x.toInt = nb := by rw [hx]; exact i_n (by omega)
            have en : (F1.1 5).toInt = nb := by rw [hb1]; exact i_n (by omega)
            refine J_iload_n dX6_digest_123 rfl rfl ?_
            refine J_aload_n dX6_digest_124 rfl rfl ?_
            refine J_getf dX6_digest_125 fl_X6_31 (w1X.at 0 rfl) rfl ?_
            refine J_getf dX6_digest_128 fl_X6_103 (wF1.at 0 rfl) rfl ?_
            refine J_icmp_ge (tgt := 188) dX6_digest_131 rfl (fun h131 => ?_) (fun h131 => ?_)
            · refine J_lload_n dX6_digest_188 rfl rfl ?_
              refine J_lreturn dX6_digest_189 rfl (by decide) (by decide) ?_
              exact ⟨rfl, by rw [hy, ← dgA_c heF]; rfl, ⟨_, _, _, _, w1R2, wF1, w1F2, w1P, hru, heF, hok1⟩, ((xx_same.rf (b := b + 16) (e := b + 46)).trans (sF1.wide (by omega) (by omega)))⟩
            · first | (exfalso; simp only [i_lt, i_le, i_eq, i_0, i_1, i_2, i_3, i_4, i_5, i_6, i_8, i_9, i_10, i_12, i_16, i_20, i_m1, i_400, i_2000] at h131; omega) | (exfalso; simp only [s_up, a_up, va_up, i_lt, i_le, i_eq, i_0, i_1, i_2, i_3, i_4, i_5, i_6, i_8, i_9, i_10, i_12, i_16, i_20, i_m1, i_400, i_2000, ↓reduceIte, Nat.reduceEqDiff] at h131; omega)
          · intro i hii ih x  y   hx hy
            have ex : x.toInt = i := by rw [hx]; exact i_n (by omega)
            have en : (F1.1 5).toInt = nb := by rw [hb1]; exact i_n (by omega)
            refine J_iload_n dX6_digest_123 rfl rfl ?_
            refine J_aload_n dX6_digest_124 rfl rfl ?_
            refine J_getf dX6_digest_125 fl_X6_31 (w1X.at 0 rfl) rfl ?_
            refine J_getf dX6_digest_128 fl_X6_103 (wF1.at 0 rfl) rfl ?_
            refine J_icmp_ge (tgt := 188) dX6_digest_131 rfl (fun h131 => ?_) (fun h131 => ?_)
            · first | (exfalso; simp only [i_lt, i_le, i_eq, i_0, i_1, i_2, i_3, i_4, i_5, i_6, i_8, i_9, i_10, i_12, i_16, i_20, i_m1, i_400, i_2000] at h131; omega) | (exfalso; simp only [s_up, a_up, va_up, i_lt, i_le, i_eq, i_0, i_1, i_2, i_3, i_4, i_5, i_6, i_8, i_9, i_10, i_12, i_16, i_20, i_m1, i_400, i_2000, ↓reduceIte, Nat.reduceEqDiff] at h131; omega)
            · refine J_lload_n dX6_digest_134 rfl rfl ?_
              refine J_ldc2 dX6_digest_135 kl_X6_214 ?_
              refine J_lmul dX6_digest_138 ?_
              refine J_aload_n dX6_digest_139 rfl rfl ?_
              refine J_getf dX6_digest_140 fl_X6_31 (w1X.at 0 rfl) rfl ?_
              refine J_iload_n dX6_digest_143 rfl rfl ?_
              refine J_callVr (As := [_]) dX6_digest_144 ml_X6_144 cal_X0_redIn im_X0_redIn se_X0_redIn (wF1.at 0 rfl) rfl rfl rfl (Nat.le_of_ble_eq_true rfl) ⟨by decide, by decide⟩ ⟨by decide, by decide⟩ (c_X0_redIn hst wF1 hb1 h6 hx hii) ?_
              refine J_i2l dX6_digest_147 rfl ?_
              refine J_ladd dX6_digest_148 ?_
              refine J_lstore_n (L' := [(1, _), (3, _), (0, _)]) dX6_digest_149 rfl (by decide) rfl ?_
              refine J_lload_n dX6_digest_150 rfl rfl ?_
              refine J_ldc2 dX6_digest_151 kl_X6_214 ?_
              refine J_lmul dX6_digest_154 ?_
              refine J_aload_n dX6_digest_155 rfl rfl ?_
              refine J_getf dX6_digest_156 fl_X6_31 (w1X.at 0 rfl) rfl ?_
              refine J_iload_n dX6_digest_159 rfl rfl ?_
              refine J_callVr (As := [_]) dX6_digest_160 ml_X6_147 cal_X0_blueIn im_X0_blueIn se_X0_blueIn (wF1.at 0 rfl) rfl rfl rfl (Nat.le_of_ble_eq_true rfl) ⟨by decide, by decide⟩ ⟨by decide, by decide⟩ (c_X0_blueIn hst wF1 hb1 h6 hx hii) ?_
              refine J_i2l dX6_digest_163 rfl ?_
              refine J_ladd dX6_digest_164 ?_
              refine J_lstore_n (L' := [(1, _), (3, _), (0, _)]) dX6_digest_165 rfl (by decide) rfl ?_
              refine J_lload_n dX6_digest_166 rfl rfl ?_
              refine J_ldc2 dX6_digest_167 kl_X6_214 ?_
              refine J_lmul dX6_digest_170 ?_
              refine J_aload_n dX6_digest_171 rfl rfl ?_
              refine J_getf dX6_digest_172 fl_X6_31 (w1X.at 0 rfl) rfl ?_
              refine J_iload_n dX6_digest_175 rfl rfl ?_
              refine J_callVr (As := [_]) dX6_digest_176 ml_X6_150 cal_X0_outcomeIn im_X0_outcomeIn se_X0_outcomeIn (wF1.at 0 rfl) rfl rfl rfl (Nat.le_of_ble_eq_true rfl) ⟨by decide, by decide⟩ ⟨by decide, by decide⟩ (c_X0_outcomeIn hst wF1 hb1 h6 hx hii) ?_
              refine J_i2l dX6_digest_179 rfl ?_
              refine J_ladd dX6_digest_180 ?_
              refine J_lstore_n (L' := [(1, _), (3, _), (0, _)]) dX6_digest_181 rfl (by decide) rfl ?_
              refine J_iinc (v := _ + 1) (L' := [(3, _), (1, _), (0, _)]) dX6_digest_182 rfl rfl (by decide) rfl ?_
              refine J_goto (tgt := 123) dX6_digest_185 rfl ?_
              refine xx_J.pick [0, 1, 2] rfl ?_
              exact ih _ _  (by rw [hx]; exact nI_1 i) (by rw [hy]; rfl)
        refine xx_J.pick [0, 1, 2] rfl ?_
        exact loop2 0 (by omega) _ _  rfl (by rw [hy]; rfl)
      · first | (exfalso; simp only [i_lt, i_le, i_eq, i_0, i_1, i_2, i_3, i_4, i_5, i_6, i_8, i_9, i_10, i_12, i_16, i_20, i_m1, i_400, i_2000] at h105; omega) | (exfalso; simp only [s_up, a_up, va_up, i_lt, i_le, i_eq, i_0, i_1, i_2, i_3, i_4, i_5, i_6, i_8, i_9, i_10, i_12, i_16, i_20, i_m1, i_400, i_2000, ↓reduceIte, Nat.reduceEqDiff] at h105; omega)
    · intro i hii ih x  y   hx hy
      subst hx
      have ex : (nI i).toInt = i := i_n (by omega)
      have en : (F1.1 0).toInt = nw := by rw [hn1]; exact i_n (by omega)
      refine J_iload_n dX6_digest_97 rfl rfl ?_
      refine J_aload_n dX6_digest_98 rfl rfl ?_
      refine J_getf dX6_digest_99 fl_X6_31 (w1X.at 0 rfl) rfl ?_
      refine J_getf dX6_digest_102 fl_X6_93 (wF1.at 0 rfl) rfl ?_
      refine J_icmp_ge (tgt := 121) dX6_digest_105 rfl (fun h105 => ?_) (fun h105 => ?_)
      · first | (exfalso; simp only [i_lt, i_le, i_eq, i_0, i_1, i_2, i_3, i_4, i_5, i_6, i_8, i_9, i_10, i_12, i_16, i_20, i_m1, i_400, i_2000] at h105; omega) | (exfalso; simp only [s_up, a_up, va_up, i_lt, i_le, i_eq, i_0, i_1, i_2, i_3, i_4, i_5, i_6, i_8, i_9, i_10, i_12, i_16, i_20, i_m1, i_400, i_2000, ↓reduceIte, Nat.reduceEqDiff] at h105; omega)
      · refine J_aload_n dX6_digest_108 rfl rfl ?_
        refine J_lload_n dX6_digest_109 rfl rfl ?_
        refine J_iload_n dX6_digest_110 rfl rfl ?_
        refine J_callVr (As := [_, _]) dX6_digest_111 ml_X6_233 cal_X6_digestWrestler im_X6_digestWrestler se_X6_digestWrestler (w1X.at 0 rfl) rfl rfl rfl (Nat.le_of_ble_eq_true rfl) ⟨by decide, by decide⟩ ⟨by decide, by decide⟩ (c_X6_digestWrestler hst w1X wF1 hn1 h12 hor1 hii _) ?_
        refine J_lstore_n (L' := [(1, _), (3, _), (0, _)]) dX6_digest_114 rfl (by decide) rfl ?_
        refine J_iinc (v := _ + 1) (L' := [(3, _), (1, _), (0, _)]) dX6_digest_115 rfl rfl (by decide) rfl ?_
        refine J_goto (tgt := 97) dX6_digest_118 rfl ?_
        refine xx_J.pick [0, 1, 2] rfl ?_
        exact ih _ _  (nI_1 i) (by rw [hy]; rfl)
  refine xx_J.pick [0, 1, 2] rfl ?_
  exact loop 0 (by omega) _ _  rfl (by rw [← hro.1, ← hlen, hF1e]; rfl)
end XDH
