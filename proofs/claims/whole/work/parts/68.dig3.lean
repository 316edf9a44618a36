/-! THE REFERENCE: digest -/
section XDI
variable {G : xx_G} {l : Launch} {A A' : xx_H} {n : Nat} {b bm bp bs bn ba : Nat} {vL nl : Nat → Int64} {M M' M1 P P' S S1 F FF F' R PS F2 D R0 T : xS} {len i j k q s e t d nt tok v m nw nb r cr w : Nat} {tk : Nat → Nat} {ru : xS → Nat → Nat → Int32} {sg : Nat → Option Nat}
def dgMQ (bm bp bn ba n : Nat) (vL : Nat → Int64) (M : xS) (A : xx_H) (y : Int64) : xx_Q := fun x A' n' => x = .inl (some (.long y)) ∧ n ≤ n' ∧ n' ≤ n + 13 ∧ xx_nf bm n A A' ∧ ∃ M', mS M M' ∧ M'.1 0 = 0 ∧ xx_w bm (layM bp vL bn ba bm M') A'
theorem xx_bl.nf {n1 : Nat} {A0 : xx_H} (h : xx_nf bm n A0 A) (hs : xx_bl n1 A A') (hn : n ≤ n1) : xx_nf bm n A0 A' := fun z h1 h2 => (hs z (by omega)).trans (h z h1 h2)
set_option maxHeartbeats 4000000 in
theorem c_X9_digest (hst : l.stackTraces = false) (hM : xx_w bm (layM bp vL bn ba bm M) A) (hN : xx_w bp (layN nl bp P) A) (hS : xx_w bn (layS bn S) A) (hap : apR bm bp bn) (hok : okF (fS S P) nw nb r) (hcr : P.1 4 = nI cr) (hlen : M.1 2 = nI len) (hbn1 : bm + 48 ≤ n) (hbn2 : bp + 9 ≤ n) (hbn3 : bn + 14 ≤ n) : xx_C G l yX9_digest mX9_digest 5 124 13 139 [.ref bm] A n (dgMQ bm bp bn ba n vL M A (dgA (fS S P) nw nb cr len)) := by
  have hn : P.1 0 = nI nw := hok.1.1
  have h12 := hok.1.2
  have hb : S.1 1 = nI nb := hok.2.1.1
  have h6 := hok.2.1.2
  refine J_C hst (by decide +kernel) rfl rfl rfl (Nat.le_of_ble_eq_true rfl) ?_
  show xx_J _ _ _ _ _ _ _ _ 0 [(0, _)] [] _ _ _ _
  refine J_aload_n dX9_digest_0 rfl rfl ?_
  refine J_iconst (v := 0) dX9_digest_1 (by decide) ?_
  refine J_putf dX9_digest_2 fp_X9_62 (fun _ => ⟨rfl, rfl⟩) (hM.at 0 rfl) (Nat.le_of_ble_eq_true rfl) ?_
  refine J_genA (wM_s0_0 hM _) ((xx_nf.rf (bm := bm) (n := n)).put (by omega) (by omega) _) (fun A1 w1 s1 o1 => ?_)
  have w1N := hN.mo o1 (m := 9) rfl hap.p (Or.inl rfl)
  have w1S := hS.mo o1 (m := 14) rfl hap.s (Or.inl rfl)
  refine J_bipush (v := 7) dX9_digest_5 (by decide) ?_
  refine J_newi (N := 7) dX9_digest_7 ac_int (by decide) (by decide) (by decide) (Nat.le_of_ble_eq_true rfl) (Nat.le_of_ble_eq_true rfl) ?_
  refine J_genA (b := n) (cs := [(0, .inl (0, 7, .inl (fun _ => 0)))]) (xx_w_cons (xx_up_s _ _ _) xx_w_nil) (s1.put (Or.inr (Nat.le_refl n)) rfl _) (fun A40 w40 s40 o40 => ?_)
  have hM40 := w1.o2 o40 (m := 48) rfl (by omega)
  have hN40 := w1N.o2 o40 (m := 9) rfl (by omega)
  have hS40 := w1S.o2 o40 (m := 14) rfl (by omega)
  refine J_dup dX9_digest_9 rfl ?_
  refine J_iconst (v := 0) dX9_digest_10 (by decide) ?_
  refine J_aload_n dX9_digest_11 rfl rfl ?_
  refine J_getf dX9_digest_12 fl_X9_20 (hM40.at 0 rfl) rfl ?_
  refine J_getf dX9_digest_15 fl_X9_65 (hN40.at 0 rfl) rfl ?_
  refine J_iastN 0 dX9_digest_18 (w40.at 0 rfl) rfl (by omega) (by decide) ?_
  refine J_genA (wZ7_a0 w40 _) (s40.put (Or.inr (by omega)) rfl _) (fun A61 w61 s61 o61 => ?_)
  have w61M := hM40.o2 o61 (m := 48) rfl (by omega)
  have w61N := hN40.o2 o61 (m := 9) rfl (by omega)
  have w61S := hS40.o2 o61 (m := 14) rfl (by omega)
  refine J_dup dX9_digest_19 rfl ?_
  refine J_iconst (v := 1) dX9_digest_20 (by decide) ?_
  refine J_aload_n dX9_digest_21 rfl rfl ?_
  refine J_aload_n dX9_digest_22 rfl rfl ?_
  refine J_getf dX9_digest_23 fl_X9_40 (w61M.at 0 rfl) rfl ?_
  refine J_callVr (As := [_]) dX9_digest_26 ml_X9_104 cal_X9_in im_X9_in se_X9_in (w61M.at 0 rfl) rfl rfl rfl (Nat.le_of_ble_eq_true rfl) ⟨by decide, by decide⟩ ⟨by omega, by omega⟩ (c_X9_in hst w61M w61N w61S hn h12) ?_
  refine J_iastN 1 dX9_digest_29 (w61.at 0 rfl) rfl (by omega) (by decide) ?_
  refine J_genA (wZ7_a0 w61 _) (s61.put (Or.inr (by omega)) rfl _) (fun A62 w62 s62 o62 => ?_)
  have w62M := w61M.o2 o62 (m := 48) rfl (by omega)
  have w62N := w61N.o2 o62 (m := 9) rfl (by omega)
  have w62S := w61S.o2 o62 (m := 14) rfl (by omega)
  refine J_dup dX9_digest_30 rfl ?_
  refine J_iconst (v := 2) dX9_digest_31 (by decide) ?_
  refine J_aload_n dX9_digest_32 rfl rfl ?_
  refine J_getf dX9_digest_33 fl_X9_20 (w62M.at 0 rfl) rfl ?_
  refine J_getf dX9_digest_36 fl_X9_192 (w62N.at 0 rfl) rfl ?_
  refine J_iastN 2 dX9_digest_39 (w62.at 0 rfl) rfl (by omega) (by decide) ?_
  refine J_genA (wZ7_a0 w62 _) (s62.put (Or.inr (by omega)) rfl _) (fun A63 w63 s63 o63 => ?_)
  have w63M := w62M.o2 o63 (m := 48) rfl (by omega)
  have w63N := w62N.o2 o63 (m := 9) rfl (by omega)
  have w63S := w62S.o2 o63 (m := 14) rfl (by omega)
  refine J_dup dX9_digest_40 rfl ?_
  refine J_iconst (v := 3) dX9_digest_41 (by decide) ?_
  refine J_aload_n dX9_digest_42 rfl rfl ?_
  refine J_getf dX9_digest_43 fl_X9_40 (w63M.at 0 rfl) rfl ?_
  refine J_getf dX9_digest_46 fl_X9_101 (w63S.at 0 rfl) rfl ?_
  refine J_iastN 3 dX9_digest_49 (w63.at 0 rfl) rfl (by omega) (by decide) ?_
  refine J_genA (wZ7_a0 w63 _) (s63.put (Or.inr (by omega)) rfl _) (fun A64 w64 s64 o64 => ?_)
  have w64M := w63M.o2 o64 (m := 48) rfl (by omega)
  have w64N := w63N.o2 o64 (m := 9) rfl (by omega)
  have w64S := w63S.o2 o64 (m := 14) rfl (by omega)
  refine J_dup dX9_digest_50 rfl ?_
  refine J_iconst (v := 4) dX9_digest_51 (by decide) ?_
  refine J_aload_n dX9_digest_52 rfl rfl ?_
  refine J_getf dX9_digest_53 fl_X9_259 (w64M.at 0 rfl) rfl ?_
  refine J_iastN 4 dX9_digest_56 (w64.at 0 rfl) rfl (by omega) (by decide) ?_
  refine J_genA (wZ7_a0 w64 _) (s64.put (Or.inr (by omega)) rfl _) (fun A65 w65 s65 o65 => ?_)
  have w65M := w64M.o2 o65 (m := 48) rfl (by omega)
  have w65N := w64N.o2 o65 (m := 9) rfl (by omega)
  have w65S := w64S.o2 o65 (m := 14) rfl (by omega)
  refine J_dup dX9_digest_57 rfl ?_
  refine J_iconst (v := 5) dX9_digest_58 (by decide) ?_
  refine J_aload_n dX9_digest_59 rfl rfl ?_
  refine J_getf dX9_digest_60 fl_X9_40 (w65M.at 0 rfl) rfl ?_
  refine J_getf dX9_digest_63 fl_X9_151 (w65S.at 0 rfl) rfl ?_
  refine J_iastN 5 dX9_digest_66 (w65.at 0 rfl) rfl (by omega) (by decide) ?_
  refine J_genA (wZ7_a0 w65 _) (s65.put (Or.inr (by omega)) rfl _) (fun A66 w66 s66 o66 => ?_)
  have w66M := w65M.o2 o66 (m := 48) rfl (by omega)
  have w66N := w65N.o2 o66 (m := 9) rfl (by omega)
  have w66S := w65S.o2 o66 (m := 14) rfl (by omega)
  refine J_dup dX9_digest_67 rfl ?_
  refine J_bipush (v := 6) dX9_digest_68 (by decide) ?_
  refine J_aload_n dX9_digest_70 rfl rfl ?_
  refine J_getf dX9_digest_71 fl_X9_40 (w66M.at 0 rfl) rfl ?_
  refine J_callVr (As := []) dX9_digest_74 ml_X9_97 cal_X8_open im_X8_open se_X8_open (w66S.at 0 rfl) rfl rfl rfl (Nat.le_of_ble_eq_true rfl) ⟨by decide, by decide⟩ ⟨by omega, by omega⟩ (c_X8_open hst w66S hb h6) ?_
  refine J_iastN 6 dX9_digest_77 (w66.at 0 rfl) rfl (by omega) (by decide) ?_
  refine J_genA (wZ7_a0 w66 _) (s66.put (Or.inr (by omega)) rfl _) (fun A67 w67 s67 o67 => ?_)
  have w67M := w66M.o2 o67 (m := 48) rfl (by omega)
  have w67N := w66N.o2 o67 (m := 9) rfl (by omega)
  have w67S := w66S.o2 o67 (m := 14) rfl (by omega)
  obtain ⟨g7, hg7⟩ : ∃ g, g = (upd (upd (upd (upd (upd (upd (upd (fun _ => 0) 0 (P.1 0)) 1 (bx_sum (fun w => (fS S P).2 2 (8 * 12 + w)) nw)) 2 (P.1 4)) 3 (S.1 0)) 4 (M.1 2)) 5 (S.1 1)) 6 (bx_sum (opn (S.2 13)) nb)) := ⟨_, rfl⟩
  have hVg : xx_w n [(0, .inl (0, 7, .inl g7))] A67 := by rw [hg7]; exact w67
  have egr : dgr g7 967 7 = (dgs (dgs (dgs (dgs (dgs (dgs (dgs 967 ((fS S P).1 0)) (bx_sum (fun w => (fS S P).2 2 (8 * 12 + w)) nw)) (nI cr)) ((fS S P).1 1)) (nI len)) ((fS S P).1 5)) (bx_sum (opn ((fS S P).2 6)) nb)) := by
    show dgs (dgs (dgs (dgs (dgs (dgs (dgs 967 (g7 0)) (g7 1)) (g7 2)) (g7 3)) (g7 4)) (g7 5)) (g7 6) = _
    rw [← hcr, ← hlen, hg7]
    rfl
  refine J_astore_n (L' := [(1, _), (0, _)]) dX9_digest_78 rfl (by decide) rfl ?_
  refine J_ldc2 dX9_digest_79 kl_X9_425 ?_
  refine J_lstore_n (L' := [(2, _), (1, _), (0, _)]) dX9_digest_82 rfl (by decide) rfl ?_
  refine J_aload_n dX9_digest_83 rfl rfl ?_
  refine J_astore (L' := [(4, _), (2, _), (1, _), (0, _)]) dX9_digest_84 (by decide) rfl ?_
  refine J_aload dX9_digest_86 rfl ?_
  refine J_alen dX9_digest_88 (hVg.at 0 rfl) (by decide) rfl ?_
  refine J_istore (L' := [(5, _), (4, _), (2, _), (1, _), (0, _)]) dX9_digest_89 (by decide) rfl ?_
  refine J_iconst (v := 0) dX9_digest_91 (by decide) ?_
  refine J_istore (L' := [(6, _), (5, _), (4, _), (2, _), (1, _), (0, _)]) dX9_digest_92 (by decide) rfl ?_
  have loop : ∀ i, i ≤ 7 → ∀ (x : Int32) (y : Int64) , (x = nI i) → (y = dgr g7 967 i) → xx_J G l mX9_digest 5 124 13 139 (dgMQ bm bp bn ba n vL M A (dgA (fS S P) nw nb cr len)) 94 [(6, .int x), (5, .int (Int32.ofNat 7)), (4, .ref n), (2, .long y), (0, .ref bm)] [] A67 (n + 1) (0 + 1) (0 + 7) := by
    refine xx_dn ?_ ?_
    · intro x  y   hx hy
      have ex : x.toInt = 7 := by rw [hx]; rfl
      have e7 : (Int32.ofNat 7).toInt = 7 := rfl
      refine J_iload dX9_digest_94 rfl ?_
      refine J_iload dX9_digest_96 rfl ?_
      refine J_icmp_ge (tgt := 124) dX9_digest_98 rfl (fun h98 => ?_) (fun h98 => ?_)
      · refine J_iconst (v := 0) dX9_digest_124 (by decide) ?_
        refine J_istore (L' := [(4, _), (6, _), (5, _), (2, _), (0, _)]) dX9_digest_125 (by decide) rfl ?_
        have loop2 : ∀ i, i ≤ nw → ∀ (x : Int32) (y : Int64) (A1 : xx_H) (n1 k1 j1 : Nat), (x = nI i) → (y = dgN (fS S P) nw (dgs (dgs (dgs (dgs (dgs (dgs (dgs 967 ((fS S P).1 0)) (bx_sum (fun w => (fS S P).2 2 (8 * 12 + w)) nw)) (nI cr)) ((fS S P).1 1)) (nI len)) ((fS S P).1 5)) (bx_sum (opn ((fS S P).2 6)) nb)) i) → (xx_w bm (layM bp vL bn ba bm (s_up M 0 0)) A1) → (xx_w bp (layN nl bp P) A1) → (xx_w bn (layS bn S) A1) → (xx_nf bm n A A1) → (n + 1 ≤ n1 ∧ n1 ≤ n + 1 + i) → (k1 ≤ 1 + i ∧ j1 ≤ 7 + 11 * i) → xx_J G l mX9_digest 5 124 13 139 (dgMQ bm bp bn ba n vL M A (dgA (fS S P) nw nb cr len)) 127 [(4, .int x), (2, .long y), (0, .ref bm)] [] A1 n1 k1 j1 := by
          refine xx_dn ?_ ?_
          · intro x  y  A1  n1 k1 j1  hx hy hM1 hN1 hS1 hs1 hn1 hk1
            have ex : x.toInt = nw := by rw [hx]; exact i_n (by omega)
            have en : (P.1 0).toInt = nw := by rw [hn]; exact i_n (by omega)
            refine J_iload dX9_digest_127 rfl ?_
            refine J_aload_n dX9_digest_129 rfl rfl ?_
            refine J_getf dX9_digest_130 fl_X9_20 (hM1.at 0 rfl) rfl ?_
            refine J_getf dX9_digest_133 fl_X9_65 (hN1.at 0 rfl) rfl ?_
            refine J_icmp_ge (tgt := 153) dX9_digest_136 rfl (fun h136 => ?_) (fun h136 => ?_)
            · refine J_iconst (v := 0) dX9_digest_153 (by decide) ?_
              refine J_istore (L' := [(4, _), (2, _), (0, _)]) dX9_digest_154 (by decide) rfl ?_
              have loop3 : ∀ i, i ≤ nb → ∀ (x : Int32) (y : Int64) , (x = nI i) → (y = dgB (fS S P) (dgN (fS S P) nw (dgs (dgs (dgs (dgs (dgs (dgs (dgs 967 ((fS S P).1 0)) (bx_sum (fun w => (fS S P).2 2 (8 * 12 + w)) nw)) (nI cr)) ((fS S P).1 1)) (nI len)) ((fS S P).1 5)) (bx_sum (opn ((fS S P).2 6)) nb)) nw) i) → xx_J G l mX9_digest 5 124 13 139 (dgMQ bm bp bn ba n vL M A (dgA (fS S P) nw nb cr len)) 156 [(4, .int x), (2, .long y), (0, .ref bm)] [] A1 n1 k1 j1 := by
                refine xx_dn ?_ ?_
                · intro x  y   hx hy
                  have ex : x.toInt = nb := by rw [hx]; exact i_n (by omega)
                  have en : (S.1 1).toInt = nb := by rw [hb]; exact i_n (by omega)
                  refine J_iload dX9_digest_156 rfl ?_
                  refine J_aload_n dX9_digest_158 rfl rfl ?_
                  refine J_getf dX9_digest_159 fl_X9_40 (hM1.at 0 rfl) rfl ?_
                  refine J_getf dX9_digest_162 fl_X9_151 (hS1.at 0 rfl) rfl ?_
                  refine J_icmp_ge (tgt := 224) dX9_digest_165 rfl (fun h165 => ?_) (fun h165 => ?_)
                  · refine J_lload_n dX9_digest_224 rfl rfl ?_
                    refine J_lreturn dX9_digest_225 rfl (by omega) (by omega) ?_
                    exact ⟨by rw [hy]; rfl, by omega, by omega, hs1, (s_up M 0 0), mS.s0 mS.rf, rfl, hM1⟩
                  · first | (exfalso; simp only [i_lt, i_le, i_eq, i_0, i_1, i_2, i_3, i_4, i_5, i_6, i_8, i_9, i_10, i_12, i_16, i_20, i_m1, i_400, i_2000] at h165; omega) | (exfalso; simp only [s_up, a_up, va_up, i_lt, i_le, i_eq, i_0, i_1, i_2, i_3, i_4, i_5, i_6, i_8, i_9, i_10, i_12, i_16, i_20, i_m1, i_400, i_2000, ↓reduceIte, Nat.reduceEqDiff] at h165; omega)
                · intro i hii ih x  y   hx hy
                  have ex : x.toInt = i := by rw [hx]; exact i_n (by omega)
                  have en : (S.1 1).toInt = nb := by rw [hb]; exact i_n (by omega)
                  refine J_iload dX9_digest_156 rfl ?_
                  refine J_aload_n dX9_digest_158 rfl rfl ?_
                  refine J_getf dX9_digest_159 fl_X9_40 (hM1.at 0 rfl) rfl ?_
                  refine J_getf dX9_digest_162 fl_X9_151 (hS1.at 0 rfl) rfl ?_
                  refine J_icmp_ge (tgt := 224) dX9_digest_165 rfl (fun h165 => ?_) (fun h165 => ?_)
                  · first | (exfalso; simp only [i_lt, i_le, i_eq, i_0, i_1, i_2, i_3, i_4, i_5, i_6, i_8, i_9, i_10, i_12, i_16, i_20, i_m1, i_400, i_2000] at h165; omega) | (exfalso; simp only [s_up, a_up, va_up, i_lt, i_le, i_eq, i_0, i_1, i_2, i_3, i_4, i_5, i_6, i_8, i_9, i_10, i_12, i_16, i_20, i_m1, i_400, i_2000, ↓reduceIte, Nat.reduceEqDiff] at h165; omega)
                  · refine J_lload_n dX9_digest_168 rfl rfl ?_
                    refine J_ldc2 dX9_digest_169 kl_X9_423 ?_
                    refine J_lmul dX9_digest_172 ?_
                    refine J_aload_n dX9_digest_173 rfl rfl ?_
                    refine J_getf dX9_digest_174 fl_X9_40 (hM1.at 0 rfl) rfl ?_
                    refine J_getf dX9_digest_177 fl_X9_163 (hS1.at 0 rfl) rfl ?_
                    refine J_iload dX9_digest_180 rfl ?_
                    refine J_ialdN i dX9_digest_182 (hS1.at 11 rfl) hx (by omega) (by decide) ?_
                    refine J_i2l dX9_digest_183 rfl ?_
                    refine J_ladd dX9_digest_184 ?_
                    refine J_ldc2 dX9_digest_185 kl_X9_423 ?_
                    refine J_lmul dX9_digest_188 ?_
                    refine J_aload_n dX9_digest_189 rfl rfl ?_
                    refine J_getf dX9_digest_190 fl_X9_40 (hM1.at 0 rfl) rfl ?_
                    refine J_getf dX9_digest_193 fl_X9_166 (hS1.at 0 rfl) rfl ?_
                    refine J_iload dX9_digest_196 rfl ?_
                    refine J_ialdN i dX9_digest_198 (hS1.at 12 rfl) hx (by omega) (by decide) ?_
                    refine J_i2l dX9_digest_199 rfl ?_
                    refine J_ladd dX9_digest_200 ?_
                    refine J_ldc2 dX9_digest_201 kl_X9_423 ?_
                    refine J_lmul dX9_digest_204 ?_
                    refine J_aload_n dX9_digest_205 rfl rfl ?_
                    refine J_getf dX9_digest_206 fl_X9_40 (hM1.at 0 rfl) rfl ?_
                    refine J_getf dX9_digest_209 fl_X9_177 (hS1.at 0 rfl) rfl ?_
                    refine J_iload dX9_digest_212 rfl ?_
                    refine J_ialdN i dX9_digest_214 (hS1.at 13 rfl) hx (by omega) (by decide) ?_
                    refine J_i2l dX9_digest_215 rfl ?_
                    refine J_ladd dX9_digest_216 ?_
                    refine J_lstore_n (L' := [(2, _), (4, _), (0, _)]) dX9_digest_217 rfl (by decide) rfl ?_
                    refine J_iinc (v := _ + 1) (L' := [(4, _), (2, _), (0, _)]) dX9_digest_218 rfl rfl (by decide) rfl ?_
                    refine J_goto (tgt := 156) dX9_digest_221 rfl ?_
                    refine xx_J.pick [0, 1, 2] rfl ?_
                    exact ih _ _  (by rw [hx]; exact nI_1 i) (by rw [hy]; rfl)
              refine xx_J.pick [0, 1, 2] rfl ?_
              exact loop3 0 (by omega) _ _  rfl (by rw [hy]; rfl)
            · first | (exfalso; simp only [i_lt, i_le, i_eq, i_0, i_1, i_2, i_3, i_4, i_5, i_6, i_8, i_9, i_10, i_12, i_16, i_20, i_m1, i_400, i_2000] at h136; omega) | (exfalso; simp only [s_up, a_up, va_up, i_lt, i_le, i_eq, i_0, i_1, i_2, i_3, i_4, i_5, i_6, i_8, i_9, i_10, i_12, i_16, i_20, i_m1, i_400, i_2000, ↓reduceIte, Nat.reduceEqDiff] at h136; omega)
          · intro i hii ih x  y  A1  n1 k1 j1  hx hy hM1 hN1 hS1 hs1 hn1 hk1
            subst hx
            have ex : (nI i).toInt = i := i_n (by omega)
            have en : (P.1 0).toInt = nw := by rw [hn]; exact i_n (by omega)
            refine J_iload dX9_digest_127 rfl ?_
            refine J_aload_n dX9_digest_129 rfl rfl ?_
            refine J_getf dX9_digest_130 fl_X9_20 (hM1.at 0 rfl) rfl ?_
            refine J_getf dX9_digest_133 fl_X9_65 (hN1.at 0 rfl) rfl ?_
            refine J_icmp_ge (tgt := 153) dX9_digest_136 rfl (fun h136 => ?_) (fun h136 => ?_)
            · first | (exfalso; simp only [i_lt, i_le, i_eq, i_0, i_1, i_2, i_3, i_4, i_5, i_6, i_8, i_9, i_10, i_12, i_16, i_20, i_m1, i_400, i_2000] at h136; omega) | (exfalso; simp only [s_up, a_up, va_up, i_lt, i_le, i_eq, i_0, i_1, i_2, i_3, i_4, i_5, i_6, i_8, i_9, i_10, i_12, i_16, i_20, i_m1, i_400, i_2000, ↓reduceIte, Nat.reduceEqDiff] at h136; omega)
            · refine J_aload_n dX9_digest_139 rfl rfl ?_
              refine J_lload_n dX9_digest_140 rfl rfl ?_
              refine J_iload dX9_digest_141 rfl ?_
              refine J_callV (As := [_, _]) dX9_digest_143 ml_X9_427 cal_X9_digestOne im_X9_digestOne se_X9_digestOne (hM1.at 0 rfl) rfl rfl rfl (Nat.le_of_ble_eq_true rfl) ⟨by decide, by decide⟩ ⟨by omega, by omega⟩ (c_X9_digestOne hst hM1 hN1 hS1 hap hok (by omega) (by omega) (by omega) hii _) (fun E138 A138 n138 _ hQ138 => ?_) (fun v138 A138 n138 _ hQ138 => ?_)
              · obtain ⟨_, hx9, _⟩ := hQ138
                cases hx9
              · obtain ⟨en138, ev138, bl138⟩ := hQ138
                cases ev138
                subst en138
                have w138M := xx_w.lt (m := 48) hM1 bl138 rfl (by omega)
                have w138N := xx_w.lt (m := 9) hN1 bl138 rfl (by omega)
                have w138S := xx_w.lt (m := 14) hS1 bl138 rfl (by omega)
                refine J_lstore_n (L' := [(2, _), (4, _), (0, _)]) dX9_digest_146 rfl (by decide) rfl ?_
                refine J_iinc (v := _ + 1) (L' := [(4, _), (2, _), (0, _)]) dX9_digest_147 rfl rfl (by decide) rfl ?_
                refine J_goto (tgt := 127) dX9_digest_150 rfl ?_
                refine xx_J.pick [0, 1, 2] rfl ?_
                exact ih _ _ _ _ _ _ (nI_1 i) (by rw [hy]; rfl) w138M w138N w138S (bl138.nf hs1 (by omega)) ⟨by omega, by omega⟩ ⟨by omega, by omega⟩
        refine xx_J.pick [0, 3, 4] rfl ?_
        exact loop2 0 (by omega) _ _ _ _ _ _ rfl (by rw [hy]; exact egr) w67M w67N w67S s67 ⟨Nat.le_refl _, by omega⟩ ⟨by omega, by omega⟩
      · first | (exfalso; simp only [i_lt, i_le, i_eq, i_0, i_1, i_2, i_3, i_4, i_5, i_6, i_8, i_9, i_10, i_12, i_16, i_20, i_m1, i_400, i_2000] at h98; omega) | (exfalso; simp only [s_up, a_up, va_up, i_lt, i_le, i_eq, i_0, i_1, i_2, i_3, i_4, i_5, i_6, i_8, i_9, i_10, i_12, i_16, i_20, i_m1, i_400, i_2000, ↓reduceIte, Nat.reduceEqDiff] at h98; omega)
    · intro i hii ih x  y   hx hy
      have ex : x.toInt = i := by rw [hx]; exact i_n (by omega)
      have e7 : (Int32.ofNat 7).toInt = 7 := rfl
      refine J_iload dX9_digest_94 rfl ?_
      refine J_iload dX9_digest_96 rfl ?_
      refine J_icmp_ge (tgt := 124) dX9_digest_98 rfl (fun h98 => ?_) (fun h98 => ?_)
      · first | (exfalso; simp only [i_lt, i_le, i_eq, i_0, i_1, i_2, i_3, i_4, i_5, i_6, i_8, i_9, i_10, i_12, i_16, i_20, i_m1, i_400, i_2000] at h98; omega) | (exfalso; simp only [s_up, a_up, va_up, i_lt, i_le, i_eq, i_0, i_1, i_2, i_3, i_4, i_5, i_6, i_8, i_9, i_10, i_12, i_16, i_20, i_m1, i_400, i_2000, ↓reduceIte, Nat.reduceEqDiff] at h98; omega)
      · refine J_aload dX9_digest_101 rfl ?_
        refine J_iload dX9_digest_103 rfl ?_
        refine J_ialdN i dX9_digest_105 (hVg.at 0 rfl) hx (by omega) (by decide) ?_
        refine J_istore (L' := [(7, _), (6, _), (5, _), (4, _), (2, _), (0, _)]) dX9_digest_106 (by decide) rfl ?_
        refine J_lload_n dX9_digest_108 rfl rfl ?_
        refine J_ldc2 dX9_digest_109 kl_X9_423 ?_
        refine J_lmul dX9_digest_112 ?_
        refine J_iload dX9_digest_113 rfl ?_
        refine J_i2l dX9_digest_115 rfl ?_
        refine J_ladd dX9_digest_116 ?_
        refine J_lstore_n (L' := [(2, _), (7, _), (6, _), (5, _), (4, _), (0, _)]) dX9_digest_117 rfl (by decide) rfl ?_
        refine J_iinc (v := _ + 1) (L' := [(6, _), (2, _), (7, _), (5, _), (4, _), (0, _)]) dX9_digest_118 rfl rfl (by decide) rfl ?_
        refine J_goto (tgt := 94) dX9_digest_121 rfl ?_
        refine xx_J.pick [0, 3, 4, 1, 5] rfl ?_
        exact ih _ _  (by rw [hx]; exact nI_1 i) (by rw [hy]; rfl)
  refine xx_J.pick [0, 1, 2, 3, 5] rfl ?_
  exact loop 0 (by omega) _ _  rfl rfl
end XDI
