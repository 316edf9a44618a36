/-! THE REFERENCE: tell, pair -/
section XS6
variable {G : xx_G} {l : Launch} {A A' : xx_H} {n : Nat} {bm bp bs bn ba : Nat} {vL nl : Nat → Int64} {M M' M1 P S S1 : xS}
theorem wS_add1 (P : xS) {i : Nat} {d : Int32} (w : xx_w bs (layS bs (a_up S 1 (upd (S.2 1) i (S.2 1 i + d)))) A) (hi : i < 12) : ∃ S1, xx_w bs (layS bs S1) A ∧ fS S1 P = f_add (fS S P) 1 i d ∧ S1.1 = S.1 ∧ ∀ z, z ≠ 1 → S1.2 z = S.2 z :=
  ⟨_, w, (fS_u1 hi).trans (by have c1 : (fS S P).2 2 (1 * 12 + i) = S.2 1 i := fS_c hi; rw [← c1]), rfl, fun z hz => by show va_up S.2 1 _ z = _; simp only [va_up]; rw [if_neg hz]⟩
theorem wS_add2 (P : xS) {i : Nat} {d : Int32} (w : xx_w bs (layS bs (a_up S 2 (upd (S.2 2) i (S.2 2 i + d)))) A) (hi : i < 12) : ∃ S1, xx_w bs (layS bs S1) A ∧ fS S1 P = f_add (fS S P) 2 i d ∧ S1.1 = S.1 ∧ ∀ z, z ≠ 2 → S1.2 z = S.2 z :=
  ⟨_, w, (fS_u2 hi).trans (by have c1 : (fS S P).2 2 (2 * 12 + i) = S.2 2 i := fS_c hi; rw [← c1]), rfl, fun z hz => by show va_up S.2 2 _ z = _; simp only [va_up]; rw [if_neg hz]⟩
theorem wS_add3 (P : xS) {i : Nat} {d : Int32} (w : xx_w bs (layS bs (a_up S 3 (upd (S.2 3) i (S.2 3 i + d)))) A) (hi : i < 12) : ∃ S1, xx_w bs (layS bs S1) A ∧ fS S1 P = f_add (fS S P) 3 i d ∧ S1.1 = S.1 ∧ ∀ z, z ≠ 3 → S1.2 z = S.2 z :=
  ⟨_, w, (fS_u3 hi).trans (by have c1 : (fS S P).2 2 (3 * 12 + i) = S.2 3 i := fS_c hi; rw [← c1]), rfl, fun z hz => by show va_up S.2 3 _ z = _; simp only [va_up]; rw [if_neg hz]⟩
theorem wS_add4 (P : xS) {i : Nat} {d : Int32} (w : xx_w bs (layS bs (a_up S 4 (upd (S.2 4) i (S.2 4 i + d)))) A) (hi : i < 12) : ∃ S1, xx_w bs (layS bs S1) A ∧ fS S1 P = f_add (fS S P) 4 i d ∧ S1.1 = S.1 ∧ ∀ z, z ≠ 4 → S1.2 z = S.2 z :=
  ⟨_, w, (fS_u4 hi).trans (by have c1 : (fS S P).2 2 (4 * 12 + i) = S.2 4 i := fS_c hi; rw [← c1]), rfl, fun z hz => by show va_up S.2 4 _ z = _; simp only [va_up]; rw [if_neg hz]⟩
theorem wS_add5 (P : xS) {i : Nat} {d : Int32} (w : xx_w bs (layS bs (a_up S 5 (upd (S.2 5) i (S.2 5 i + d)))) A) (hi : i < 12) : ∃ S1, xx_w bs (layS bs S1) A ∧ fS S1 P = f_add (fS S P) 5 i d ∧ S1.1 = S.1 ∧ ∀ z, z ≠ 5 → S1.2 z = S.2 z :=
  ⟨_, w, (fS_u5 hi).trans (by have c1 : (fS S P).2 2 (5 * 12 + i) = S.2 5 i := fS_c hi; rw [← c1]), rfl, fun z hz => by show va_up S.2 5 _ z = _; simp only [va_up]; rw [if_neg hz]⟩
theorem wS_add6 (P : xS) {i : Nat} {d : Int32} (w : xx_w bs (layS bs (a_up S 6 (upd (S.2 6) i (S.2 6 i + d)))) A) (hi : i < 12) : ∃ S1, xx_w bs (layS bs S1) A ∧ fS S1 P = f_add (fS S P) 6 i d ∧ S1.1 = S.1 ∧ ∀ z, z ≠ 6 → S1.2 z = S.2 z :=
  ⟨_, w, (fS_u6 hi).trans (by have c1 : (fS S P).2 2 (6 * 12 + i) = S.2 6 i := fS_c hi; rw [← c1]), rfl, fun z hz => by show va_up S.2 6 _ z = _; simp only [va_up]; rw [if_neg hz]⟩
theorem wS_add7 (P : xS) {i : Nat} {d : Int32} (w : xx_w bs (layS bs (a_up S 7 (upd (S.2 7) i (S.2 7 i + d)))) A) (hi : i < 12) : ∃ S1, xx_w bs (layS bs S1) A ∧ fS S1 P = f_add (fS S P) 7 i d ∧ S1.1 = S.1 ∧ ∀ z, z ≠ 7 → S1.2 z = S.2 z :=
  ⟨_, w, (fS_u7 hi).trans (by have c1 : (fS S P).2 2 (7 * 12 + i) = S.2 7 i := fS_c hi; rw [← c1]), rfl, fun z hz => by show va_up S.2 7 _ z = _; simp only [va_up]; rw [if_neg hz]⟩
theorem wS_set10 (P : xS) {f : Nat → Int32} (w : xx_w bs (layS bs (a_up S 10 f)) A) : ∃ S1, xx_w bs (layS bs S1) A ∧ fS S1 P = a_up (fS S P) 3 f ∧ S1.1 = S.1 ∧ S1.2 10 = f ∧ ∀ z, z ≠ 10 → S1.2 z = S.2 z :=
  ⟨_, w, fS_a10, rfl, rfl, fun z hz => by show va_up S.2 10 _ z = _; simp only [va_up]; rw [if_neg hz]⟩
theorem wS_set11 (P : xS) {f : Nat → Int32} (w : xx_w bs (layS bs (a_up S 11 f)) A) : ∃ S1, xx_w bs (layS bs S1) A ∧ fS S1 P = a_up (fS S P) 4 f ∧ S1.1 = S.1 ∧ S1.2 11 = f ∧ ∀ z, z ≠ 11 → S1.2 z = S.2 z :=
  ⟨_, w, fS_a11, rfl, rfl, fun z hz => by show va_up S.2 11 _ z = _; simp only [va_up]; rw [if_neg hz]⟩
theorem wS_set12 (P : xS) {f : Nat → Int32} (w : xx_w bs (layS bs (a_up S 12 f)) A) : ∃ S1, xx_w bs (layS bs S1) A ∧ fS S1 P = a_up (fS S P) 5 f ∧ S1.1 = S.1 ∧ S1.2 12 = f ∧ ∀ z, z ≠ 12 → S1.2 z = S.2 z :=
  ⟨_, w, fS_a12, rfl, rfl, fun z hz => by show va_up S.2 12 _ z = _; simp only [va_up]; rw [if_neg hz]⟩
theorem wS_set13 (P : xS) {f : Nat → Int32} (w : xx_w bs (layS bs (a_up S 13 f)) A) : ∃ S1, xx_w bs (layS bs S1) A ∧ fS S1 P = a_up (fS S P) 6 f ∧ S1.1 = S.1 ∧ S1.2 13 = f ∧ ∀ z, z ≠ 13 → S1.2 z = S.2 z :=
  ⟨_, w, fS_a13, rfl, rfl, fun z hz => by show va_up S.2 13 _ z = _; simp only [va_up]; rw [if_neg hz]⟩
theorem wS_gb (P : xS) {r u : Nat} (w : xx_w bs (layS bs (gbF S r u)) A) (hr : r < 12) (hu : u < 12) : ∃ S1, xx_w bs (layS bs S1) A ∧ fS S1 P = sx_2 (fS S P) r u ∧ S1.1 = S.1 ∧ ∀ z, ¬ z = 6 → ¬ z = 8 → S1.2 z = S.2 z :=
  ⟨_, w, gb_eq hr hu, rfl, fun z h6 h8 => by
    show va_up (va_up (va_up (va_up S.2 6 _) 8 _) 6 _) 8 _ z = _
    simp only [va_up]
    rw [if_neg h8, if_neg h6, if_neg h8, if_neg h6]⟩
theorem fadd_comm {F : xS} {q i q' i' : Nat} {d d' : Int32} (h : ¬ q * 12 + i = q' * 12 + i') : f_add (f_add F q i d) q' i' d' = f_add (f_add F q' i' d') q i d := by
  refine xs_ext rfl fun z => ?_
  show va_up (va_up F.2 2 _) 2 _ z = va_up (va_up F.2 2 _) 2 _ z
  simp only [va_up]
  split
  · funext p
    show upd (upd (F.2 2) (q * 12 + i) (F.2 2 (q * 12 + i) + d)) (q' * 12 + i') (upd (F.2 2) (q * 12 + i) (F.2 2 (q * 12 + i) + d) (q' * 12 + i') + d') p = upd (upd (F.2 2) (q' * 12 + i') (F.2 2 (q' * 12 + i') + d')) (q * 12 + i) (upd (F.2 2) (q' * 12 + i') (F.2 2 (q' * 12 + i') + d') (q * 12 + i) + d) p
    have hn : ¬ q' * 12 + i' = q * 12 + i := fun z => h z.symm
    simp only [upd, if_neg h, if_neg hn]
    by_cases h1 : p = q' * 12 + i'
    · have h2 : ¬ p = q * 12 + i := fun z => h (z.symm.trans h1)
      simp only [if_pos h1, if_neg h2]
    · simp only [if_neg h1]
  · rfl
theorem draw_comm {F : xS} {i j : Nat} {w : Int32} (hi : i < 12) (hj : j < 12) (h : ¬ i = j) : f_add (f_add (f_add (f_add F 3 j 1) 3 i 1) 1 j w) 1 i w = f_add (f_add (f_add (f_add F 3 i 1) 1 i w) 3 j 1) 1 j w := by
  rw [fadd_comm (F := F) (q := 3) (i := j) (q' := 3) (i' := i) (by omega)]
  rw [fadd_comm (F := f_add (f_add F 3 i 1) 3 j 1) (q := 1) (i := j) (q' := 1) (i' := i) (by omega)]
  rw [fadd_comm (F := f_add F 3 i 1) (q := 3) (i := j) (q' := 1) (i' := i) (by omega)]
set_option maxHeartbeats 2000000 in
theorem c_X9_tell (hst : l.stackTraces = false) (hM : xx_w bm (layM bp vL bn ba bm M) A) (hN : xx_w bp (layN nl bp P) A) (hS : xx_w bs (layS bs S) A) (hap : apR bm bp bs) {q : Nat} {x : Int32} (hx : x = nI q) (hq : q < 6) {i j : Nat} (hr : S.2 11 q = nI i) (hi : i < 12) (hl : S.2 12 q = nI j) (hj : j < 12) (hij : ¬ i = j) {v : Int32} (hv : v = 0 ∨ v = 1 ∨ v = 2)  : xx_C G l yX9_tell mX9_tell 0 0 0 0 [.ref bm, .ref bs, .int x, .int v] A n (xx_wr none n (fun A' => ∃ S', xx_w bs (layS bs S') A' ∧ xx_same bs (bs + 14) A A' ∧ fS S' P = tellF (fS S P) q i j v ∧ S'.1 = S.1 ∧ S'.2 9 = S.2 9)) := by

  refine J_C hst (by decide +kernel) rfl rfl rfl (Nat.le_of_ble_eq_true rfl) ?_
  show xx_J _ _ _ _ _ _ _ _ 0 [(0, _), (1, _), (2, _), (3, _)] [] _ _ _ _
  refine J_aload_n dX9_tell_0 rfl rfl ?_
  refine J_getf dX9_tell_1 fl_X9_177 (hS.at 0 rfl) rfl ?_
  refine J_iload_n dX9_tell_4 rfl rfl ?_
  refine J_iload_n dX9_tell_5 rfl rfl ?_
  refine J_iastN q dX9_tell_6 (hS.at 13 rfl) hx (by omega) (by decide) ?_
  refine J_genA (wS_a13 hS _) ((xx_same.rf (b := bs) (e := bs + 14)).put (by omega) (by omega) _) (fun A1 w1 s1 o1 => ?_)
  have w1M := layM_o hM o1 (by first | (unfold isM; have := hap.2.1; omega))
  have w1N := hN.oP o1 hap (by unfold isM; omega)
  obtain ⟨S1, wS1, eS1, iS1, vS1, oS1⟩ := wS_set13 P w1
  refine J_iload_n dX9_tell_7 rfl rfl ?_
  refine J_if_ne (tgt := 20) dX9_tell_8 rfl (fun h8 => ?_) (fun h8 => ?_)
  · refine J_aload_n dX9_tell_20 rfl rfl ?_
    refine J_getf dX9_tell_21 fl_X9_166 (wS1.at 0 rfl) rfl ?_
    refine J_iload_n dX9_tell_24 rfl rfl ?_
    refine J_ialdN q dX9_tell_25 (wS1.at 12 rfl) hx (by omega) (by decide) ?_
    refine J_istore (L' := [(4, _), (0, _), (1, _), (2, _), (3, _)]) dX9_tell_26 (by decide) rfl ?_
    refine J_iload_n dX9_tell_28 rfl rfl ?_
    refine J_if_ne (tgt := 41) dX9_tell_29 rfl (fun h29 => ?_) (fun h29 => ?_)
    · refine J_aload_n dX9_tell_41 rfl rfl ?_
      refine J_getf dX9_tell_42 fl_X9_163 (wS1.at 0 rfl) rfl ?_
      refine J_iload_n dX9_tell_45 rfl rfl ?_
      refine J_ialdN q dX9_tell_46 (wS1.at 11 rfl) hx (by omega) (by decide) ?_
      refine J_istore (L' := [(5, _), (4, _), (0, _), (1, _), (2, _), (3, _)]) dX9_tell_47 (by decide) rfl ?_
      refine J_iload_n dX9_tell_49 rfl rfl ?_
      refine J_iconst (v := 1) dX9_tell_50 (by decide) ?_
      refine J_icmp_ne (tgt := 115) dX9_tell_51 rfl (fun h51 => ?_) (fun h51 => ?_)
      · have hv1 : ¬ v = 1 := h51
        refine J_aload_n dX9_tell_115 rfl rfl ?_
        refine J_getf dX9_tell_116 fl_X9_186 (wS1.at 0 rfl) rfl ?_
        refine J_iload dX9_tell_119 rfl ?_
        refine J_dup2 dX9_tell_121 rfl rfl ?_
        refine J_ialdN j dX9_tell_122 (wS1.at 2 rfl) ((congrFun (oS1 12 (by decide)) q).trans hl) (by omega) (by decide) ?_
        refine J_iconst (v := 1) dX9_tell_123 (by decide) ?_
        refine J_iadd dX9_tell_124 ?_
        refine J_iastN j dX9_tell_125 (wS1.at 2 rfl) ((congrFun (oS1 12 (by decide)) q).trans hl) (by omega) (by decide) ?_
        refine J_genA (wS_a2 wS1 _) (s1.put (by omega) (by omega) _) (fun A2 w2 s2 o2 => ?_)
        have w2M := layM_o w1M o2 (by first | (unfold isM; have := hap.2.1; omega))
        have w2N := w1N.oP o2 hap (by unfold isM; omega)
        obtain ⟨S2, wS2, eS2, iS2, oS2⟩ := wS_add2 P w2 (show j < 12 by omega)
        refine J_aload_n dX9_tell_126 rfl rfl ?_
        refine J_getf dX9_tell_127 fl_X9_76 (wS2.at 0 rfl) rfl ?_
        refine J_iload dX9_tell_130 rfl ?_
        refine J_dup2 dX9_tell_132 rfl rfl ?_
        refine J_ialdN j dX9_tell_133 (wS2.at 1 rfl) ((congrFun (oS1 12 (by decide)) q).trans hl) (by omega) (by decide) ?_
        refine J_aload_n dX9_tell_134 rfl rfl ?_
        refine J_getf dX9_tell_135 fl_X9_20 (w2M.at 0 rfl) rfl ?_
        refine J_getf dX9_tell_138 fl_X9_180 (w2N.at 0 rfl) rfl ?_
        refine J_iconst (v := 0) dX9_tell_141 (by decide) ?_
        refine J_ialdN 0 dX9_tell_142 (w2N.at 3 rfl) rfl (by decide) (by decide) ?_
        refine J_iadd dX9_tell_143 ?_
        refine J_iastN j dX9_tell_144 (wS2.at 1 rfl) ((congrFun (oS1 12 (by decide)) q).trans hl) (by omega) (by decide) ?_
        refine J_genA (wS_a1 wS2 _) (s2.put (by omega) (by omega) _) (fun A3 w3 s3 o3 => ?_)
        have w3M := layM_o w2M o3 (by first | (unfold isM; have := hap.2.1; omega))
        have w3N := w2N.oP o3 hap (by unfold isM; omega)
        obtain ⟨S3, wS3, eS3, iS3, oS3⟩ := wS_add1 P w3 (show j < 12 by omega)
        refine J_aload_n dX9_tell_145 rfl rfl ?_
        refine J_getf dX9_tell_146 fl_X9_189 (wS3.at 0 rfl) rfl ?_
        refine J_iload dX9_tell_149 rfl ?_
        refine J_dup2 dX9_tell_151 rfl rfl ?_
        refine J_ialdN i dX9_tell_152 (wS3.at 4 rfl) ((congrFun (oS1 11 (by decide)) q).trans hr) (by omega) (by decide) ?_
        refine J_iconst (v := 1) dX9_tell_153 (by decide) ?_
        refine J_iadd dX9_tell_154 ?_
        refine J_iastN i dX9_tell_155 (wS3.at 4 rfl) ((congrFun (oS1 11 (by decide)) q).trans hr) (by omega) (by decide) ?_
        refine J_genA (wS_a4 wS3 _) (s3.put (by omega) (by omega) _) (fun A4 w4 s4 o4 => ?_)
        have w4M := layM_o w3M o4 (by first | (unfold isM; have := hap.2.1; omega))
        have w4N := w3N.oP o4 hap (by unfold isM; omega)
        obtain ⟨S4, wS4, eS4, iS4, oS4⟩ := wS_add4 P w4 (show i < 12 by omega)
        refine J_return dX9_tell_156 rfl (by decide) (by decide) ?_
        refine ⟨rfl, rfl, _, wS4, s4, ?_, ?_, ((oS4 9 (by decide))).trans (((oS3 9 (by decide))).trans (((oS2 9 (by decide))).trans ((oS1 9 (by decide)))))⟩
        · rw [eS4, eS3, eS2, eS1]
          unfold tellF winF
          first | (rw [if_neg hv1, if_pos h8]; rfl) | (rw [if_neg hv1, if_neg h8]; rfl)
        · rw [iS4, iS3, iS2, iS1]
      · have hv1 : v = 1 := h51
        refine J_aload_n dX9_tell_54 rfl rfl ?_
        refine J_getf dX9_tell_55 fl_X9_183 (wS1.at 0 rfl) rfl ?_
        refine J_iload dX9_tell_58 rfl ?_
        refine J_dup2 dX9_tell_60 rfl rfl ?_
        refine J_ialdN j dX9_tell_61 (wS1.at 3 rfl) ((congrFun (oS1 12 (by decide)) q).trans hl) (by omega) (by decide) ?_
        refine J_iconst (v := 1) dX9_tell_62 (by decide) ?_
        refine J_iadd dX9_tell_63 ?_
        refine J_iastN j dX9_tell_64 (wS1.at 3 rfl) ((congrFun (oS1 12 (by decide)) q).trans hl) (by omega) (by decide) ?_
        refine J_genA (wS_a3 wS1 _) (s1.put (by omega) (by omega) _) (fun A5 w5 s5 o5 => ?_)
        have w5M := layM_o w1M o5 (by first | (unfold isM; have := hap.2.1; omega))
        have w5N := w1N.oP o5 hap (by unfold isM; omega)
        obtain ⟨S5, wS5, eS5, iS5, oS5⟩ := wS_add3 P w5 (show j < 12 by omega)
        refine J_aload_n dX9_tell_65 rfl rfl ?_
        refine J_getf dX9_tell_66 fl_X9_183 (wS5.at 0 rfl) rfl ?_
        refine J_iload dX9_tell_69 rfl ?_
        refine J_dup2 dX9_tell_71 rfl rfl ?_
        refine J_ialdN i dX9_tell_72 (wS5.at 3 rfl) ((congrFun (oS1 11 (by decide)) q).trans hr) (by omega) (by decide) ?_
        refine J_iconst (v := 1) dX9_tell_73 (by decide) ?_
        refine J_iadd dX9_tell_74 ?_
        refine J_iastN i dX9_tell_75 (wS5.at 3 rfl) ((congrFun (oS1 11 (by decide)) q).trans hr) (by omega) (by decide) ?_
        refine J_genA (wS_a3 wS5 _) (s5.put (by omega) (by omega) _) (fun A6 w6 s6 o6 => ?_)
        have w6M := layM_o w5M o6 (by first | (unfold isM; have := hap.2.1; omega))
        have w6N := w5N.oP o6 hap (by unfold isM; omega)
        obtain ⟨S6, wS6, eS6, iS6, oS6⟩ := wS_add3 P w6 (show i < 12 by omega)
        refine J_aload_n dX9_tell_76 rfl rfl ?_
        refine J_getf dX9_tell_77 fl_X9_76 (wS6.at 0 rfl) rfl ?_
        refine J_iload dX9_tell_80 rfl ?_
        refine J_dup2 dX9_tell_82 rfl rfl ?_
        refine J_ialdN j dX9_tell_83 (wS6.at 1 rfl) ((congrFun (oS1 12 (by decide)) q).trans hl) (by omega) (by decide) ?_
        refine J_aload_n dX9_tell_84 rfl rfl ?_
        refine J_getf dX9_tell_85 fl_X9_20 (w6M.at 0 rfl) rfl ?_
        refine J_getf dX9_tell_88 fl_X9_180 (w6N.at 0 rfl) rfl ?_
        refine J_iconst (v := 1) dX9_tell_91 (by decide) ?_
        refine J_ialdN 1 dX9_tell_92 (w6N.at 3 rfl) rfl (by decide) (by decide) ?_
        refine J_iadd dX9_tell_93 ?_
        refine J_iastN j dX9_tell_94 (wS6.at 1 rfl) ((congrFun (oS1 12 (by decide)) q).trans hl) (by omega) (by decide) ?_
        refine J_genA (wS_a1 wS6 _) (s6.put (by omega) (by omega) _) (fun A7 w7 s7 o7 => ?_)
        have w7M := layM_o w6M o7 (by first | (unfold isM; have := hap.2.1; omega))
        have w7N := w6N.oP o7 hap (by unfold isM; omega)
        obtain ⟨S7, wS7, eS7, iS7, oS7⟩ := wS_add1 P w7 (show j < 12 by omega)
        refine J_aload_n dX9_tell_95 rfl rfl ?_
        refine J_getf dX9_tell_96 fl_X9_76 (wS7.at 0 rfl) rfl ?_
        refine J_iload dX9_tell_99 rfl ?_
        refine J_dup2 dX9_tell_101 rfl rfl ?_
        refine J_ialdN i dX9_tell_102 (wS7.at 1 rfl) ((congrFun (oS1 11 (by decide)) q).trans hr) (by omega) (by decide) ?_
        refine J_aload_n dX9_tell_103 rfl rfl ?_
        refine J_getf dX9_tell_104 fl_X9_20 (w7M.at 0 rfl) rfl ?_
        refine J_getf dX9_tell_107 fl_X9_180 (w7N.at 0 rfl) rfl ?_
        refine J_iconst (v := 1) dX9_tell_110 (by decide) ?_
        refine J_ialdN 1 dX9_tell_111 (w7N.at 3 rfl) rfl (by decide) (by decide) ?_
        refine J_iadd dX9_tell_112 ?_
        refine J_iastN i dX9_tell_113 (wS7.at 1 rfl) ((congrFun (oS1 11 (by decide)) q).trans hr) (by omega) (by decide) ?_
        refine J_genA (wS_a1 wS7 _) (s7.put (by omega) (by omega) _) (fun A8 w8 s8 o8 => ?_)
        have w8M := layM_o w7M o8 (by first | (unfold isM; have := hap.2.1; omega))
        have w8N := w7N.oP o8 hap (by unfold isM; omega)
        obtain ⟨S8, wS8, eS8, iS8, oS8⟩ := wS_add1 P w8 (show i < 12 by omega)
        refine J_return dX9_tell_114 rfl (by decide) (by decide) ?_
        refine ⟨rfl, rfl, _, wS8, s8, ?_, ?_, ((oS8 9 (by decide))).trans (((oS7 9 (by decide))).trans (((oS6 9 (by decide))).trans (((oS5 9 (by decide))).trans ((oS1 9 (by decide))))))⟩
        · rw [eS8, eS7, eS6, eS5, eS1]
          unfold tellF drawF
          rw [if_pos hv1]
          exact draw_comm (F := a_up (fS S P) 6 (upd (S.2 13) q v)) hi hj hij
        · rw [iS8, iS7, iS6, iS5, iS1]
    · first | exact absurd h8 h29 | exact absurd h29 h8
  · refine J_aload_n dX9_tell_11 rfl rfl ?_
    refine J_getf dX9_tell_12 fl_X9_163 (wS1.at 0 rfl) rfl ?_
    refine J_iload_n dX9_tell_15 rfl rfl ?_
    refine J_ialdN q dX9_tell_16 (wS1.at 11 rfl) hx (by omega) (by decide) ?_
    refine J_goto (tgt := 26) dX9_tell_17 rfl ?_
    refine J_istore (L' := [(4, _), (0, _), (1, _), (2, _), (3, _)]) dX9_tell_26 (by decide) rfl ?_
    refine J_iload_n dX9_tell_28 rfl rfl ?_
    refine J_if_ne (tgt := 41) dX9_tell_29 rfl (fun h29 => ?_) (fun h29 => ?_)
    · first | exact absurd h8 h29 | exact absurd h29 h8
    · refine J_aload_n dX9_tell_32 rfl rfl ?_
      refine J_getf dX9_tell_33 fl_X9_166 (wS1.at 0 rfl) rfl ?_
      refine J_iload_n dX9_tell_36 rfl rfl ?_
      refine J_ialdN q dX9_tell_37 (wS1.at 12 rfl) hx (by omega) (by decide) ?_
      refine J_goto (tgt := 47) dX9_tell_38 rfl ?_
      refine J_istore (L' := [(5, _), (4, _), (0, _), (1, _), (2, _), (3, _)]) dX9_tell_47 (by decide) rfl ?_
      refine J_iload_n dX9_tell_49 rfl rfl ?_
      refine J_iconst (v := 1) dX9_tell_50 (by decide) ?_
      refine J_icmp_ne (tgt := 115) dX9_tell_51 rfl (fun h51 => ?_) (fun h51 => ?_)
      · have hv1 : ¬ v = 1 := h51
        refine J_aload_n dX9_tell_115 rfl rfl ?_
        refine J_getf dX9_tell_116 fl_X9_186 (wS1.at 0 rfl) rfl ?_
        refine J_iload dX9_tell_119 rfl ?_
        refine J_dup2 dX9_tell_121 rfl rfl ?_
        refine J_ialdN i dX9_tell_122 (wS1.at 2 rfl) ((congrFun (oS1 11 (by decide)) q).trans hr) (by omega) (by decide) ?_
        refine J_iconst (v := 1) dX9_tell_123 (by decide) ?_
        refine J_iadd dX9_tell_124 ?_
        refine J_iastN i dX9_tell_125 (wS1.at 2 rfl) ((congrFun (oS1 11 (by decide)) q).trans hr) (by omega) (by decide) ?_
        refine J_genA (wS_a2 wS1 _) (s1.put (by omega) (by omega) _) (fun A9 w9 s9 o9 => ?_)
        have w9M := layM_o w1M o9 (by first | (unfold isM; have := hap.2.1; omega))
        have w9N := w1N.oP o9 hap (by unfold isM; omega)
        obtain ⟨S9, wS9, eS9, iS9, oS9⟩ := wS_add2 P w9 (show i < 12 by omega)
        refine J_aload_n dX9_tell_126 rfl rfl ?_
        refine J_getf dX9_tell_127 fl_X9_76 (wS9.at 0 rfl) rfl ?_
        refine J_iload dX9_tell_130 rfl ?_
        refine J_dup2 dX9_tell_132 rfl rfl ?_
        refine J_ialdN i dX9_tell_133 (wS9.at 1 rfl) ((congrFun (oS1 11 (by decide)) q).trans hr) (by omega) (by decide) ?_
        refine J_aload_n dX9_tell_134 rfl rfl ?_
        refine J_getf dX9_tell_135 fl_X9_20 (w9M.at 0 rfl) rfl ?_
        refine J_getf dX9_tell_138 fl_X9_180 (w9N.at 0 rfl) rfl ?_
        refine J_iconst (v := 0) dX9_tell_141 (by decide) ?_
        refine J_ialdN 0 dX9_tell_142 (w9N.at 3 rfl) rfl (by decide) (by decide) ?_
        refine J_iadd dX9_tell_143 ?_
        refine J_iastN i dX9_tell_144 (wS9.at 1 rfl) ((congrFun (oS1 11 (by decide)) q).trans hr) (by omega) (by decide) ?_
        refine J_genA (wS_a1 wS9 _) (s9.put (by omega) (by omega) _) (fun A10 w10 s10 o10 => ?_)
        have w10M := layM_o w9M o10 (by first | (unfold isM; have := hap.2.1; omega))
        have w10N := w9N.oP o10 hap (by unfold isM; omega)
        obtain ⟨S10, wS10, eS10, iS10, oS10⟩ := wS_add1 P w10 (show i < 12 by omega)
        refine J_aload_n dX9_tell_145 rfl rfl ?_
        refine J_getf dX9_tell_146 fl_X9_189 (wS10.at 0 rfl) rfl ?_
        refine J_iload dX9_tell_149 rfl ?_
        refine J_dup2 dX9_tell_151 rfl rfl ?_
        refine J_ialdN j dX9_tell_152 (wS10.at 4 rfl) ((congrFun (oS1 12 (by decide)) q).trans hl) (by omega) (by decide) ?_
        refine J_iconst (v := 1) dX9_tell_153 (by decide) ?_
        refine J_iadd dX9_tell_154 ?_
        refine J_iastN j dX9_tell_155 (wS10.at 4 rfl) ((congrFun (oS1 12 (by decide)) q).trans hl) (by omega) (by decide) ?_
        refine J_genA (wS_a4 wS10 _) (s10.put (by omega) (by omega) _) (fun A11 w11 s11 o11 => ?_)
        have w11M := layM_o w10M o11 (by first | (unfold isM; have := hap.2.1; omega))
        have w11N := w10N.oP o11 hap (by unfold isM; omega)
        obtain ⟨S11, wS11, eS11, iS11, oS11⟩ := wS_add4 P w11 (show j < 12 by omega)
        refine J_return dX9_tell_156 rfl (by decide) (by decide) ?_
        refine ⟨rfl, rfl, _, wS11, s11, ?_, ?_, ((oS11 9 (by decide))).trans (((oS10 9 (by decide))).trans (((oS9 9 (by decide))).trans ((oS1 9 (by decide)))))⟩
        · rw [eS11, eS10, eS9, eS1]
          unfold tellF winF
          first | (rw [if_neg hv1, if_pos h8]; rfl) | (rw [if_neg hv1, if_neg h8]; rfl)
        · rw [iS11, iS10, iS9, iS1]
      · have hv1 : v = 1 := h51
        rw [h8] at hv1; exact absurd hv1 (by decide)
end XS6
