/-! READER: tests and sums -/
section XRT
variable {G : xx_G} {l : Launch} {b tok len : Nat} {T0 T : xS} {sg : Nat → Option Nat}
/-- method y at depth d reads as p says -/
def rdP (G : xx_G) (l : Launch) (b : Nat) (T0 : xS) (len tok : Nat) (T : xS) (sg : Nat → Option Nat) (y : MethodName) (M : xx_M) (fr lo d : Nat) (p : Nat → Res) : Prop :=
  ∀ (A : xx_H) (n : Nat) (D R : xS) (k m : Nat) (x : Int32), x = nI d → rdW b (atD D k) T R sg A → R.1 3 = nI m → m ≤ k → k < tok → 1 ≤ k → xx_C G l y M fr lo 0 0 [.ref b, .int x] A n (rdQ b n D T R sg (p k) A)
set_option maxHeartbeats 4000000 in
theorem c_X2_readSide (hst : l.stackTraces = false) (hc : tkc T0 len tok sg T) {A : xx_H} {n : Nat} {D R : xS} {k m : Nat} (hW : rdW b (atD D k) T R sg A) (hm : R.1 3 = nI m) (hmk : m ≤ k) (hk : k < tok) (h10 : ¬ cntT (scG T0 len k) = 10) {cc : Int32} : xx_C G l yX2_readSide mX2_readSide 9 300 0 0 [.ref b, .int cc] A n (rdQ b n D T R sg (sidW (scG T0 len) cc k) A) := by
  obtain ⟨hD, hT, hR⟩ := hW
  obtain ⟨hl1, hl2, ht0, ht1, hscn, hnx, hlast⟩ := id hc
  refine J_C hst (by decide +kernel) rfl rfl rfl (Nat.le_of_ble_eq_true rfl) ?_
  show xx_J _ _ _ _ _ _ _ _ 0 [(0, _), (1, _)] [] _ _ _ _
  refine J_aload_n dX2_readSide_0 rfl rfl ?_
  refine J_dup dX2_readSide_1 rfl ?_
  refine J_getf dX2_readSide_2 fl_X2_39 (hD.at 0 rfl) rfl ?_
  refine J_iconst (v := 1) dX2_readSide_5 (by decide) ?_
  refine J_iadd dX2_readSide_6 ?_
  refine J_putf dX2_readSide_7 fp_X2_39 (fun _ => ⟨rfl, rfl⟩) (hD.at 0 rfl) (Nat.le_of_ble_eq_true rfl) ?_
  refine J_gen (wD_s0_6 hD _) ((xx_same.rf (b := b) (e := b + 15)).put (by omega) (by omega) _) (fun A1 w1 s1 o1 => ?_)
  have w1R := hR.o2 o1 (m := 6) rfl (by omega)
  have w1T := hT.o2 o1 (m := 5) rfl (by omega)
  have w1k := atD_1 w1
  have nx1 : ¬ scG T0 len k = 37 ∧ ¬ scG T0 len k = 38 := cntT_n h10
  have hk1 : k + 1 < tok := hnx _ hk nx1.1 nx1.2
  refine J_aload_n dX2_readSide_10 rfl rfl ?_
  refine J_gets (v := .ref 6) dX2_readSide_11 (gs_mem 6 (by decide)) (show (6 : Nat) < 400 by decide) sl_X2_141 ?_
  refine J_callVr (As := [_]) dX2_readSide_14 ml_X2_57 cal_X2_sees im_X2_sees se_X2_sees (w1k.at 0 rfl) rfl rfl rfl (Nat.le_of_ble_eq_true rfl) ⟨by omega, by show 8 + (2 + 11) + _ ≤ _; omega⟩ ⟨by decide, by decide⟩ (c_X2_sees hst ⟨w1k, w1T, w1R⟩ hc hk1 (v := 6) (by decide)) ?_
  refine J_ifb_ne (tgt := 32) dX2_readSide_17 rfl (fun h17 => ?_) (fun h17 => ?_)
  · refine J_aload_n dX2_readSide_32 rfl rfl ?_
    refine J_getf dX2_readSide_33 fl_X2_21 (w1k.at 0 rfl) rfl ?_
    refine J_aload_n dX2_readSide_36 rfl rfl ?_
    refine J_gets (v := .ref 6) dX2_readSide_37 (gs_mem 6 (by decide)) (show (6 : Nat) < 400 by decide) sl_X2_141 ?_
    refine J_callVr (As := [_]) dX2_readSide_40 ml_X2_57 cal_X2_sees im_X2_sees se_X2_sees (w1k.at 0 rfl) rfl rfl rfl (Nat.le_of_ble_eq_true rfl) ⟨by omega, by show 8 + (2 + 11) + _ ≤ _; omega⟩ ⟨by decide, by decide⟩ (c_X2_sees hst ⟨w1k, w1T, w1R⟩ hc hk1 (v := 6) (by decide)) ?_
    refine J_ifb_eq (tgt := 50) dX2_readSide_43 rfl (fun h43 => ?_) (fun h43 => ?_)
    · exact absurd h17 h43
    · refine J_iconst (v := 3) dX2_readSide_46 (by decide) ?_
      refine J_goto (tgt := 51) dX2_readSide_47 rfl ?_
      refine J_iload_n dX2_readSide_51 rfl rfl ?_
      refine J_callVw (As := [_, _]) dX2_readSide_52 ml_X2_229 cal_X3_emit_ im_X3_emit_ se_X3_emit_ (w1R.at 0 rfl) rfl rfl rfl (Nat.le_of_ble_eq_true rfl) ⟨by omega, by show 8 + (3 + 11) + _ ≤ _; omega⟩ ⟨by decide, by decide⟩ (c_X3_emit_ hst w1R hm (by omega) 3 (cc)) (fun A2 hQ2 => ?_)
      have wR2 := wR_emL hm (by omega) hQ2.1
      have wD2 := layD_s w1k hQ2.2 (by omega) (by omega)
      have wT2 := w1T.s2 hQ2.2 (m := 5) rfl (by omega)
      have m2 : (emL _ [((3 : Int32), (cc : Int32))]).1 3 = nI (m + 1) := emL_3 [_] hm
      refine J_aload_n dX2_readSide_55 rfl rfl ?_
      refine J_dup dX2_readSide_56 rfl ?_
      refine J_getf dX2_readSide_57 fl_X2_39 (wD2.at 0 rfl) rfl ?_
      refine J_iconst (v := 1) dX2_readSide_60 (by decide) ?_
      refine J_iadd dX2_readSide_61 ?_
      refine J_putf dX2_readSide_62 fp_X2_39 (fun _ => ⟨rfl, rfl⟩) (wD2.at 0 rfl) (Nat.le_of_ble_eq_true rfl) ?_
      refine J_gen (wD_s0_6 wD2 _) ((s1.trans (hQ2.2.wide (by omega) (by omega))).put (by omega) (by omega) _) (fun A3 w3 s3 o3 => ?_)
      have w3R := wR2.o2 o3 (m := 6) rfl (by omega)
      have w3T := wT2.o2 o3 (m := 5) rfl (by omega)
      have w3k := atD_1 w3
      have nx3 : ¬ scG T0 len (k + 1) = 37 ∧ ¬ scG T0 len (k + 1) = 38 := (by constructor <;> (first | (rw [h17]; decide) | (rw [h27]; decide)))
      have hk3 : (k + 1) + 1 < tok := hnx _ hk1 nx3.1 nx3.2
      refine J_iconst (v := 1) dX2_readSide_65 (by decide) ?_
      refine J_ireturn dX2_readSide_66 rfl rfl (by decide) (by decide) ?_
      exact rdL true ((k + 1) + 1) ([((3 : Int32), (cc : Int32))]) (by first | (simp [sidW, bnd, eat, dpt, emt, h17, h43]; done) | (simp [sidW, bnd, eat, dpt, emt, h17, h43]; exact Prod.ext (by simp_all) rfl)) rfl w3k w3T w3R (by first | rfl | simp only [emL_app]) s3
  · refine J_aload_n dX2_readSide_20 rfl rfl ?_
    refine J_gets (v := .ref 7) dX2_readSide_21 (gs_mem 7 (by decide)) (show (7 : Nat) < 400 by decide) sl_X2_144 ?_
    refine J_callVr (As := [_]) dX2_readSide_24 ml_X2_57 cal_X2_sees im_X2_sees se_X2_sees (w1k.at 0 rfl) rfl rfl rfl (Nat.le_of_ble_eq_true rfl) ⟨by omega, by show 8 + (2 + 11) + _ ≤ _; omega⟩ ⟨by decide, by decide⟩ (c_X2_sees hst ⟨w1k, w1T, w1R⟩ hc hk1 (v := 7) (by decide)) ?_
    refine J_ifb_ne (tgt := 32) dX2_readSide_27 rfl (fun h27 => ?_) (fun h27 => ?_)
    · refine J_aload_n dX2_readSide_32 rfl rfl ?_
      refine J_getf dX2_readSide_33 fl_X2_21 (w1k.at 0 rfl) rfl ?_
      refine J_aload_n dX2_readSide_36 rfl rfl ?_
      refine J_gets (v := .ref 6) dX2_readSide_37 (gs_mem 6 (by decide)) (show (6 : Nat) < 400 by decide) sl_X2_141 ?_
      refine J_callVr (As := [_]) dX2_readSide_40 ml_X2_57 cal_X2_sees im_X2_sees se_X2_sees (w1k.at 0 rfl) rfl rfl rfl (Nat.le_of_ble_eq_true rfl) ⟨by omega, by show 8 + (2 + 11) + _ ≤ _; omega⟩ ⟨by decide, by decide⟩ (c_X2_sees hst ⟨w1k, w1T, w1R⟩ hc hk1 (v := 6) (by decide)) ?_
      refine J_ifb_eq (tgt := 50) dX2_readSide_43 rfl (fun h43 => ?_) (fun h43 => ?_)
      · refine J_iconst (v := 4) dX2_readSide_50 (by decide) ?_
        refine J_iload_n dX2_readSide_51 rfl rfl ?_
        refine J_callVw (As := [_, _]) dX2_readSide_52 ml_X2_229 cal_X3_emit_ im_X3_emit_ se_X3_emit_ (w1R.at 0 rfl) rfl rfl rfl (Nat.le_of_ble_eq_true rfl) ⟨by omega, by show 8 + (3 + 11) + _ ≤ _; omega⟩ ⟨by decide, by decide⟩ (c_X3_emit_ hst w1R hm (by omega) 4 (cc)) (fun A4 hQ4 => ?_)
        have wR4 := wR_emL hm (by omega) hQ4.1
        have wD4 := layD_s w1k hQ4.2 (by omega) (by omega)
        have wT4 := w1T.s2 hQ4.2 (m := 5) rfl (by omega)
        have m4 : (emL _ [((4 : Int32), (cc : Int32))]).1 3 = nI (m + 1) := emL_3 [_] hm
        refine J_aload_n dX2_readSide_55 rfl rfl ?_
        refine J_dup dX2_readSide_56 rfl ?_
        refine J_getf dX2_readSide_57 fl_X2_39 (wD4.at 0 rfl) rfl ?_
        refine J_iconst (v := 1) dX2_readSide_60 (by decide) ?_
        refine J_iadd dX2_readSide_61 ?_
        refine J_putf dX2_readSide_62 fp_X2_39 (fun _ => ⟨rfl, rfl⟩) (wD4.at 0 rfl) (Nat.le_of_ble_eq_true rfl) ?_
        refine J_gen (wD_s0_6 wD4 _) ((s1.trans (hQ4.2.wide (by omega) (by omega))).put (by omega) (by omega) _) (fun A5 w5 s5 o5 => ?_)
        have w5R := wR4.o2 o5 (m := 6) rfl (by omega)
        have w5T := wT4.o2 o5 (m := 5) rfl (by omega)
        have w5k := atD_1 w5
        have nx5 : ¬ scG T0 len (k + 1) = 37 ∧ ¬ scG T0 len (k + 1) = 38 := (by constructor <;> (first | (rw [h17]; decide) | (rw [h27]; decide)))
        have hk5 : (k + 1) + 1 < tok := hnx _ hk1 nx5.1 nx5.2
        refine J_iconst (v := 1) dX2_readSide_65 (by decide) ?_
        refine J_ireturn dX2_readSide_66 rfl rfl (by decide) (by decide) ?_
        exact rdL true ((k + 1) + 1) ([((4 : Int32), (cc : Int32))]) (by first | (simp [sidW, bnd, eat, dpt, emt, h17, h27, h43]; done) | (simp [sidW, bnd, eat, dpt, emt, h17, h27, h43]; exact Prod.ext (by simp_all) rfl)) rfl w5k w5T w5R (by first | rfl | simp only [emL_app]) s5
      · exact absurd h43 h17
    · refine J_iconst (v := 0) dX2_readSide_30 (by decide) ?_
      refine J_ireturn dX2_readSide_31 rfl rfl (by decide) (by decide) ?_
      exact rdL false (k + 1) ([]) (by first | (simp [sidW, bnd, eat, dpt, emt, h17, h27]; done) | (simp [sidW, bnd, eat, dpt, emt, h17, h27]; exact Prod.ext (by simp_all) rfl)) rfl w1k w1T w1R (by first | rfl | simp only [emL_app]) s1
set_option maxHeartbeats 4000000 in
theorem c_X2_readNegative (hst : l.stackTraces = false) (hc : tkc T0 len tok sg T) {d : Nat} (hd8 : d ≤ 8) {pv : Nat → Res} {f0 g0 : Nat} (hv : d < 8 → rdP G l b T0 len tok T sg yX2_readValue mX2_readValue f0 g0 (d + 1) pv) (okv : pOK tok pv) {fr lo : Nat} (hf9 : 12 ≤ fr) (hg9 : 400 ≤ lo) (hf0 : f0 + 1 ≤ fr) (hg0 : g0 + 22 ≤ lo) : rdP G l b T0 len tok T sg yX2_readNegative mX2_readNegative fr lo d (negW (scG T0 len) d pv) := by
  intro A n D R k m y hy hW hm hmk hk hk1
  obtain ⟨hD, hT, hR⟩ := hW
  obtain ⟨hl1, hl2, ht0, ht1, hscn, hnx, hlast⟩ := id hc
  refine J_C hst (by decide +kernel) rfl rfl rfl (Nat.le_of_ble_eq_true rfl) ?_
  show xx_J _ _ _ _ _ _ _ _ 0 [(0, _), (1, _)] [] _ _ _ _
  refine J_aload_n dX2_readNegative_0 rfl rfl ?_
  refine J_gets (v := .ref 27) dX2_readNegative_1 (gs_mem 27 (by decide)) (show (27 : Nat) < 400 by decide) sl_X2_214 ?_
  refine J_iload_n dX2_readNegative_4 rfl rfl ?_
  refine J_callVw (As := [_, _]) dX2_readNegative_5 ml_X2_174 cal_X2_takesDeeper im_X2_takesDeeper se_X2_takesDeeper (hD.at 0 rfl) rfl rfl rfl (Nat.le_of_ble_eq_true rfl) ⟨by omega, by show 8 + (3 + 11) + _ ≤ _; omega⟩ ⟨by decide, by decide⟩ (c_X2_takesDeeper hst ⟨hD, hT, hR⟩ hc hk (v := 27) (by decide) hy hd8) (fun A1 hQ1 => ?_)
  obtain ⟨⟨wD1, wT1, wR1⟩, wS1⟩ := hQ1
  refine J_ifb_eq (tgt := 21) dX2_readNegative_8 rfl (fun h8 => ?_) (fun h8 => ?_)
  · have th8 : ¬ (d < 8 ∧ scG T0 len k = 27) := fun z => h8 (dpt_t.mpr z)
    rw [dpt_f2 th8] at wD1
    refine J_iconst (v := 0) dX2_readNegative_21 (by decide) ?_
    refine J_ireturn dX2_readNegative_22 rfl rfl (by decide) (by decide) ?_
    exact rdL false k ([]) (by first | (simp [negW, bnd, eat, dpt, emt, th8]; done) | (simp [negW, bnd, eat, dpt, emt, th8]; exact Prod.ext (by simp_all) rfl)) rfl wD1 wT1 wR1 (by first | rfl | simp only [emL_app]) ((xx_same.rf (b := b) (e := b + 15)).trans wS1)
  · have th8 := (dpt_t.mp h8)
    rw [dpt_t2 th8] at wD1
    have kh8 : k + 1 < tok := hnx _ hk (by rw [th8.2]; decide) (by rw [th8.2]; decide)
    refine J_aload_n dX2_readNegative_11 rfl rfl ?_
    refine J_iload_n dX2_readNegative_12 rfl rfl ?_
    refine J_iconst (v := 1) dX2_readNegative_13 (by decide) ?_
    refine J_iadd dX2_readNegative_14 ?_
    refine J_callVw (As := [_]) dX2_readNegative_15 ml_X2_217 cal_X2_readValue im_X2_readValue se_X2_readValue (wD1.at 0 rfl) rfl rfl rfl (Nat.le_of_ble_eq_true rfl) ⟨by omega, by show 8 + (3 + 11) + _ ≤ _; omega⟩ ⟨by decide, by decide⟩ ((hv (by omega)) _ _ _ _ (k + 1) m _ (by rw [hy]; exact nI_1 d) ⟨wD1, wT1, wR1⟩ hm (by omega) kh8 (by omega)) (fun A2 hQ2 => ?_)
    obtain ⟨⟨wD2, wT2, wR2⟩, wS2⟩ := hQ2
    have g2 := okv (k + 1) kh8
    have m2 := emL_3 (pv (k + 1)).2.2 hm
    refine J_ifb_ne (tgt := 23) dX2_readNegative_18 rfl (fun h18 => ?_) (fun h18 => ?_)
    · refine J_aload_n dX2_readNegative_23 rfl rfl ?_
      refine J_getf dX2_readNegative_24 fl_X2_21 (wD2.at 0 rfl) rfl ?_
      refine J_bipush (v := 6) dX2_readNegative_27 (by decide) ?_
      refine J_callVw (As := [_]) dX2_readNegative_29 ml_X2_156 cal_X3_emit im_X3_emit se_X3_emit (wR2.at 0 rfl) rfl rfl rfl (Nat.le_of_ble_eq_true rfl) ⟨by omega, by show 8 + (2 + 11) + _ ≤ _; omega⟩ ⟨by decide, by decide⟩ (c_X3_emit hst wR2 m2 (by omega) 6) (fun A3 hQ3 => ?_)
      have wR3 := wR_emL m2 (by omega) hQ3.1
      have wD3 := layD_s wD2 hQ3.2 (by omega) (by omega)
      have wT3 := wT2.s2 hQ3.2 (m := 5) rfl (by omega)
      have m3 : (emL _ [((6 : Int32), (0 : Int32))]).1 3 = nI ((m + (pv (k + 1)).2.2.length) + 1) := emL_3 [_] m2
      refine J_iconst (v := 1) dX2_readNegative_32 (by decide) ?_
      refine J_ireturn dX2_readNegative_33 rfl rfl (by decide) (by decide) ?_
      exact rdL true (pv (k + 1)).2.1 ((pv (k + 1)).2.2 ++ [((6 : Int32), (0 : Int32))]) (by first | (simp [negW, bnd, eat, dpt, emt, th8, h18]; done) | (simp [negW, bnd, eat, dpt, emt, th8, h18]; exact Prod.ext (by simp_all) rfl)) rfl wD3 wT3 wR3 (by first | rfl | simp only [emL_app]) ((((xx_same.rf (b := b) (e := b + 15)).trans wS1).trans wS2).trans (hQ3.2.wide (by omega) (by omega)))
    · refine J_iconst (v := 0) dX2_readNegative_21 (by decide) ?_
      refine J_ireturn dX2_readNegative_22 rfl rfl (by decide) (by decide) ?_
      exact rdL false (pv (k + 1)).2.1 ((pv (k + 1)).2.2) (by first | (simp [negW, bnd, eat, dpt, emt, th8, h18]; done) | (simp [negW, bnd, eat, dpt, emt, th8, h18]; exact Prod.ext (by simp_all) rfl)) rfl wD2 wT2 wR2 (by first | rfl | simp only [emL_app]) (((xx_same.rf (b := b) (e := b + 15)).trans wS1).trans wS2)
set_option maxHeartbeats 4000000 in
theorem c_X2_readNot (hst : l.stackTraces = false) (hc : tkc T0 len tok sg T) {d : Nat} (hd8 : d ≤ 8) {q1 : Nat → Res} {f0 g0 : Nat} (h1 : d < 8 → rdP G l b T0 len tok T sg yX2_readSingle mX2_readSingle f0 g0 (d + 1) q1) (ok1 : pOK tok q1) {fr lo : Nat} (hf9 : 12 ≤ fr) (hg9 : 400 ≤ lo) (hf0 : f0 + 1 ≤ fr) (hg0 : g0 + 21 ≤ lo) : rdP G l b T0 len tok T sg yX2_readNot mX2_readNot fr lo d (notW (scG T0 len) d q1) := by
  intro A n D R k m y hy hW hm hmk hk hk1
  obtain ⟨hD, hT, hR⟩ := hW
  obtain ⟨hl1, hl2, ht0, ht1, hscn, hnx, hlast⟩ := id hc
  refine J_C hst (by decide +kernel) rfl rfl rfl (Nat.le_of_ble_eq_true rfl) ?_
  show xx_J _ _ _ _ _ _ _ _ 0 [(0, _), (1, _)] [] _ _ _ _
  refine J_aload_n dX2_readNot_0 rfl rfl ?_
  refine J_gets (v := .ref 15) dX2_readNot_1 (gs_mem 15 (by decide)) (show (15 : Nat) < 400 by decide) sl_X2_165 ?_
  refine J_iload_n dX2_readNot_4 rfl rfl ?_
  refine J_callVw (As := [_, _]) dX2_readNot_5 ml_X2_174 cal_X2_takesDeeper im_X2_takesDeeper se_X2_takesDeeper (hD.at 0 rfl) rfl rfl rfl (Nat.le_of_ble_eq_true rfl) ⟨by omega, by show 8 + (3 + 11) + _ ≤ _; omega⟩ ⟨by decide, by decide⟩ (c_X2_takesDeeper hst ⟨hD, hT, hR⟩ hc hk (v := 15) (by decide) hy hd8) (fun A1 hQ1 => ?_)
  obtain ⟨⟨wD1, wT1, wR1⟩, wS1⟩ := hQ1
  refine J_ifb_eq (tgt := 21) dX2_readNot_8 rfl (fun h8 => ?_) (fun h8 => ?_)
  · have th8 : ¬ (d < 8 ∧ scG T0 len k = 15) := fun z => h8 (dpt_t.mpr z)
    rw [dpt_f2 th8] at wD1
    refine J_iconst (v := 0) dX2_readNot_21 (by decide) ?_
    refine J_ireturn dX2_readNot_22 rfl rfl (by decide) (by decide) ?_
    exact rdL false k ([]) (by first | (simp [notW, bnd, eat, dpt, emt, th8]; done) | (simp [notW, bnd, eat, dpt, emt, th8]; exact Prod.ext (by simp_all) rfl)) rfl wD1 wT1 wR1 (by first | rfl | simp only [emL_app]) ((xx_same.rf (b := b) (e := b + 15)).trans wS1)
  · have th8 := (dpt_t.mp h8)
    rw [dpt_t2 th8] at wD1
    have kh8 : k + 1 < tok := hnx _ hk (by rw [th8.2]; decide) (by rw [th8.2]; decide)
    refine J_aload_n dX2_readNot_11 rfl rfl ?_
    refine J_iload_n dX2_readNot_12 rfl rfl ?_
    refine J_iconst (v := 1) dX2_readNot_13 (by decide) ?_
    refine J_iadd dX2_readNot_14 ?_
    refine J_callVw (As := [_]) dX2_readNot_15 ml_X2_159 cal_X2_readSingle im_X2_readSingle se_X2_readSingle (wD1.at 0 rfl) rfl rfl rfl (Nat.le_of_ble_eq_true rfl) ⟨by omega, by show 8 + (2 + 11) + _ ≤ _; omega⟩ ⟨by decide, by decide⟩ ((h1 (by omega)) _ _ _ _ (k + 1) m _ (by rw [hy]; exact nI_1 d) ⟨wD1, wT1, wR1⟩ hm (by omega) kh8 (by omega)) (fun A2 hQ2 => ?_)
    obtain ⟨⟨wD2, wT2, wR2⟩, wS2⟩ := hQ2
    have g2 := ok1 (k + 1) kh8
    have m2 := emL_3 (q1 (k + 1)).2.2 hm
    refine J_ifb_ne (tgt := 23) dX2_readNot_18 rfl (fun h18 => ?_) (fun h18 => ?_)
    · refine J_aload_n dX2_readNot_23 rfl rfl ?_
      refine J_getf dX2_readNot_24 fl_X2_21 (wD2.at 0 rfl) rfl ?_
      refine J_bipush (v := 7) dX2_readNot_27 (by decide) ?_
      refine J_callVw (As := [_]) dX2_readNot_29 ml_X2_156 cal_X3_emit im_X3_emit se_X3_emit (wR2.at 0 rfl) rfl rfl rfl (Nat.le_of_ble_eq_true rfl) ⟨by omega, by show 8 + (2 + 11) + _ ≤ _; omega⟩ ⟨by decide, by decide⟩ (c_X3_emit hst wR2 m2 (by omega) 7) (fun A3 hQ3 => ?_)
      have wR3 := wR_emL m2 (by omega) hQ3.1
      have wD3 := layD_s wD2 hQ3.2 (by omega) (by omega)
      have wT3 := wT2.s2 hQ3.2 (m := 5) rfl (by omega)
      have m3 : (emL _ [((7 : Int32), (0 : Int32))]).1 3 = nI ((m + (q1 (k + 1)).2.2.length) + 1) := emL_3 [_] m2
      refine J_iconst (v := 1) dX2_readNot_32 (by decide) ?_
      refine J_ireturn dX2_readNot_33 rfl rfl (by decide) (by decide) ?_
      exact rdL true (q1 (k + 1)).2.1 ((q1 (k + 1)).2.2 ++ [((7 : Int32), (0 : Int32))]) (by first | (simp [notW, bnd, eat, dpt, emt, th8, h18]; done) | (simp [notW, bnd, eat, dpt, emt, th8, h18]; exact Prod.ext (by simp_all) rfl)) rfl wD3 wT3 wR3 (by first | rfl | simp only [emL_app]) ((((xx_same.rf (b := b) (e := b + 15)).trans wS1).trans wS2).trans (hQ3.2.wide (by omega) (by omega)))
    · refine J_iconst (v := 0) dX2_readNot_21 (by decide) ?_
      refine J_ireturn dX2_readNot_22 rfl rfl (by decide) (by decide) ?_
      exact rdL false (q1 (k + 1)).2.1 ((q1 (k + 1)).2.2) (by first | (simp [notW, bnd, eat, dpt, emt, th8, h18]; done) | (simp [notW, bnd, eat, dpt, emt, th8, h18]; exact Prod.ext (by simp_all) rfl)) rfl wD2 wT2 wR2 (by first | rfl | simp only [emL_app]) (((xx_same.rf (b := b) (e := b + 15)).trans wS1).trans wS2)
set_option maxHeartbeats 4000000 in
theorem c_X2_readChoice (hst : l.stackTraces = false) (hc : tkc T0 len tok sg T) {d : Nat} (hd8 : d ≤ 8) {ps : Nat → Res} {f0 g0 : Nat} (hs : d < 8 → rdP G l b T0 len tok T sg yX2_readSum mX2_readSum f0 g0 (d + 1) ps) (oks : pOK tok ps) {fr lo : Nat} (hf9 : 12 ≤ fr) (hg9 : 400 ≤ lo) (hf0 : f0 + 1 ≤ fr) (hg0 : g0 + 23 ≤ lo) {A : xx_H} {n : Nat} {D R : xS} {k m : Nat} {y : Int32} (hy : y = nI d) (hW : rdW b (atD D k) T R sg A) (hm : R.1 3 = nI m) (hmk : m ≤ k) (hk : k < tok) (h18 : scG T0 len k = 18 ∨ scG T0 len k = 19) : xx_C G l yX2_readChoice mX2_readChoice fr lo 0 0 [.ref b, .int y] A n (rdQ b n D T R sg (choW (scG T0 len) d ps k) A) := by
  obtain ⟨hD, hT, hR⟩ := hW
  obtain ⟨hl1, hl2, ht0, ht1, hscn, hnx, hlast⟩ := id hc
  refine J_C hst (by decide +kernel) rfl rfl rfl (Nat.le_of_ble_eq_true rfl) ?_
  show xx_J _ _ _ _ _ _ _ _ 0 [(0, _), (1, _)] [] _ _ _ _
  refine J_aload_n dX2_readChoice_0 rfl rfl ?_
  refine J_gets (v := .ref 18) dX2_readChoice_1 (gs_mem 18 (by decide)) (show (18 : Nat) < 400 by decide) sl_X2_243 ?_
  refine J_callVr (As := [_]) dX2_readChoice_4 ml_X2_57 cal_X2_sees im_X2_sees se_X2_sees (hD.at 0 rfl) rfl rfl rfl (Nat.le_of_ble_eq_true rfl) ⟨by omega, by show 8 + (2 + 11) + _ ≤ _; omega⟩ ⟨by decide, by decide⟩ (c_X2_sees hst ⟨hD, hT, hR⟩ hc hk (v := 18) (by decide)) ?_
  refine J_ifb_eq (tgt := 15) dX2_readChoice_7 rfl (fun h7 => ?_) (fun h7 => ?_)
  · refine J_bipush (v := 13) dX2_readChoice_15 (by decide) ?_
    refine J_istore_n (L' := [(2, _), (0, _), (1, _)]) dX2_readChoice_17 rfl (by decide) rfl ?_
    refine J_aload_n dX2_readChoice_18 rfl rfl ?_
    refine J_dup dX2_readChoice_19 rfl ?_
    refine J_getf dX2_readChoice_20 fl_X2_39 (hD.at 0 rfl) rfl ?_
    refine J_iconst (v := 1) dX2_readChoice_23 (by decide) ?_
    refine J_iadd dX2_readChoice_24 ?_
    refine J_putf dX2_readChoice_25 fp_X2_39 (fun _ => ⟨rfl, rfl⟩) (hD.at 0 rfl) (Nat.le_of_ble_eq_true rfl) ?_
    refine J_gen (wD_s0_6 hD _) ((xx_same.rf (b := b) (e := b + 15)).put (by omega) (by omega) _) (fun A1 w1 s1 o1 => ?_)
    have w1R := hR.o2 o1 (m := 6) rfl (by omega)
    have w1T := hT.o2 o1 (m := 5) rfl (by omega)
    have w1k := atD_1 w1
    have nx1 : ¬ scG T0 len k = 37 ∧ ¬ scG T0 len k = 38 := (by omega : ¬ scG T0 len k = 37 ∧ ¬ scG T0 len k = 38)
    have hk1 : k + 1 < tok := hnx _ hk nx1.1 nx1.2
    refine J_aload_n dX2_readChoice_28 rfl rfl ?_
    refine J_gets (v := .ref 20) dX2_readChoice_29 (gs_mem 20 (by decide)) (show (20 : Nat) < 400 by decide) sl_X2_237 ?_
    refine J_iload_n dX2_readChoice_32 rfl rfl ?_
    refine J_callVw (As := [_, _]) dX2_readChoice_33 ml_X2_174 cal_X2_takesDeeper im_X2_takesDeeper se_X2_takesDeeper (w1k.at 0 rfl) rfl rfl rfl (Nat.le_of_ble_eq_true rfl) ⟨by omega, by show 8 + (3 + 11) + _ ≤ _; omega⟩ ⟨by decide, by decide⟩ (c_X2_takesDeeper hst ⟨w1k, w1T, w1R⟩ hc hk1 (v := 20) (by decide) hy hd8) (fun A2 hQ2 => ?_)
    obtain ⟨⟨wD2, wT2, wR2⟩, wS2⟩ := hQ2
    refine J_ifb_eq (tgt := 79) dX2_readChoice_36 rfl (fun h36 => ?_) (fun h36 => ?_)
    · have th36 : ¬ (d < 8 ∧ scG T0 len (k + 1) = 20) := fun z => h36 (dpt_t.mpr z)
      rw [dpt_f2 th36] at wD2
      refine J_iconst (v := 0) dX2_readChoice_79 (by decide) ?_
      refine J_ireturn dX2_readChoice_80 rfl rfl (by decide) (by decide) ?_
      exact rdL false (k + 1) ([]) (by first | (simp [choW, bnd, eat, dpt, emt, h7, th36]; done) | (simp [choW, bnd, eat, dpt, emt, h7, th36]; exact Prod.ext (by simp_all) rfl)) rfl wD2 wT2 wR2 (by first | rfl | simp only [emL_app]) (s1.trans wS2)
    · have th36 := (dpt_t.mp h36)
      rw [dpt_t2 th36] at wD2
      have kh36 : (k + 1) + 1 < tok := hnx _ hk1 (by rw [th36.2]; decide) (by rw [th36.2]; decide)
      refine J_aload_n dX2_readChoice_39 rfl rfl ?_
      refine J_iload_n dX2_readChoice_40 rfl rfl ?_
      refine J_iconst (v := 1) dX2_readChoice_41 (by decide) ?_
      refine J_iadd dX2_readChoice_42 ?_
      refine J_callVw (As := [_]) dX2_readChoice_43 ml_X2_187 cal_X2_readSum im_X2_readSum se_X2_readSum (wD2.at 0 rfl) rfl rfl rfl (Nat.le_of_ble_eq_true rfl) ⟨by omega, by show 8 + (4 + 11) + _ ≤ _; omega⟩ ⟨by decide, by decide⟩ ((hs (by omega)) _ _ _ _ ((k + 1) + 1) m _ (by rw [hy]; exact nI_1 d) ⟨wD2, wT2, wR2⟩ hm (by omega) kh36 (by omega)) (fun A3 hQ3 => ?_)
      obtain ⟨⟨wD3, wT3, wR3⟩, wS3⟩ := hQ3
      have g3 := oks ((k + 1) + 1) kh36
      have m3 := emL_3 (ps ((k + 1) + 1)).2.2 hm
      refine J_ifb_eq (tgt := 79) dX2_readChoice_46 rfl (fun h46 => ?_) (fun h46 => ?_)
      · refine J_iconst (v := 0) dX2_readChoice_79 (by decide) ?_
        refine J_ireturn dX2_readChoice_80 rfl rfl (by decide) (by decide) ?_
        exact rdL false (ps ((k + 1) + 1)).2.1 ((ps ((k + 1) + 1)).2.2) (by first | (simp [choW, bnd, eat, dpt, emt, h7, th36, h46]; done) | (simp [choW, bnd, eat, dpt, emt, h7, th36, h46]; exact Prod.ext (by simp_all) rfl)) rfl wD3 wT3 wR3 (by first | rfl | simp only [emL_app]) ((s1.trans wS2).trans wS3)
      · refine J_aload_n dX2_readChoice_49 rfl rfl ?_
        refine J_gets (v := .ref 25) dX2_readChoice_50 (gs_mem 25 (by decide)) (show (25 : Nat) < 400 by decide) sl_X2_258 ?_
        refine J_callVw (As := [_]) dX2_readChoice_53 ml_X2_64 cal_X2_takes im_X2_takes se_X2_takes (wD3.at 0 rfl) rfl rfl rfl (Nat.le_of_ble_eq_true rfl) ⟨by omega, by show 8 + (2 + 11) + _ ≤ _; omega⟩ ⟨by decide, by decide⟩ (c_X2_takes hst ⟨wD3, wT3, wR3⟩ hc g3.2.1 (v := 25) (by decide)) (fun A4 hQ4 => ?_)
        obtain ⟨⟨wD4, wT4, wR4⟩, wS4⟩ := hQ4
        refine J_ifb_eq (tgt := 79) dX2_readChoice_56 rfl (fun h56 => ?_) (fun h56 => ?_)
        · have th56 : ¬ (scG T0 len (ps ((k + 1) + 1)).2.1 = 25) := fun z => h56 (eat_t.mpr z)
          rw [eat_f2 th56] at wD4
          refine J_iconst (v := 0) dX2_readChoice_79 (by decide) ?_
          refine J_ireturn dX2_readChoice_80 rfl rfl (by decide) (by decide) ?_
          exact rdL false (ps ((k + 1) + 1)).2.1 ((ps ((k + 1) + 1)).2.2) (by first | (simp [choW, bnd, eat, dpt, emt, h7, th36, h46, th56]; done) | (simp [choW, bnd, eat, dpt, emt, h7, th36, h46, th56]; exact Prod.ext (by simp_all) rfl)) rfl wD4 wT4 wR4 (by first | rfl | simp only [emL_app]) (((s1.trans wS2).trans wS3).trans wS4)
        · have th56 := (eat_t.mp h56)
          rw [eat_t2 th56] at wD4
          have kh56 : (ps ((k + 1) + 1)).2.1 + 1 < tok := hnx _ g3.2.1 (by rw [th56]; decide) (by rw [th56]; decide)
          refine J_aload_n dX2_readChoice_59 rfl rfl ?_
          refine J_iload_n dX2_readChoice_60 rfl rfl ?_
          refine J_iconst (v := 1) dX2_readChoice_61 (by decide) ?_
          refine J_iadd dX2_readChoice_62 ?_
          refine J_callVw (As := [_]) dX2_readChoice_63 ml_X2_187 cal_X2_readSum im_X2_readSum se_X2_readSum (wD4.at 0 rfl) rfl rfl rfl (Nat.le_of_ble_eq_true rfl) ⟨by omega, by show 8 + (4 + 11) + _ ≤ _; omega⟩ ⟨by decide, by decide⟩ ((hs (by omega)) _ _ _ _ ((ps ((k + 1) + 1)).2.1 + 1) (m + (ps ((k + 1) + 1)).2.2.length) _ (by rw [hy]; exact nI_1 d) ⟨wD4, wT4, wR4⟩ m3 (by omega) kh56 (by omega)) (fun A5 hQ5 => ?_)
          obtain ⟨⟨wD5, wT5, wR5⟩, wS5⟩ := hQ5
          have g5 := oks ((ps ((k + 1) + 1)).2.1 + 1) kh56
          have m5 := emL_3 (ps ((ps ((k + 1) + 1)).2.1 + 1)).2.2 m3
          refine J_ifb_eq (tgt := 79) dX2_readChoice_66 rfl (fun h66 => ?_) (fun h66 => ?_)
          · refine J_iconst (v := 0) dX2_readChoice_79 (by decide) ?_
            refine J_ireturn dX2_readChoice_80 rfl rfl (by decide) (by decide) ?_
            exact rdL false (ps ((ps ((k + 1) + 1)).2.1 + 1)).2.1 ((ps ((k + 1) + 1)).2.2 ++ (ps ((ps ((k + 1) + 1)).2.1 + 1)).2.2) (by first | (simp [choW, bnd, eat, dpt, emt, h7, th36, h46, th56, h66]; done) | (simp [choW, bnd, eat, dpt, emt, h7, th36, h46, th56, h66]; exact Prod.ext (by simp_all) rfl)) rfl wD5 wT5 wR5 (by first | rfl | simp only [emL_app]) ((((s1.trans wS2).trans wS3).trans wS4).trans wS5)
          · refine J_aload_n dX2_readChoice_69 rfl rfl ?_
            refine J_gets (v := .ref 21) dX2_readChoice_70 (gs_mem 21 (by decide)) (show (21 : Nat) < 400 by decide) sl_X2_240 ?_
            refine J_callVw (As := [_]) dX2_readChoice_73 ml_X2_64 cal_X2_takes im_X2_takes se_X2_takes (wD5.at 0 rfl) rfl rfl rfl (Nat.le_of_ble_eq_true rfl) ⟨by omega, by show 8 + (2 + 11) + _ ≤ _; omega⟩ ⟨by decide, by decide⟩ (c_X2_takes hst ⟨wD5, wT5, wR5⟩ hc g5.2.1 (v := 21) (by decide)) (fun A6 hQ6 => ?_)
            obtain ⟨⟨wD6, wT6, wR6⟩, wS6⟩ := hQ6
            refine J_ifb_ne (tgt := 81) dX2_readChoice_76 rfl (fun h76 => ?_) (fun h76 => ?_)
            · have th76 := (eat_t.mp h76)
              rw [eat_t2 th76] at wD6
              have kh76 : (ps ((ps ((k + 1) + 1)).2.1 + 1)).2.1 + 1 < tok := hnx _ g5.2.1 (by rw [th76]; decide) (by rw [th76]; decide)
              refine J_aload_n dX2_readChoice_81 rfl rfl ?_
              refine J_getf dX2_readChoice_82 fl_X2_21 (wD6.at 0 rfl) rfl ?_
              refine J_iload_n dX2_readChoice_85 rfl rfl ?_
              refine J_callVw (As := [_]) dX2_readChoice_86 ml_X2_156 cal_X3_emit im_X3_emit se_X3_emit (wR6.at 0 rfl) rfl rfl rfl (Nat.le_of_ble_eq_true rfl) ⟨by omega, by show 8 + (2 + 11) + _ ≤ _; omega⟩ ⟨by decide, by decide⟩ (c_X3_emit hst wR6 m5 (by omega) 13) (fun A7 hQ7 => ?_)
              have wR7 := wR_emL m5 (by omega) hQ7.1
              have wD7 := layD_s wD6 hQ7.2 (by omega) (by omega)
              have wT7 := wT6.s2 hQ7.2 (m := 5) rfl (by omega)
              have m7 : (emL _ [((13 : Int32), (0 : Int32))]).1 3 = nI (((m + (ps ((k + 1) + 1)).2.2.length) + (ps ((ps ((k + 1) + 1)).2.1 + 1)).2.2.length) + 1) := emL_3 [_] m5
              refine J_iconst (v := 1) dX2_readChoice_89 (by decide) ?_
              refine J_ireturn dX2_readChoice_90 rfl rfl (by decide) (by decide) ?_
              exact rdL true ((ps ((ps ((k + 1) + 1)).2.1 + 1)).2.1 + 1) ((ps ((k + 1) + 1)).2.2 ++ (ps ((ps ((k + 1) + 1)).2.1 + 1)).2.2 ++ [((13 : Int32), (0 : Int32))]) (by first | (simp [choW, bnd, eat, dpt, emt, h7, th36, h46, th56, h66, th76]; done) | (simp [choW, bnd, eat, dpt, emt, h7, th36, h46, th56, h66, th76]; exact Prod.ext (by simp_all) rfl)) rfl wD7 wT7 wR7 (by first | rfl | simp only [emL_app]) ((((((s1.trans wS2).trans wS3).trans wS4).trans wS5).trans wS6).trans (hQ7.2.wide (by omega) (by omega)))
            · have th76 : ¬ (scG T0 len (ps ((ps ((k + 1) + 1)).2.1 + 1)).2.1 = 21) := fun z => h76 (eat_t.mpr z)
              rw [eat_f2 th76] at wD6
              refine J_iconst (v := 0) dX2_readChoice_79 (by decide) ?_
              refine J_ireturn dX2_readChoice_80 rfl rfl (by decide) (by decide) ?_
              exact rdL false (ps ((ps ((k + 1) + 1)).2.1 + 1)).2.1 ((ps ((k + 1) + 1)).2.2 ++ (ps ((ps ((k + 1) + 1)).2.1 + 1)).2.2) (by first | (simp [choW, bnd, eat, dpt, emt, h7, th36, h46, th56, h66, th76]; done) | (simp [choW, bnd, eat, dpt, emt, h7, th36, h46, th56, h66, th76]; exact Prod.ext (by simp_all) rfl)) rfl wD6 wT6 wR6 (by first | rfl | simp only [emL_app]) (((((s1.trans wS2).trans wS3).trans wS4).trans wS5).trans wS6)
  · refine J_bipush (v := 12) dX2_readChoice_10 (by decide) ?_
    refine J_goto (tgt := 17) dX2_readChoice_12 rfl ?_
    refine J_istore_n (L' := [(2, _), (0, _), (1, _)]) dX2_readChoice_17 rfl (by decide) rfl ?_
    refine J_aload_n dX2_readChoice_18 rfl rfl ?_
    refine J_dup dX2_readChoice_19 rfl ?_
    refine J_getf dX2_readChoice_20 fl_X2_39 (hD.at 0 rfl) rfl ?_
    refine J_iconst (v := 1) dX2_readChoice_23 (by decide) ?_
    refine J_iadd dX2_readChoice_24 ?_
    refine J_putf dX2_readChoice_25 fp_X2_39 (fun _ => ⟨rfl, rfl⟩) (hD.at 0 rfl) (Nat.le_of_ble_eq_true rfl) ?_
    refine J_gen (wD_s0_6 hD _) ((xx_same.rf (b := b) (e := b + 15)).put (by omega) (by omega) _) (fun A8 w8 s8 o8 => ?_)
    have w8R := hR.o2 o8 (m := 6) rfl (by omega)
    have w8T := hT.o2 o8 (m := 5) rfl (by omega)
    have w8k := atD_1 w8
    have nx8 : ¬ scG T0 len k = 37 ∧ ¬ scG T0 len k = 38 := (by omega : ¬ scG T0 len k = 37 ∧ ¬ scG T0 len k = 38)
    have hk8 : k + 1 < tok := hnx _ hk nx8.1 nx8.2
    refine J_aload_n dX2_readChoice_28 rfl rfl ?_
    refine J_gets (v := .ref 20) dX2_readChoice_29 (gs_mem 20 (by decide)) (show (20 : Nat) < 400 by decide) sl_X2_237 ?_
    refine J_iload_n dX2_readChoice_32 rfl rfl ?_
    refine J_callVw (As := [_, _]) dX2_readChoice_33 ml_X2_174 cal_X2_takesDeeper im_X2_takesDeeper se_X2_takesDeeper (w8k.at 0 rfl) rfl rfl rfl (Nat.le_of_ble_eq_true rfl) ⟨by omega, by show 8 + (3 + 11) + _ ≤ _; omega⟩ ⟨by decide, by decide⟩ (c_X2_takesDeeper hst ⟨w8k, w8T, w8R⟩ hc hk8 (v := 20) (by decide) hy hd8) (fun A9 hQ9 => ?_)
    obtain ⟨⟨wD9, wT9, wR9⟩, wS9⟩ := hQ9
    refine J_ifb_eq (tgt := 79) dX2_readChoice_36 rfl (fun h36 => ?_) (fun h36 => ?_)
    · have th36 : ¬ (d < 8 ∧ scG T0 len (k + 1) = 20) := fun z => h36 (dpt_t.mpr z)
      rw [dpt_f2 th36] at wD9
      refine J_iconst (v := 0) dX2_readChoice_79 (by decide) ?_
      refine J_ireturn dX2_readChoice_80 rfl rfl (by decide) (by decide) ?_
      exact rdL false (k + 1) ([]) (by first | (simp [choW, bnd, eat, dpt, emt, h7, th36]; done) | (simp [choW, bnd, eat, dpt, emt, h7, th36]; exact Prod.ext (by simp_all) rfl)) rfl wD9 wT9 wR9 (by first | rfl | simp only [emL_app]) (s8.trans wS9)
    · have th36 := (dpt_t.mp h36)
      rw [dpt_t2 th36] at wD9
      have kh36 : (k + 1) + 1 < tok := hnx _ hk8 (by rw [th36.2]; decide) (by rw [th36.2]; decide)
      refine J_aload_n dX2_readChoice_39 rfl rfl ?_
      refine J_iload_n dX2_readChoice_40 rfl rfl ?_
      refine J_iconst (v := 1) dX2_readChoice_41 (by decide) ?_
      refine J_iadd dX2_readChoice_42 ?_
      refine J_callVw (As := [_]) dX2_readChoice_43 ml_X2_187 cal_X2_readSum im_X2_readSum se_X2_readSum (wD9.at 0 rfl) rfl rfl rfl (Nat.le_of_ble_eq_true rfl) ⟨by omega, by show 8 + (4 + 11) + _ ≤ _; omega⟩ ⟨by decide, by decide⟩ ((hs (by omega)) _ _ _ _ ((k + 1) + 1) m _ (by rw [hy]; exact nI_1 d) ⟨wD9, wT9, wR9⟩ hm (by omega) kh36 (by omega)) (fun A10 hQ10 => ?_)
      obtain ⟨⟨wD10, wT10, wR10⟩, wS10⟩ := hQ10
      have g10 := oks ((k + 1) + 1) kh36
      have m10 := emL_3 (ps ((k + 1) + 1)).2.2 hm
      refine J_ifb_eq (tgt := 79) dX2_readChoice_46 rfl (fun h46 => ?_) (fun h46 => ?_)
      · refine J_iconst (v := 0) dX2_readChoice_79 (by decide) ?_
        refine J_ireturn dX2_readChoice_80 rfl rfl (by decide) (by decide) ?_
        exact rdL false (ps ((k + 1) + 1)).2.1 ((ps ((k + 1) + 1)).2.2) (by first | (simp [choW, bnd, eat, dpt, emt, h7, th36, h46]; done) | (simp [choW, bnd, eat, dpt, emt, h7, th36, h46]; exact Prod.ext (by simp_all) rfl)) rfl wD10 wT10 wR10 (by first | rfl | simp only [emL_app]) ((s8.trans wS9).trans wS10)
      · refine J_aload_n dX2_readChoice_49 rfl rfl ?_
        refine J_gets (v := .ref 25) dX2_readChoice_50 (gs_mem 25 (by decide)) (show (25 : Nat) < 400 by decide) sl_X2_258 ?_
        refine J_callVw (As := [_]) dX2_readChoice_53 ml_X2_64 cal_X2_takes im_X2_takes se_X2_takes (wD10.at 0 rfl) rfl rfl rfl (Nat.le_of_ble_eq_true rfl) ⟨by omega, by show 8 + (2 + 11) + _ ≤ _; omega⟩ ⟨by decide, by decide⟩ (c_X2_takes hst ⟨wD10, wT10, wR10⟩ hc g10.2.1 (v := 25) (by decide)) (fun A11 hQ11 => ?_)
        obtain ⟨⟨wD11, wT11, wR11⟩, wS11⟩ := hQ11
        refine J_ifb_eq (tgt := 79) dX2_readChoice_56 rfl (fun h56 => ?_) (fun h56 => ?_)
        · have th56 : ¬ (scG T0 len (ps ((k + 1) + 1)).2.1 = 25) := fun z => h56 (eat_t.mpr z)
          rw [eat_f2 th56] at wD11
          refine J_iconst (v := 0) dX2_readChoice_79 (by decide) ?_
          refine J_ireturn dX2_readChoice_80 rfl rfl (by decide) (by decide) ?_
          exact rdL false (ps ((k + 1) + 1)).2.1 ((ps ((k + 1) + 1)).2.2) (by first | (simp [choW, bnd, eat, dpt, emt, h7, th36, h46, th56]; done) | (simp [choW, bnd, eat, dpt, emt, h7, th36, h46, th56]; exact Prod.ext (by simp_all) rfl)) rfl wD11 wT11 wR11 (by first | rfl | simp only [emL_app]) (((s8.trans wS9).trans wS10).trans wS11)
        · have th56 := (eat_t.mp h56)
          rw [eat_t2 th56] at wD11
          have kh56 : (ps ((k + 1) + 1)).2.1 + 1 < tok := hnx _ g10.2.1 (by rw [th56]; decide) (by rw [th56]; decide)
          refine J_aload_n dX2_readChoice_59 rfl rfl ?_
          refine J_iload_n dX2_readChoice_60 rfl rfl ?_
          refine J_iconst (v := 1) dX2_readChoice_61 (by decide) ?_
          refine J_iadd dX2_readChoice_62 ?_
          refine J_callVw (As := [_]) dX2_readChoice_63 ml_X2_187 cal_X2_readSum im_X2_readSum se_X2_readSum (wD11.at 0 rfl) rfl rfl rfl (Nat.le_of_ble_eq_true rfl) ⟨by omega, by show 8 + (4 + 11) + _ ≤ _; omega⟩ ⟨by decide, by decide⟩ ((hs (by omega)) _ _ _ _ ((ps ((k + 1) + 1)).2.1 + 1) (m + (ps ((k + 1) + 1)).2.2.length) _ (by rw [hy]; exact nI_1 d) ⟨wD11, wT11, wR11⟩ m10 (by omega) kh56 (by omega)) (fun A12 hQ12 => ?_)
          obtain ⟨⟨wD12, wT12, wR12⟩, wS12⟩ := hQ12
          have g12 := oks ((ps ((k + 1) + 1)).2.1 + 1) kh56
          have m12 := emL_3 (ps ((ps ((k + 1) + 1)).2.1 + 1)).2.2 m10
          refine J_ifb_eq (tgt := 79) dX2_readChoice_66 rfl (fun h66 => ?_) (fun h66 => ?_)
          · refine J_iconst (v := 0) dX2_readChoice_79 (by decide) ?_
            refine J_ireturn dX2_readChoice_80 rfl rfl (by decide) (by decide) ?_
            exact rdL false (ps ((ps ((k + 1) + 1)).2.1 + 1)).2.1 ((ps ((k + 1) + 1)).2.2 ++ (ps ((ps ((k + 1) + 1)).2.1 + 1)).2.2) (by first | (simp [choW, bnd, eat, dpt, emt, h7, th36, h46, th56, h66]; done) | (simp [choW, bnd, eat, dpt, emt, h7, th36, h46, th56, h66]; exact Prod.ext (by simp_all) rfl)) rfl wD12 wT12 wR12 (by first | rfl | simp only [emL_app]) ((((s8.trans wS9).trans wS10).trans wS11).trans wS12)
          · refine J_aload_n dX2_readChoice_69 rfl rfl ?_
            refine J_gets (v := .ref 21) dX2_readChoice_70 (gs_mem 21 (by decide)) (show (21 : Nat) < 400 by decide) sl_X2_240 ?_
            refine J_callVw (As := [_]) dX2_readChoice_73 ml_X2_64 cal_X2_takes im_X2_takes se_X2_takes (wD12.at 0 rfl) rfl rfl rfl (Nat.le_of_ble_eq_true rfl) ⟨by omega, by show 8 + (2 + 11) + _ ≤ _; omega⟩ ⟨by decide, by decide⟩ (c_X2_takes hst ⟨wD12, wT12, wR12⟩ hc g12.2.1 (v := 21) (by decide)) (fun A13 hQ13 => ?_)
            obtain ⟨⟨wD13, wT13, wR13⟩, wS13⟩ := hQ13
            refine J_ifb_ne (tgt := 81) dX2_readChoice_76 rfl (fun h76 => ?_) (fun h76 => ?_)
            · have th76 := (eat_t.mp h76)
              rw [eat_t2 th76] at wD13
              have kh76 : (ps ((ps ((k + 1) + 1)).2.1 + 1)).2.1 + 1 < tok := hnx _ g12.2.1 (by rw [th76]; decide) (by rw [th76]; decide)
              refine J_aload_n dX2_readChoice_81 rfl rfl ?_
              refine J_getf dX2_readChoice_82 fl_X2_21 (wD13.at 0 rfl) rfl ?_
              refine J_iload_n dX2_readChoice_85 rfl rfl ?_
              refine J_callVw (As := [_]) dX2_readChoice_86 ml_X2_156 cal_X3_emit im_X3_emit se_X3_emit (wR13.at 0 rfl) rfl rfl rfl (Nat.le_of_ble_eq_true rfl) ⟨by omega, by show 8 + (2 + 11) + _ ≤ _; omega⟩ ⟨by decide, by decide⟩ (c_X3_emit hst wR13 m12 (by omega) 12) (fun A14 hQ14 => ?_)
              have wR14 := wR_emL m12 (by omega) hQ14.1
              have wD14 := layD_s wD13 hQ14.2 (by omega) (by omega)
              have wT14 := wT13.s2 hQ14.2 (m := 5) rfl (by omega)
              have m14 : (emL _ [((12 : Int32), (0 : Int32))]).1 3 = nI (((m + (ps ((k + 1) + 1)).2.2.length) + (ps ((ps ((k + 1) + 1)).2.1 + 1)).2.2.length) + 1) := emL_3 [_] m12
              refine J_iconst (v := 1) dX2_readChoice_89 (by decide) ?_
              refine J_ireturn dX2_readChoice_90 rfl rfl (by decide) (by decide) ?_
              exact rdL true ((ps ((ps ((k + 1) + 1)).2.1 + 1)).2.1 + 1) ((ps ((k + 1) + 1)).2.2 ++ (ps ((ps ((k + 1) + 1)).2.1 + 1)).2.2 ++ [((12 : Int32), (0 : Int32))]) (by first | (simp [choW, bnd, eat, dpt, emt, h7, th36, h46, th56, h66, th76]; done) | (simp [choW, bnd, eat, dpt, emt, h7, th36, h46, th56, h66, th76]; exact Prod.ext (by simp_all) rfl)) rfl wD14 wT14 wR14 (by first | rfl | simp only [emL_app]) ((((((s8.trans wS9).trans wS10).trans wS11).trans wS12).trans wS13).trans (hQ14.2.wide (by omega) (by omega)))
            · have th76 : ¬ (scG T0 len (ps ((ps ((k + 1) + 1)).2.1 + 1)).2.1 = 21) := fun z => h76 (eat_t.mpr z)
              rw [eat_f2 th76] at wD13
              refine J_iconst (v := 0) dX2_readChoice_79 (by decide) ?_
              refine J_ireturn dX2_readChoice_80 rfl rfl (by decide) (by decide) ?_
              exact rdL false (ps ((ps ((k + 1) + 1)).2.1 + 1)).2.1 ((ps ((k + 1) + 1)).2.2 ++ (ps ((ps ((k + 1) + 1)).2.1 + 1)).2.2) (by first | (simp [choW, bnd, eat, dpt, emt, h7, th36, h46, th56, h66, th76]; done) | (simp [choW, bnd, eat, dpt, emt, h7, th36, h46, th56, h66, th76]; exact Prod.ext (by simp_all) rfl)) rfl wD13 wT13 wR13 (by first | rfl | simp only [emL_app]) (((((s8.trans wS9).trans wS10).trans wS11).trans wS12).trans wS13)
set_option maxHeartbeats 4000000 in
theorem c_X2_readComparison (hst : l.stackTraces = false) (hc : tkc T0 len tok sg T) {d : Nat} (hd8 : d ≤ 8) {ps : Nat → Res} {f0 g0 : Nat} (hs : rdP G l b T0 len tok T sg yX2_readSum mX2_readSum f0 g0 d ps) (oks : pOK tok ps) {fr lo : Nat} (hf9 : 12 ≤ fr) (hg9 : 400 ≤ lo) (hf0 : f0 + 1 ≤ fr) (hg0 : g0 + 23 ≤ lo) : rdP G l b T0 len tok T sg yX2_readComparison mX2_readComparison fr lo d (cmpW (scG T0 len) ps) := by
  intro A n D R k m y hy hW hm hmk hk hk1
  obtain ⟨hD, hT, hR⟩ := hW
  obtain ⟨hl1, hl2, ht0, ht1, hscn, hnx, hlast⟩ := id hc
  refine J_C hst (by decide +kernel) rfl rfl rfl (Nat.le_of_ble_eq_true rfl) ?_
  show xx_J _ _ _ _ _ _ _ _ 0 [(0, _), (1, _)] [] _ _ _ _
  refine J_aload_n dX2_readComparison_0 rfl rfl ?_
  refine J_iload_n dX2_readComparison_1 rfl rfl ?_
  refine J_callVw (As := [_]) dX2_readComparison_2 ml_X2_187 cal_X2_readSum im_X2_readSum se_X2_readSum (hD.at 0 rfl) rfl rfl rfl (Nat.le_of_ble_eq_true rfl) ⟨by omega, by show 8 + (4 + 11) + _ ≤ _; omega⟩ ⟨by decide, by decide⟩ (hs _ _ _ _ k m _ hy ⟨hD, hT, hR⟩ hm (by omega) hk (by omega)) (fun A1 hQ1 => ?_)
  obtain ⟨⟨wD1, wT1, wR1⟩, wS1⟩ := hQ1
  have g1 := oks k hk
  have m1 := emL_3 (ps k).2.2 hm
  refine J_ifb_ne (tgt := 10) dX2_readComparison_5 rfl (fun h5 => ?_) (fun h5 => ?_)
  · refine J_aload_n dX2_readComparison_10 rfl rfl ?_
    refine J_callVr (As := []) dX2_readComparison_11 ml_X2_190 cal_X2_comparisonSeen im_X2_comparisonSeen se_X2_comparisonSeen (wD1.at 0 rfl) rfl rfl rfl (Nat.le_of_ble_eq_true rfl) ⟨by omega, by show 8 + (1 + 11) + _ ≤ _; omega⟩ ⟨by decide, by decide⟩ (c_X2_comparisonSeen hst ⟨wD1, wT1, wR1⟩ hc g1.2.1) ?_
    refine J_istore_n (L' := [(2, _), (0, _), (1, _)]) dX2_readComparison_14 rfl (by decide) rfl ?_
    refine J_iload_n dX2_readComparison_15 rfl rfl ?_
    refine J_if_ne (tgt := 21) dX2_readComparison_16 rfl (fun h16 => ?_) (fun h16 => ?_)
    · refine J_aload_n dX2_readComparison_21 rfl rfl ?_
      refine J_dup dX2_readComparison_22 rfl ?_
      refine J_getf dX2_readComparison_23 fl_X2_39 (wD1.at 0 rfl) rfl ?_
      refine J_iconst (v := 1) dX2_readComparison_26 (by decide) ?_
      refine J_iadd dX2_readComparison_27 ?_
      refine J_putf dX2_readComparison_28 fp_X2_39 (fun _ => ⟨rfl, rfl⟩) (wD1.at 0 rfl) (Nat.le_of_ble_eq_true rfl) ?_
      refine J_gen (wD_s0_6 wD1 _) (((xx_same.rf (b := b) (e := b + 15)).trans wS1).put (by omega) (by omega) _) (fun A2 w2 s2 o2 => ?_)
      have w2R := wR1.o2 o2 (m := 6) rfl (by omega)
      have w2T := wT1.o2 o2 (m := 5) rfl (by omega)
      have w2k := atD_1 w2
      have nx2 : ¬ scG T0 len (ps k).2.1 = 37 ∧ ¬ scG T0 len (ps k).2.1 = 38 := cmpT_n h16
      have hk2 : (ps k).2.1 + 1 < tok := hnx _ g1.2.1 nx2.1 nx2.2
      refine J_aload_n dX2_readComparison_31 rfl rfl ?_
      refine J_iload_n dX2_readComparison_32 rfl rfl ?_
      refine J_callVw (As := [_]) dX2_readComparison_33 ml_X2_187 cal_X2_readSum im_X2_readSum se_X2_readSum (w2k.at 0 rfl) rfl rfl rfl (Nat.le_of_ble_eq_true rfl) ⟨by omega, by show 8 + (4 + 11) + _ ≤ _; omega⟩ ⟨by decide, by decide⟩ (hs _ _ _ _ ((ps k).2.1 + 1) (m + (ps k).2.2.length) _ hy ⟨w2k, w2T, w2R⟩ m1 (by omega) hk2 (by omega)) (fun A3 hQ3 => ?_)
      obtain ⟨⟨wD3, wT3, wR3⟩, wS3⟩ := hQ3
      have g3 := oks ((ps k).2.1 + 1) hk2
      have m3 := emL_3 (ps ((ps k).2.1 + 1)).2.2 m1
      refine J_ifb_ne (tgt := 41) dX2_readComparison_36 rfl (fun h36 => ?_) (fun h36 => ?_)
      · refine J_aload_n dX2_readComparison_41 rfl rfl ?_
        refine J_getf dX2_readComparison_42 fl_X2_21 (wD3.at 0 rfl) rfl ?_
        refine J_iload_n dX2_readComparison_45 rfl rfl ?_
        refine J_callVw (As := [_]) dX2_readComparison_46 ml_X2_156 cal_X3_emit im_X3_emit se_X3_emit (wR3.at 0 rfl) rfl rfl rfl (Nat.le_of_ble_eq_true rfl) ⟨by omega, by show 8 + (2 + 11) + _ ≤ _; omega⟩ ⟨by decide, by decide⟩ (c_X3_emit hst wR3 m3 (by omega) (cmpT (scG T0 len (ps k).2.1))) (fun A4 hQ4 => ?_)
        have wR4 := wR_emL m3 (by omega) hQ4.1
        have wD4 := layD_s wD3 hQ4.2 (by omega) (by omega)
        have wT4 := wT3.s2 hQ4.2 (m := 5) rfl (by omega)
        have m4 : (emL _ [(((cmpT (scG T0 len (ps k).2.1)) : Int32), (0 : Int32))]).1 3 = nI (((m + (ps k).2.2.length) + (ps ((ps k).2.1 + 1)).2.2.length) + 1) := emL_3 [_] m3
        refine J_iconst (v := 1) dX2_readComparison_49 (by decide) ?_
        refine J_ireturn dX2_readComparison_50 rfl rfl (by decide) (by decide) ?_
        exact rdL true (ps ((ps k).2.1 + 1)).2.1 ((ps k).2.2 ++ (ps ((ps k).2.1 + 1)).2.2 ++ [(((cmpT (scG T0 len (ps k).2.1)) : Int32), (0 : Int32))]) (by first | (simp [cmpW, bnd, eat, dpt, emt, h5, h16, h36]; done) | (simp [cmpW, bnd, eat, dpt, emt, h5, h16, h36]; exact Prod.ext (by simp_all) rfl)) rfl wD4 wT4 wR4 (by first | rfl | simp only [emL_app]) ((s2.trans wS3).trans (hQ4.2.wide (by omega) (by omega)))
      · refine J_iconst (v := 0) dX2_readComparison_39 (by decide) ?_
        refine J_ireturn dX2_readComparison_40 rfl rfl (by decide) (by decide) ?_
        exact rdL false (ps ((ps k).2.1 + 1)).2.1 ((ps k).2.2 ++ (ps ((ps k).2.1 + 1)).2.2) (by first | (simp [cmpW, bnd, eat, dpt, emt, h5, h16, h36]; done) | (simp [cmpW, bnd, eat, dpt, emt, h5, h16, h36]; exact Prod.ext (by simp_all) rfl)) rfl wD3 wT3 wR3 (by first | rfl | simp only [emL_app]) (s2.trans wS3)
    · refine J_iconst (v := 0) dX2_readComparison_19 (by decide) ?_
      refine J_ireturn dX2_readComparison_20 rfl rfl (by decide) (by decide) ?_
      exact rdL false (ps k).2.1 ((ps k).2.2) (by first | (simp [cmpW, bnd, eat, dpt, emt, h5, h16]; done) | (simp [cmpW, bnd, eat, dpt, emt, h5, h16]; exact Prod.ext (by simp_all) rfl)) rfl wD1 wT1 wR1 (by first | rfl | simp only [emL_app]) ((xx_same.rf (b := b) (e := b + 15)).trans wS1)
  · refine J_iconst (v := 0) dX2_readComparison_8 (by decide) ?_
    refine J_ireturn dX2_readComparison_9 rfl rfl (by decide) (by decide) ?_
    exact rdL false (ps k).2.1 ((ps k).2.2) (by first | (simp [cmpW, bnd, eat, dpt, emt, h5]; done) | (simp [cmpW, bnd, eat, dpt, emt, h5]; exact Prod.ext (by simp_all) rfl)) rfl wD1 wT1 wR1 (by first | rfl | simp only [emL_app]) ((xx_same.rf (b := b) (e := b + 15)).trans wS1)
set_option maxHeartbeats 4000000 in
theorem c_X2_readProduct (hst : l.stackTraces = false) (hc : tkc T0 len tok sg T) {d : Nat} (hd8 : d ≤ 8) {pv : Nat → Res} {f0 g0 : Nat} (hv0 : rdP G l b T0 len tok T sg yX2_readValue mX2_readValue f0 g0 d pv) (okv : pOK tok pv) {fr lo : Nat} (hf9 : 12 ≤ fr) (hg9 : 400 ≤ lo) (hf0 : f0 + 1 ≤ fr) (hg0 : g0 + 22 ≤ lo) : rdP G l b T0 len tok T sg yX2_readProduct mX2_readProduct fr lo d (chW (scG T0 len) opP pv) := by
  intro A n D R k m y hy hW hm hmk hk hk1
  obtain ⟨hD, hT, hR⟩ := hW
  obtain ⟨hl1, hl2, ht0, ht1, hscn, hnx, hlast⟩ := id hc
  refine J_C hst (by decide +kernel) rfl rfl rfl (Nat.le_of_ble_eq_true rfl) ?_
  show xx_J _ _ _ _ _ _ _ _ 0 [(0, _), (1, _)] [] _ _ _ _
  have loop : ∀ f, ∀ (A1 : xx_H) (k1 q : Nat) (em1 : List (Int32 × Int32)) (x : Int32), x = nI q → q + 1 ≤ k1 → k1 < tok → 401 ≤ f + k1 → rdW b (atD D k1) T (emL R em1) sg A1 → xx_same b (b + 15) A A1 → m + em1.length ≤ k1 → chW (scG T0 len) opP pv k = ((lpW (scG T0 len) opP pv f k1).1, (lpW (scG T0 len) opP pv f k1).2.1, em1 ++ (lpW (scG T0 len) opP pv f k1).2.2) → xx_J G l mX2_readProduct fr lo 0 0 (rdQ b n D T R sg (chW (scG T0 len) opP pv k) A) 12 [(2, .int x), (0, .ref b), (1, .int y)] [] A1 n 0 0 := by
    intro f
    induction f with
    | zero => intro A1 k1 q em1 x hx hq hk2 hf hW1 hs1 hm1 hv; exfalso; omega
    | succ f ih =>
      intro A1 k1 q em1 x hx hq hk2 hf hW1 hs1 hm1 hv
      obtain ⟨hD1, hT1, hR1⟩ := hW1
      have hm2 := emL_3 em1 hm
      have ex : x.toInt = q := by rw [hx]; exact i_n (by omega)
      have e400 := i_400
      refine J_iload_n dX2_readProduct_12 rfl rfl ?_
      refine J_sipush (v := 400) dX2_readProduct_13 (by decide) ?_
      refine J_icmp_ge (tgt := 91) dX2_readProduct_16 rfl (fun h16 => ?_) (fun h16 => ?_)
      · first | (exfalso; simp only [i_lt, i_le, i_eq, i_0, i_1, i_2, i_3, i_4, i_5, i_6, i_8, i_9, i_10, i_12, i_16, i_20, i_m1, i_400, i_2000] at h16; omega) | (exfalso; simp only [s_up, a_up, va_up, i_lt, i_le, i_eq, i_0, i_1, i_2, i_3, i_4, i_5, i_6, i_8, i_9, i_10, i_12, i_16, i_20, i_m1, i_400, i_2000, ↓reduceIte, Nat.reduceEqDiff] at h16; omega)
      · refine J_aload_n dX2_readProduct_19 rfl rfl ?_
        refine J_gets (v := .ref 28) dX2_readProduct_20 (gs_mem 28 (by decide)) (show (28 : Nat) < 400 by decide) sl_X2_220 ?_
        refine J_callVr (As := [_]) dX2_readProduct_23 ml_X2_57 cal_X2_sees im_X2_sees se_X2_sees (hD1.at 0 rfl) rfl rfl rfl (Nat.le_of_ble_eq_true rfl) ⟨by omega, by show 8 + (2 + 11) + _ ≤ _; omega⟩ ⟨by decide, by decide⟩ (c_X2_sees hst ⟨hD1, hT1, hR1⟩ hc hk2 (v := 28) (by decide)) ?_
        refine J_ifb_ne (tgt := 39) dX2_readProduct_26 rfl (fun h26 => ?_) (fun h26 => ?_)
        · refine J_aload_n dX2_readProduct_39 rfl rfl ?_
          refine J_gets (v := .ref 28) dX2_readProduct_40 (gs_mem 28 (by decide)) (show (28 : Nat) < 400 by decide) sl_X2_220 ?_
          refine J_callVr (As := [_]) dX2_readProduct_43 ml_X2_57 cal_X2_sees im_X2_sees se_X2_sees (hD1.at 0 rfl) rfl rfl rfl (Nat.le_of_ble_eq_true rfl) ⟨by omega, by show 8 + (2 + 11) + _ ≤ _; omega⟩ ⟨by decide, by decide⟩ (c_X2_sees hst ⟨hD1, hT1, hR1⟩ hc hk2 (v := 28) (by decide)) ?_
          refine J_ifb_eq (tgt := 54) dX2_readProduct_46 rfl (fun h46 => ?_) (fun h46 => ?_)
          · exact absurd h26 h46
          · refine J_bipush (v := 10) dX2_readProduct_49 (by decide) ?_
            refine J_goto (tgt := 56) dX2_readProduct_51 rfl ?_
            refine J_istore_n (L' := [(3, _), (2, _), (0, _), (1, _)]) dX2_readProduct_56 rfl (by decide) rfl ?_
            refine J_aload_n dX2_readProduct_57 rfl rfl ?_
            refine J_dup dX2_readProduct_58 rfl ?_
            refine J_getf dX2_readProduct_59 fl_X2_39 (hD1.at 0 rfl) rfl ?_
            refine J_iconst (v := 1) dX2_readProduct_62 (by decide) ?_
            refine J_iadd dX2_readProduct_63 ?_
            refine J_putf dX2_readProduct_64 fp_X2_39 (fun _ => ⟨rfl, rfl⟩) (hD1.at 0 rfl) (Nat.le_of_ble_eq_true rfl) ?_
            refine J_gen (wD_s0_6 hD1 _) (hs1.put (by omega) (by omega) _) (fun A101 w101 s101 o101 => ?_)
            have w101R := hR1.o2 o101 (m := 6) rfl (by omega)
            have w101T := hT1.o2 o101 (m := 5) rfl (by omega)
            have w101k := atD_1 w101
            have nx101 : ¬ scG T0 len k1 = 37 ∧ ¬ scG T0 len k1 = 38 := (by constructor <;> (first | (rw [h26]; decide) | (rw [h36]; decide)))
            have hk101 : k1 + 1 < tok := hnx _ hk2 nx101.1 nx101.2
            refine J_aload_n dX2_readProduct_67 rfl rfl ?_
            refine J_iload_n dX2_readProduct_68 rfl rfl ?_
            refine J_callVw (As := [_]) dX2_readProduct_69 ml_X2_217 cal_X2_readValue im_X2_readValue se_X2_readValue (w101k.at 0 rfl) rfl rfl rfl (Nat.le_of_ble_eq_true rfl) ⟨by omega, by show 8 + (3 + 11) + _ ≤ _; omega⟩ ⟨by decide, by decide⟩ (hv0 _ _ _ _ (k1 + 1) (m + em1.length) _ hy ⟨w101k, w101T, w101R⟩ hm2 (by omega) hk101 (by omega)) (fun A102 hQ102 => ?_)
            obtain ⟨⟨wD102, wT102, wR102⟩, wS102⟩ := hQ102
            have g102 := okv (k1 + 1) hk101
            have m102 := emL_3 (pv (k1 + 1)).2.2 hm2
            refine J_ifb_ne (tgt := 77) dX2_readProduct_72 rfl (fun h72 => ?_) (fun h72 => ?_)
            · refine J_aload_n dX2_readProduct_77 rfl rfl ?_
              refine J_getf dX2_readProduct_78 fl_X2_21 (wD102.at 0 rfl) rfl ?_
              refine J_iload_n dX2_readProduct_81 rfl rfl ?_
              refine J_callVw (As := [_]) dX2_readProduct_82 ml_X2_156 cal_X3_emit im_X3_emit se_X3_emit (wR102.at 0 rfl) rfl rfl rfl (Nat.le_of_ble_eq_true rfl) ⟨by omega, by show 8 + (2 + 11) + _ ≤ _; omega⟩ ⟨by decide, by decide⟩ (c_X3_emit hst wR102 m102 (by omega) 10) (fun A103 hQ103 => ?_)
              have wR103 := wR_emL m102 (by omega) hQ103.1
              have wD103 := layD_s wD102 hQ103.2 (by omega) (by omega)
              have wT103 := wT102.s2 hQ103.2 (m := 5) rfl (by omega)
              have m103 : (emL _ [((10 : Int32), (0 : Int32))]).1 3 = nI (((m + em1.length) + (pv (k1 + 1)).2.2.length) + 1) := emL_3 [_] m102
              refine J_iinc (v := _ + 1) (L' := [(2, _), (3, _), (0, _), (1, _)]) dX2_readProduct_85 rfl rfl (by decide) rfl ?_
              refine J_goto (tgt := 12) dX2_readProduct_88 rfl ?_
              refine xx_J.pick [0, 2, 3] rfl ?_
              exact ih _ (pv (k1 + 1)).2.1 (q + 1) (em1 ++ (pv (k1 + 1)).2.2 ++ [((10 : Int32), (0 : Int32))]) _ (by rw [hx]; exact nI_1 q) (by omega) g102.2.1 (by omega) ⟨wD103, wT103, (by first | (simp only [emL_app]; exact wR103) | exact wR103)⟩ ((s101.trans wS102).trans (hQ103.2.wide (by omega) (by omega))) (by simp only [List.length_append, List.length_cons, List.length_nil]; omega) (by rw [hv]; simp [lpW, bnd, emt, eat, opP, h26, h46, h72])
            · refine J_iconst (v := 0) dX2_readProduct_75 (by decide) ?_
              refine J_ireturn dX2_readProduct_76 rfl rfl (by decide) (by decide) ?_
              exact rdL false (pv (k1 + 1)).2.1 (em1 ++ (pv (k1 + 1)).2.2) (by rw [hv]; first | (simp [lpW, opP, bnd, eat, dpt, emt, h26, h46, h72]; done) | (simp [lpW, opP, bnd, eat, dpt, emt, h26, h46, h72]; exact Prod.ext (by simp_all) rfl)) rfl wD102 wT102 wR102 (by first | rfl | simp only [emL_app]) (s101.trans wS102)
        · refine J_aload_n dX2_readProduct_29 rfl rfl ?_
          refine J_gets (v := .ref 29) dX2_readProduct_30 (gs_mem 29 (by decide)) (show (29 : Nat) < 400 by decide) sl_X2_223 ?_
          refine J_callVr (As := [_]) dX2_readProduct_33 ml_X2_57 cal_X2_sees im_X2_sees se_X2_sees (hD1.at 0 rfl) rfl rfl rfl (Nat.le_of_ble_eq_true rfl) ⟨by omega, by show 8 + (2 + 11) + _ ≤ _; omega⟩ ⟨by decide, by decide⟩ (c_X2_sees hst ⟨hD1, hT1, hR1⟩ hc hk2 (v := 29) (by decide)) ?_
          refine J_ifb_eq (tgt := 91) dX2_readProduct_36 rfl (fun h36 => ?_) (fun h36 => ?_)
          · refine J_iconst (v := 1) dX2_readProduct_91 (by decide) ?_
            refine J_ireturn dX2_readProduct_92 rfl rfl (by decide) (by decide) ?_
            exact rdL true k1 (em1) (by rw [hv]; first | (simp [lpW, opP, bnd, eat, dpt, emt, h26, h36]; done) | (simp [lpW, opP, bnd, eat, dpt, emt, h26, h36]; exact Prod.ext (by simp_all) rfl)) rfl hD1 hT1 hR1 (by first | rfl | simp only [emL_app]) hs1
          · refine J_aload_n dX2_readProduct_39 rfl rfl ?_
            refine J_gets (v := .ref 28) dX2_readProduct_40 (gs_mem 28 (by decide)) (show (28 : Nat) < 400 by decide) sl_X2_220 ?_
            refine J_callVr (As := [_]) dX2_readProduct_43 ml_X2_57 cal_X2_sees im_X2_sees se_X2_sees (hD1.at 0 rfl) rfl rfl rfl (Nat.le_of_ble_eq_true rfl) ⟨by omega, by show 8 + (2 + 11) + _ ≤ _; omega⟩ ⟨by decide, by decide⟩ (c_X2_sees hst ⟨hD1, hT1, hR1⟩ hc hk2 (v := 28) (by decide)) ?_
            refine J_ifb_eq (tgt := 54) dX2_readProduct_46 rfl (fun h46 => ?_) (fun h46 => ?_)
            · refine J_bipush (v := 11) dX2_readProduct_54 (by decide) ?_
              refine J_istore_n (L' := [(3, _), (2, _), (0, _), (1, _)]) dX2_readProduct_56 rfl (by decide) rfl ?_
              refine J_aload_n dX2_readProduct_57 rfl rfl ?_
              refine J_dup dX2_readProduct_58 rfl ?_
              refine J_getf dX2_readProduct_59 fl_X2_39 (hD1.at 0 rfl) rfl ?_
              refine J_iconst (v := 1) dX2_readProduct_62 (by decide) ?_
              refine J_iadd dX2_readProduct_63 ?_
              refine J_putf dX2_readProduct_64 fp_X2_39 (fun _ => ⟨rfl, rfl⟩) (hD1.at 0 rfl) (Nat.le_of_ble_eq_true rfl) ?_
              refine J_gen (wD_s0_6 hD1 _) (hs1.put (by omega) (by omega) _) (fun A104 w104 s104 o104 => ?_)
              have w104R := hR1.o2 o104 (m := 6) rfl (by omega)
              have w104T := hT1.o2 o104 (m := 5) rfl (by omega)
              have w104k := atD_1 w104
              have nx104 : ¬ scG T0 len k1 = 37 ∧ ¬ scG T0 len k1 = 38 := (by constructor <;> (first | (rw [h26]; decide) | (rw [h36]; decide)))
              have hk104 : k1 + 1 < tok := hnx _ hk2 nx104.1 nx104.2
              refine J_aload_n dX2_readProduct_67 rfl rfl ?_
              refine J_iload_n dX2_readProduct_68 rfl rfl ?_
              refine J_callVw (As := [_]) dX2_readProduct_69 ml_X2_217 cal_X2_readValue im_X2_readValue se_X2_readValue (w104k.at 0 rfl) rfl rfl rfl (Nat.le_of_ble_eq_true rfl) ⟨by omega, by show 8 + (3 + 11) + _ ≤ _; omega⟩ ⟨by decide, by decide⟩ (hv0 _ _ _ _ (k1 + 1) (m + em1.length) _ hy ⟨w104k, w104T, w104R⟩ hm2 (by omega) hk104 (by omega)) (fun A105 hQ105 => ?_)
              obtain ⟨⟨wD105, wT105, wR105⟩, wS105⟩ := hQ105
              have g105 := okv (k1 + 1) hk104
              have m105 := emL_3 (pv (k1 + 1)).2.2 hm2
              refine J_ifb_ne (tgt := 77) dX2_readProduct_72 rfl (fun h72 => ?_) (fun h72 => ?_)
              · refine J_aload_n dX2_readProduct_77 rfl rfl ?_
                refine J_getf dX2_readProduct_78 fl_X2_21 (wD105.at 0 rfl) rfl ?_
                refine J_iload_n dX2_readProduct_81 rfl rfl ?_
                refine J_callVw (As := [_]) dX2_readProduct_82 ml_X2_156 cal_X3_emit im_X3_emit se_X3_emit (wR105.at 0 rfl) rfl rfl rfl (Nat.le_of_ble_eq_true rfl) ⟨by omega, by show 8 + (2 + 11) + _ ≤ _; omega⟩ ⟨by decide, by decide⟩ (c_X3_emit hst wR105 m105 (by omega) 11) (fun A106 hQ106 => ?_)
                have wR106 := wR_emL m105 (by omega) hQ106.1
                have wD106 := layD_s wD105 hQ106.2 (by omega) (by omega)
                have wT106 := wT105.s2 hQ106.2 (m := 5) rfl (by omega)
                have m106 : (emL _ [((11 : Int32), (0 : Int32))]).1 3 = nI (((m + em1.length) + (pv (k1 + 1)).2.2.length) + 1) := emL_3 [_] m105
                refine J_iinc (v := _ + 1) (L' := [(2, _), (3, _), (0, _), (1, _)]) dX2_readProduct_85 rfl rfl (by decide) rfl ?_
                refine J_goto (tgt := 12) dX2_readProduct_88 rfl ?_
                refine xx_J.pick [0, 2, 3] rfl ?_
                exact ih _ (pv (k1 + 1)).2.1 (q + 1) (em1 ++ (pv (k1 + 1)).2.2 ++ [((11 : Int32), (0 : Int32))]) _ (by rw [hx]; exact nI_1 q) (by omega) g105.2.1 (by omega) ⟨wD106, wT106, (by first | (simp only [emL_app]; exact wR106) | exact wR106)⟩ ((s104.trans wS105).trans (hQ106.2.wide (by omega) (by omega))) (by simp only [List.length_append, List.length_cons, List.length_nil]; omega) (by rw [hv]; simp [lpW, bnd, emt, eat, opP, h26, h36, h46, h72])
              · refine J_iconst (v := 0) dX2_readProduct_75 (by decide) ?_
                refine J_ireturn dX2_readProduct_76 rfl rfl (by decide) (by decide) ?_
                exact rdL false (pv (k1 + 1)).2.1 (em1 ++ (pv (k1 + 1)).2.2) (by rw [hv]; first | (simp [lpW, opP, bnd, eat, dpt, emt, h26, h36, h46, h72]; done) | (simp [lpW, opP, bnd, eat, dpt, emt, h26, h36, h46, h72]; exact Prod.ext (by simp_all) rfl)) rfl wD105 wT105 wR105 (by first | rfl | simp only [emL_app]) (s104.trans wS105)
            · exact absurd h46 h26
  refine J_aload_n dX2_readProduct_0 rfl rfl ?_
  refine J_iload_n dX2_readProduct_1 rfl rfl ?_
  refine J_callVw (As := [_]) dX2_readProduct_2 ml_X2_217 cal_X2_readValue im_X2_readValue se_X2_readValue (hD.at 0 rfl) rfl rfl rfl (Nat.le_of_ble_eq_true rfl) ⟨by omega, by show 8 + (3 + 11) + _ ≤ _; omega⟩ ⟨by decide, by decide⟩ (hv0 _ _ _ _ k m _ hy ⟨hD, hT, hR⟩ hm (by omega) hk (by omega)) (fun A1 hQ1 => ?_)
  obtain ⟨⟨wD1, wT1, wR1⟩, wS1⟩ := hQ1
  have g1 := okv k hk
  have m1 := emL_3 (pv k).2.2 hm
  refine J_ifb_ne (tgt := 10) dX2_readProduct_5 rfl (fun h5 => ?_) (fun h5 => ?_)
  · refine J_iconst (v := 0) dX2_readProduct_10 (by decide) ?_
    refine J_istore_n (L' := [(2, _), (0, _), (1, _)]) dX2_readProduct_11 rfl (by decide) rfl ?_
    refine xx_J.pick [0, 1, 2] rfl ?_
    exact loop 401 _ (pv k).2.1 0 (pv k).2.2 _ rfl (by omega) g1.2.1 (by omega) ⟨wD1, wT1, wR1⟩ ((xx_same.rf (b := b) (e := b + 15)).trans wS1) (by omega) (by simp [chW, bnd, h5])
  · refine J_iconst (v := 0) dX2_readProduct_8 (by decide) ?_
    refine J_ireturn dX2_readProduct_9 rfl rfl (by decide) (by decide) ?_
    exact rdL false (pv k).2.1 ((pv k).2.2) (by first | (simp [chW, bnd, eat, dpt, emt, h5]; done) | (simp [chW, bnd, eat, dpt, emt, h5]; exact Prod.ext (by simp_all) rfl)) rfl wD1 wT1 wR1 (by first | rfl | simp only [emL_app]) ((xx_same.rf (b := b) (e := b + 15)).trans wS1)
set_option maxHeartbeats 4000000 in
theorem c_X2_readSum (hst : l.stackTraces = false) (hc : tkc T0 len tok sg T) {d : Nat} (hd8 : d ≤ 8) {pv : Nat → Res} {f0 g0 : Nat} (hv0 : rdP G l b T0 len tok T sg yX2_readProduct mX2_readProduct f0 g0 d pv) (okv : pOK tok pv) {fr lo : Nat} (hf9 : 12 ≤ fr) (hg9 : 400 ≤ lo) (hf0 : f0 + 1 ≤ fr) (hg0 : g0 + 23 ≤ lo) : rdP G l b T0 len tok T sg yX2_readSum mX2_readSum fr lo d (chW (scG T0 len) opS pv) := by
  intro A n D R k m y hy hW hm hmk hk hk1
  obtain ⟨hD, hT, hR⟩ := hW
  obtain ⟨hl1, hl2, ht0, ht1, hscn, hnx, hlast⟩ := id hc
  refine J_C hst (by decide +kernel) rfl rfl rfl (Nat.le_of_ble_eq_true rfl) ?_
  show xx_J _ _ _ _ _ _ _ _ 0 [(0, _), (1, _)] [] _ _ _ _
  have loop : ∀ f, ∀ (A1 : xx_H) (k1 q : Nat) (em1 : List (Int32 × Int32)) (x : Int32), x = nI q → q + 1 ≤ k1 → k1 < tok → 401 ≤ f + k1 → rdW b (atD D k1) T (emL R em1) sg A1 → xx_same b (b + 15) A A1 → m + em1.length ≤ k1 → chW (scG T0 len) opS pv k = ((lpW (scG T0 len) opS pv f k1).1, (lpW (scG T0 len) opS pv f k1).2.1, em1 ++ (lpW (scG T0 len) opS pv f k1).2.2) → xx_J G l mX2_readSum fr lo 0 0 (rdQ b n D T R sg (chW (scG T0 len) opS pv k) A) 12 [(2, .int x), (0, .ref b), (1, .int y)] [] A1 n 0 0 := by
    intro f
    induction f with
    | zero => intro A1 k1 q em1 x hx hq hk2 hf hW1 hs1 hm1 hv; exfalso; omega
    | succ f ih =>
      intro A1 k1 q em1 x hx hq hk2 hf hW1 hs1 hm1 hv
      obtain ⟨hD1, hT1, hR1⟩ := hW1
      have hm2 := emL_3 em1 hm
      have ex : x.toInt = q := by rw [hx]; exact i_n (by omega)
      have e400 := i_400
      refine J_iload_n dX2_readSum_12 rfl rfl ?_
      refine J_sipush (v := 400) dX2_readSum_13 (by decide) ?_
      refine J_icmp_ge (tgt := 91) dX2_readSum_16 rfl (fun h16 => ?_) (fun h16 => ?_)
      · first | (exfalso; simp only [i_lt, i_le, i_eq, i_0, i_1, i_2, i_3, i_4, i_5, i_6, i_8, i_9, i_10, i_12, i_16, i_20, i_m1, i_400, i_2000] at h16; omega) | (exfalso; simp only [s_up, a_up, va_up, i_lt, i_le, i_eq, i_0, i_1, i_2, i_3, i_4, i_5, i_6, i_8, i_9, i_10, i_12, i_16, i_20, i_m1, i_400, i_2000, ↓reduceIte, Nat.reduceEqDiff] at h16; omega)
      · refine J_aload_n dX2_readSum_19 rfl rfl ?_
        refine J_gets (v := .ref 26) dX2_readSum_20 (gs_mem 26 (by decide)) (show (26 : Nat) < 400 by decide) sl_X2_211 ?_
        refine J_callVr (As := [_]) dX2_readSum_23 ml_X2_57 cal_X2_sees im_X2_sees se_X2_sees (hD1.at 0 rfl) rfl rfl rfl (Nat.le_of_ble_eq_true rfl) ⟨by omega, by show 8 + (2 + 11) + _ ≤ _; omega⟩ ⟨by decide, by decide⟩ (c_X2_sees hst ⟨hD1, hT1, hR1⟩ hc hk2 (v := 26) (by decide)) ?_
        refine J_ifb_ne (tgt := 39) dX2_readSum_26 rfl (fun h26 => ?_) (fun h26 => ?_)
        · refine J_aload_n dX2_readSum_39 rfl rfl ?_
          refine J_gets (v := .ref 26) dX2_readSum_40 (gs_mem 26 (by decide)) (show (26 : Nat) < 400 by decide) sl_X2_211 ?_
          refine J_callVr (As := [_]) dX2_readSum_43 ml_X2_57 cal_X2_sees im_X2_sees se_X2_sees (hD1.at 0 rfl) rfl rfl rfl (Nat.le_of_ble_eq_true rfl) ⟨by omega, by show 8 + (2 + 11) + _ ≤ _; omega⟩ ⟨by decide, by decide⟩ (c_X2_sees hst ⟨hD1, hT1, hR1⟩ hc hk2 (v := 26) (by decide)) ?_
          refine J_ifb_eq (tgt := 54) dX2_readSum_46 rfl (fun h46 => ?_) (fun h46 => ?_)
          · exact absurd h26 h46
          · refine J_bipush (v := 8) dX2_readSum_49 (by decide) ?_
            refine J_goto (tgt := 56) dX2_readSum_51 rfl ?_
            refine J_istore_n (L' := [(3, _), (2, _), (0, _), (1, _)]) dX2_readSum_56 rfl (by decide) rfl ?_
            refine J_aload_n dX2_readSum_57 rfl rfl ?_
            refine J_dup dX2_readSum_58 rfl ?_
            refine J_getf dX2_readSum_59 fl_X2_39 (hD1.at 0 rfl) rfl ?_
            refine J_iconst (v := 1) dX2_readSum_62 (by decide) ?_
            refine J_iadd dX2_readSum_63 ?_
            refine J_putf dX2_readSum_64 fp_X2_39 (fun _ => ⟨rfl, rfl⟩) (hD1.at 0 rfl) (Nat.le_of_ble_eq_true rfl) ?_
            refine J_gen (wD_s0_6 hD1 _) (hs1.put (by omega) (by omega) _) (fun A101 w101 s101 o101 => ?_)
            have w101R := hR1.o2 o101 (m := 6) rfl (by omega)
            have w101T := hT1.o2 o101 (m := 5) rfl (by omega)
            have w101k := atD_1 w101
            have nx101 : ¬ scG T0 len k1 = 37 ∧ ¬ scG T0 len k1 = 38 := (by constructor <;> (first | (rw [h26]; decide) | (rw [h36]; decide)))
            have hk101 : k1 + 1 < tok := hnx _ hk2 nx101.1 nx101.2
            refine J_aload_n dX2_readSum_67 rfl rfl ?_
            refine J_iload_n dX2_readSum_68 rfl rfl ?_
            refine J_callVw (As := [_]) dX2_readSum_69 ml_X2_208 cal_X2_readProduct im_X2_readProduct se_X2_readProduct (w101k.at 0 rfl) rfl rfl rfl (Nat.le_of_ble_eq_true rfl) ⟨by omega, by show 8 + (4 + 11) + _ ≤ _; omega⟩ ⟨by decide, by decide⟩ (hv0 _ _ _ _ (k1 + 1) (m + em1.length) _ hy ⟨w101k, w101T, w101R⟩ hm2 (by omega) hk101 (by omega)) (fun A102 hQ102 => ?_)
            obtain ⟨⟨wD102, wT102, wR102⟩, wS102⟩ := hQ102
            have g102 := okv (k1 + 1) hk101
            have m102 := emL_3 (pv (k1 + 1)).2.2 hm2
            refine J_ifb_ne (tgt := 77) dX2_readSum_72 rfl (fun h72 => ?_) (fun h72 => ?_)
            · refine J_aload_n dX2_readSum_77 rfl rfl ?_
              refine J_getf dX2_readSum_78 fl_X2_21 (wD102.at 0 rfl) rfl ?_
              refine J_iload_n dX2_readSum_81 rfl rfl ?_
              refine J_callVw (As := [_]) dX2_readSum_82 ml_X2_156 cal_X3_emit im_X3_emit se_X3_emit (wR102.at 0 rfl) rfl rfl rfl (Nat.le_of_ble_eq_true rfl) ⟨by omega, by show 8 + (2 + 11) + _ ≤ _; omega⟩ ⟨by decide, by decide⟩ (c_X3_emit hst wR102 m102 (by omega) 8) (fun A103 hQ103 => ?_)
              have wR103 := wR_emL m102 (by omega) hQ103.1
              have wD103 := layD_s wD102 hQ103.2 (by omega) (by omega)
              have wT103 := wT102.s2 hQ103.2 (m := 5) rfl (by omega)
              have m103 : (emL _ [((8 : Int32), (0 : Int32))]).1 3 = nI (((m + em1.length) + (pv (k1 + 1)).2.2.length) + 1) := emL_3 [_] m102
              refine J_iinc (v := _ + 1) (L' := [(2, _), (3, _), (0, _), (1, _)]) dX2_readSum_85 rfl rfl (by decide) rfl ?_
              refine J_goto (tgt := 12) dX2_readSum_88 rfl ?_
              refine xx_J.pick [0, 2, 3] rfl ?_
              exact ih _ (pv (k1 + 1)).2.1 (q + 1) (em1 ++ (pv (k1 + 1)).2.2 ++ [((8 : Int32), (0 : Int32))]) _ (by rw [hx]; exact nI_1 q) (by omega) g102.2.1 (by omega) ⟨wD103, wT103, (by first | (simp only [emL_app]; exact wR103) | exact wR103)⟩ ((s101.trans wS102).trans (hQ103.2.wide (by omega) (by omega))) (by simp only [List.length_append, List.length_cons, List.length_nil]; omega) (by rw [hv]; simp [lpW, bnd, emt, eat, opS, h26, h46, h72])
            · refine J_iconst (v := 0) dX2_readSum_75 (by decide) ?_
              refine J_ireturn dX2_readSum_76 rfl rfl (by decide) (by decide) ?_
              exact rdL false (pv (k1 + 1)).2.1 (em1 ++ (pv (k1 + 1)).2.2) (by rw [hv]; first | (simp [lpW, opS, bnd, eat, dpt, emt, h26, h46, h72]; done) | (simp [lpW, opS, bnd, eat, dpt, emt, h26, h46, h72]; exact Prod.ext (by simp_all) rfl)) rfl wD102 wT102 wR102 (by first | rfl | simp only [emL_app]) (s101.trans wS102)
        · refine J_aload_n dX2_readSum_29 rfl rfl ?_
          refine J_gets (v := .ref 27) dX2_readSum_30 (gs_mem 27 (by decide)) (show (27 : Nat) < 400 by decide) sl_X2_214 ?_
          refine J_callVr (As := [_]) dX2_readSum_33 ml_X2_57 cal_X2_sees im_X2_sees se_X2_sees (hD1.at 0 rfl) rfl rfl rfl (Nat.le_of_ble_eq_true rfl) ⟨by omega, by show 8 + (2 + 11) + _ ≤ _; omega⟩ ⟨by decide, by decide⟩ (c_X2_sees hst ⟨hD1, hT1, hR1⟩ hc hk2 (v := 27) (by decide)) ?_
          refine J_ifb_eq (tgt := 91) dX2_readSum_36 rfl (fun h36 => ?_) (fun h36 => ?_)
          · refine J_iconst (v := 1) dX2_readSum_91 (by decide) ?_
            refine J_ireturn dX2_readSum_92 rfl rfl (by decide) (by decide) ?_
            exact rdL true k1 (em1) (by rw [hv]; first | (simp [lpW, opS, bnd, eat, dpt, emt, h26, h36]; done) | (simp [lpW, opS, bnd, eat, dpt, emt, h26, h36]; exact Prod.ext (by simp_all) rfl)) rfl hD1 hT1 hR1 (by first | rfl | simp only [emL_app]) hs1
          · refine J_aload_n dX2_readSum_39 rfl rfl ?_
            refine J_gets (v := .ref 26) dX2_readSum_40 (gs_mem 26 (by decide)) (show (26 : Nat) < 400 by decide) sl_X2_211 ?_
            refine J_callVr (As := [_]) dX2_readSum_43 ml_X2_57 cal_X2_sees im_X2_sees se_X2_sees (hD1.at 0 rfl) rfl rfl rfl (Nat.le_of_ble_eq_true rfl) ⟨by omega, by show 8 + (2 + 11) + _ ≤ _; omega⟩ ⟨by decide, by decide⟩ (c_X2_sees hst ⟨hD1, hT1, hR1⟩ hc hk2 (v := 26) (by decide)) ?_
            refine J_ifb_eq (tgt := 54) dX2_readSum_46 rfl (fun h46 => ?_) (fun h46 => ?_)
            · refine J_bipush (v := 9) dX2_readSum_54 (by decide) ?_
              refine J_istore_n (L' := [(3, _), (2, _), (0, _), (1, _)]) dX2_readSum_56 rfl (by decide) rfl ?_
              refine J_aload_n dX2_readSum_57 rfl rfl ?_
              refine J_dup dX2_readSum_58 rfl ?_
              refine J_getf dX2_readSum_59 fl_X2_39 (hD1.at 0 rfl) rfl ?_
              refine J_iconst (v := 1) dX2_readSum_62 (by decide) ?_
              refine J_iadd dX2_readSum_63 ?_
              refine J_putf dX2_readSum_64 fp_X2_39 (fun _ => ⟨rfl, rfl⟩) (hD1.at 0 rfl) (Nat.le_of_ble_eq_true rfl) ?_
              refine J_gen (wD_s0_6 hD1 _) (hs1.put (by omega) (by omega) _) (fun A104 w104 s104 o104 => ?_)
              have w104R := hR1.o2 o104 (m := 6) rfl (by omega)
              have w104T := hT1.o2 o104 (m := 5) rfl (by omega)
              have w104k := atD_1 w104
              have nx104 : ¬ scG T0 len k1 = 37 ∧ ¬ scG T0 len k1 = 38 := (by constructor <;> (first | (rw [h26]; decide) | (rw [h36]; decide)))
              have hk104 : k1 + 1 < tok := hnx _ hk2 nx104.1 nx104.2
              refine J_aload_n dX2_readSum_67 rfl rfl ?_
              refine J_iload_n dX2_readSum_68 rfl rfl ?_
              refine J_callVw (As := [_]) dX2_readSum_69 ml_X2_208 cal_X2_readProduct im_X2_readProduct se_X2_readProduct (w104k.at 0 rfl) rfl rfl rfl (Nat.le_of_ble_eq_true rfl) ⟨by omega, by show 8 + (4 + 11) + _ ≤ _; omega⟩ ⟨by decide, by decide⟩ (hv0 _ _ _ _ (k1 + 1) (m + em1.length) _ hy ⟨w104k, w104T, w104R⟩ hm2 (by omega) hk104 (by omega)) (fun A105 hQ105 => ?_)
              obtain ⟨⟨wD105, wT105, wR105⟩, wS105⟩ := hQ105
              have g105 := okv (k1 + 1) hk104
              have m105 := emL_3 (pv (k1 + 1)).2.2 hm2
              refine J_ifb_ne (tgt := 77) dX2_readSum_72 rfl (fun h72 => ?_) (fun h72 => ?_)
              · refine J_aload_n dX2_readSum_77 rfl rfl ?_
                refine J_getf dX2_readSum_78 fl_X2_21 (wD105.at 0 rfl) rfl ?_
                refine J_iload_n dX2_readSum_81 rfl rfl ?_
                refine J_callVw (As := [_]) dX2_readSum_82 ml_X2_156 cal_X3_emit im_X3_emit se_X3_emit (wR105.at 0 rfl) rfl rfl rfl (Nat.le_of_ble_eq_true rfl) ⟨by omega, by show 8 + (2 + 11) + _ ≤ _; omega⟩ ⟨by decide, by decide⟩ (c_X3_emit hst wR105 m105 (by omega) 9) (fun A106 hQ106 => ?_)
                have wR106 := wR_emL m105 (by omega) hQ106.1
                have wD106 := layD_s wD105 hQ106.2 (by omega) (by omega)
                have wT106 := wT105.s2 hQ106.2 (m := 5) rfl (by omega)
                have m106 : (emL _ [((9 : Int32), (0 : Int32))]).1 3 = nI (((m + em1.length) + (pv (k1 + 1)).2.2.length) + 1) := emL_3 [_] m105
                refine J_iinc (v := _ + 1) (L' := [(2, _), (3, _), (0, _), (1, _)]) dX2_readSum_85 rfl rfl (by decide) rfl ?_
                refine J_goto (tgt := 12) dX2_readSum_88 rfl ?_
                refine xx_J.pick [0, 2, 3] rfl ?_
                exact ih _ (pv (k1 + 1)).2.1 (q + 1) (em1 ++ (pv (k1 + 1)).2.2 ++ [((9 : Int32), (0 : Int32))]) _ (by rw [hx]; exact nI_1 q) (by omega) g105.2.1 (by omega) ⟨wD106, wT106, (by first | (simp only [emL_app]; exact wR106) | exact wR106)⟩ ((s104.trans wS105).trans (hQ106.2.wide (by omega) (by omega))) (by simp only [List.length_append, List.length_cons, List.length_nil]; omega) (by rw [hv]; simp [lpW, bnd, emt, eat, opS, h26, h36, h46, h72])
              · refine J_iconst (v := 0) dX2_readSum_75 (by decide) ?_
                refine J_ireturn dX2_readSum_76 rfl rfl (by decide) (by decide) ?_
                exact rdL false (pv (k1 + 1)).2.1 (em1 ++ (pv (k1 + 1)).2.2) (by rw [hv]; first | (simp [lpW, opS, bnd, eat, dpt, emt, h26, h36, h46, h72]; done) | (simp [lpW, opS, bnd, eat, dpt, emt, h26, h36, h46, h72]; exact Prod.ext (by simp_all) rfl)) rfl wD105 wT105 wR105 (by first | rfl | simp only [emL_app]) (s104.trans wS105)
            · exact absurd h46 h26
  refine J_aload_n dX2_readSum_0 rfl rfl ?_
  refine J_iload_n dX2_readSum_1 rfl rfl ?_
  refine J_callVw (As := [_]) dX2_readSum_2 ml_X2_208 cal_X2_readProduct im_X2_readProduct se_X2_readProduct (hD.at 0 rfl) rfl rfl rfl (Nat.le_of_ble_eq_true rfl) ⟨by omega, by show 8 + (4 + 11) + _ ≤ _; omega⟩ ⟨by decide, by decide⟩ (hv0 _ _ _ _ k m _ hy ⟨hD, hT, hR⟩ hm (by omega) hk (by omega)) (fun A1 hQ1 => ?_)
  obtain ⟨⟨wD1, wT1, wR1⟩, wS1⟩ := hQ1
  have g1 := okv k hk
  have m1 := emL_3 (pv k).2.2 hm
  refine J_ifb_ne (tgt := 10) dX2_readSum_5 rfl (fun h5 => ?_) (fun h5 => ?_)
  · refine J_iconst (v := 0) dX2_readSum_10 (by decide) ?_
    refine J_istore_n (L' := [(2, _), (0, _), (1, _)]) dX2_readSum_11 rfl (by decide) rfl ?_
    refine xx_J.pick [0, 1, 2] rfl ?_
    exact loop 401 _ (pv k).2.1 0 (pv k).2.2 _ rfl (by omega) g1.2.1 (by omega) ⟨wD1, wT1, wR1⟩ ((xx_same.rf (b := b) (e := b + 15)).trans wS1) (by omega) (by simp [chW, bnd, h5])
  · refine J_iconst (v := 0) dX2_readSum_8 (by decide) ?_
    refine J_ireturn dX2_readSum_9 rfl rfl (by decide) (by decide) ?_
    exact rdL false (pv k).2.1 ((pv k).2.2) (by first | (simp [chW, bnd, eat, dpt, emt, h5]; done) | (simp [chW, bnd, eat, dpt, emt, h5]; exact Prod.ext (by simp_all) rfl)) rfl wD1 wT1 wR1 (by first | rfl | simp only [emL_app]) ((xx_same.rf (b := b) (e := b + 15)).trans wS1)
set_option maxHeartbeats 4000000 in
theorem c_X2_readBoth (hst : l.stackTraces = false) (hc : tkc T0 len tok sg T) {d : Nat} (hd8 : d ≤ 8) {q1 : Nat → Res} {f0 g0 : Nat} (hv0 : rdP G l b T0 len tok T sg yX2_readSingle mX2_readSingle f0 g0 d q1) (ok1 : pOK tok q1) {fr lo : Nat} (hf9 : 12 ≤ fr) (hg9 : 400 ≤ lo) (hf0 : f0 + 1 ≤ fr) (hg0 : g0 + 21 ≤ lo) : rdP G l b T0 len tok T sg yX2_readBoth mX2_readBoth fr lo d (chW (scG T0 len) opA q1) := by
  intro A n D R k m y hy hW hm hmk hk hk1
  obtain ⟨hD, hT, hR⟩ := hW
  obtain ⟨hl1, hl2, ht0, ht1, hscn, hnx, hlast⟩ := id hc
  refine J_C hst (by decide +kernel) rfl rfl rfl (Nat.le_of_ble_eq_true rfl) ?_
  show xx_J _ _ _ _ _ _ _ _ 0 [(0, _), (1, _)] [] _ _ _ _
  have loop : ∀ f, ∀ (A1 : xx_H) (k1 q : Nat) (em1 : List (Int32 × Int32)) (x : Int32), x = nI q → q + 1 ≤ k1 → k1 < tok → 401 ≤ f + k1 → rdW b (atD D k1) T (emL R em1) sg A1 → xx_same b (b + 15) A A1 → m + em1.length ≤ k1 → chW (scG T0 len) opA q1 k = ((lpW (scG T0 len) opA q1 f k1).1, (lpW (scG T0 len) opA q1 f k1).2.1, em1 ++ (lpW (scG T0 len) opA q1 f k1).2.2) → xx_J G l mX2_readBoth fr lo 0 0 (rdQ b n D T R sg (chW (scG T0 len) opA q1 k) A) 12 [(2, .int x), (0, .ref b), (1, .int y)] [] A1 n 0 0 := by
    intro f
    induction f with
    | zero => intro A1 k1 q em1 x hx hq hk2 hf hW1 hs1 hm1 hv; exfalso; omega
    | succ f ih =>
      intro A1 k1 q em1 x hx hq hk2 hf hW1 hs1 hm1 hv
      obtain ⟨hD1, hT1, hR1⟩ := hW1
      have hm2 := emL_3 em1 hm
      have ex : x.toInt = q := by rw [hx]; exact i_n (by omega)
      have e400 := i_400
      refine J_iload_n dX2_readBoth_12 rfl rfl ?_
      refine J_sipush (v := 400) dX2_readBoth_13 (by decide) ?_
      refine J_icmp_ge (tgt := 54) dX2_readBoth_16 rfl (fun h16 => ?_) (fun h16 => ?_)
      · first | (exfalso; simp only [i_lt, i_le, i_eq, i_0, i_1, i_2, i_3, i_4, i_5, i_6, i_8, i_9, i_10, i_12, i_16, i_20, i_m1, i_400, i_2000] at h16; omega) | (exfalso; simp only [s_up, a_up, va_up, i_lt, i_le, i_eq, i_0, i_1, i_2, i_3, i_4, i_5, i_6, i_8, i_9, i_10, i_12, i_16, i_20, i_m1, i_400, i_2000, ↓reduceIte, Nat.reduceEqDiff] at h16; omega)
      · refine J_aload_n dX2_readBoth_19 rfl rfl ?_
        refine J_gets (v := .ref 16) dX2_readBoth_20 (gs_mem 16 (by decide)) (show (16 : Nat) < 400 by decide) sl_X2_162 ?_
        refine J_callVw (As := [_]) dX2_readBoth_23 ml_X2_64 cal_X2_takes im_X2_takes se_X2_takes (hD1.at 0 rfl) rfl rfl rfl (Nat.le_of_ble_eq_true rfl) ⟨by omega, by show 8 + (2 + 11) + _ ≤ _; omega⟩ ⟨by decide, by decide⟩ (c_X2_takes hst ⟨hD1, hT1, hR1⟩ hc hk2 (v := 16) (by decide)) (fun A101 hQ101 => ?_)
        obtain ⟨⟨wD101, wT101, wR101⟩, wS101⟩ := hQ101
        refine J_ifb_eq (tgt := 54) dX2_readBoth_26 rfl (fun h26 => ?_) (fun h26 => ?_)
        · have th26 : ¬ (scG T0 len k1 = 16) := fun z => h26 (eat_t.mpr z)
          rw [eat_f2 th26] at wD101
          refine J_iconst (v := 1) dX2_readBoth_54 (by decide) ?_
          refine J_ireturn dX2_readBoth_55 rfl rfl (by decide) (by decide) ?_
          exact rdL true k1 (em1) (by rw [hv]; first | (simp [lpW, opA, bnd, eat, dpt, emt, th26]; done) | (simp [lpW, opA, bnd, eat, dpt, emt, th26]; exact Prod.ext (by simp_all) rfl)) rfl wD101 wT101 wR101 (by first | rfl | simp only [emL_app]) (hs1.trans wS101)
        · have th26 := (eat_t.mp h26)
          rw [eat_t2 th26] at wD101
          have kh26 : k1 + 1 < tok := hnx _ hk2 (by rw [th26]; decide) (by rw [th26]; decide)
          refine J_aload_n dX2_readBoth_29 rfl rfl ?_
          refine J_iload_n dX2_readBoth_30 rfl rfl ?_
          refine J_callVw (As := [_]) dX2_readBoth_31 ml_X2_159 cal_X2_readSingle im_X2_readSingle se_X2_readSingle (wD101.at 0 rfl) rfl rfl rfl (Nat.le_of_ble_eq_true rfl) ⟨by omega, by show 8 + (2 + 11) + _ ≤ _; omega⟩ ⟨by decide, by decide⟩ (hv0 _ _ _ _ (k1 + 1) (m + em1.length) _ hy ⟨wD101, wT101, wR101⟩ hm2 (by omega) kh26 (by omega)) (fun A102 hQ102 => ?_)
          obtain ⟨⟨wD102, wT102, wR102⟩, wS102⟩ := hQ102
          have g102 := ok1 (k1 + 1) kh26
          have m102 := emL_3 (q1 (k1 + 1)).2.2 hm2
          refine J_ifb_ne (tgt := 39) dX2_readBoth_34 rfl (fun h34 => ?_) (fun h34 => ?_)
          · refine J_aload_n dX2_readBoth_39 rfl rfl ?_
            refine J_getf dX2_readBoth_40 fl_X2_21 (wD102.at 0 rfl) rfl ?_
            refine J_bipush (v := 19) dX2_readBoth_43 (by decide) ?_
            refine J_callVw (As := [_]) dX2_readBoth_45 ml_X2_156 cal_X3_emit im_X3_emit se_X3_emit (wR102.at 0 rfl) rfl rfl rfl (Nat.le_of_ble_eq_true rfl) ⟨by omega, by show 8 + (2 + 11) + _ ≤ _; omega⟩ ⟨by decide, by decide⟩ (c_X3_emit hst wR102 m102 (by omega) 19) (fun A103 hQ103 => ?_)
            have wR103 := wR_emL m102 (by omega) hQ103.1
            have wD103 := layD_s wD102 hQ103.2 (by omega) (by omega)
            have wT103 := wT102.s2 hQ103.2 (m := 5) rfl (by omega)
            have m103 : (emL _ [((19 : Int32), (0 : Int32))]).1 3 = nI (((m + em1.length) + (q1 (k1 + 1)).2.2.length) + 1) := emL_3 [_] m102
            refine J_iinc (v := _ + 1) (L' := [(2, _), (0, _), (1, _)]) dX2_readBoth_48 rfl rfl (by decide) rfl ?_
            refine J_goto (tgt := 12) dX2_readBoth_51 rfl ?_
            refine xx_J.pick [0, 1, 2] rfl ?_
            exact ih _ (q1 (k1 + 1)).2.1 (q + 1) (em1 ++ (q1 (k1 + 1)).2.2 ++ [((19 : Int32), (0 : Int32))]) _ (by rw [hx]; exact nI_1 q) (by omega) g102.2.1 (by omega) ⟨wD103, wT103, (by first | (simp only [emL_app]; exact wR103) | exact wR103)⟩ (((hs1.trans wS101).trans wS102).trans (hQ103.2.wide (by omega) (by omega))) (by simp only [List.length_append, List.length_cons, List.length_nil]; omega) (by rw [hv]; simp [lpW, bnd, emt, eat, opA, th26, h34])
          · refine J_iconst (v := 0) dX2_readBoth_37 (by decide) ?_
            refine J_ireturn dX2_readBoth_38 rfl rfl (by decide) (by decide) ?_
            exact rdL false (q1 (k1 + 1)).2.1 (em1 ++ (q1 (k1 + 1)).2.2) (by rw [hv]; first | (simp [lpW, opA, bnd, eat, dpt, emt, th26, h34]; done) | (simp [lpW, opA, bnd, eat, dpt, emt, th26, h34]; exact Prod.ext (by simp_all) rfl)) rfl wD102 wT102 wR102 (by first | rfl | simp only [emL_app]) ((hs1.trans wS101).trans wS102)
  refine J_aload_n dX2_readBoth_0 rfl rfl ?_
  refine J_iload_n dX2_readBoth_1 rfl rfl ?_
  refine J_callVw (As := [_]) dX2_readBoth_2 ml_X2_159 cal_X2_readSingle im_X2_readSingle se_X2_readSingle (hD.at 0 rfl) rfl rfl rfl (Nat.le_of_ble_eq_true rfl) ⟨by omega, by show 8 + (2 + 11) + _ ≤ _; omega⟩ ⟨by decide, by decide⟩ (hv0 _ _ _ _ k m _ hy ⟨hD, hT, hR⟩ hm (by omega) hk (by omega)) (fun A1 hQ1 => ?_)
  obtain ⟨⟨wD1, wT1, wR1⟩, wS1⟩ := hQ1
  have g1 := ok1 k hk
  have m1 := emL_3 (q1 k).2.2 hm
  refine J_ifb_ne (tgt := 10) dX2_readBoth_5 rfl (fun h5 => ?_) (fun h5 => ?_)
  · refine J_iconst (v := 0) dX2_readBoth_10 (by decide) ?_
    refine J_istore_n (L' := [(2, _), (0, _), (1, _)]) dX2_readBoth_11 rfl (by decide) rfl ?_
    refine xx_J.pick [0, 1, 2] rfl ?_
    exact loop 401 _ (q1 k).2.1 0 (q1 k).2.2 _ rfl (by omega) g1.2.1 (by omega) ⟨wD1, wT1, wR1⟩ ((xx_same.rf (b := b) (e := b + 15)).trans wS1) (by omega) (by simp [chW, bnd, h5])
  · refine J_iconst (v := 0) dX2_readBoth_8 (by decide) ?_
    refine J_ireturn dX2_readBoth_9 rfl rfl (by decide) (by decide) ?_
    exact rdL false (q1 k).2.1 ((q1 k).2.2) (by first | (simp [chW, bnd, eat, dpt, emt, h5]; done) | (simp [chW, bnd, eat, dpt, emt, h5]; exact Prod.ext (by simp_all) rfl)) rfl wD1 wT1 wR1 (by first | rfl | simp only [emL_app]) ((xx_same.rf (b := b) (e := b + 15)).trans wS1)
set_option maxHeartbeats 4000000 in
theorem c_X2_readTest (hst : l.stackTraces = false) (hc : tkc T0 len tok sg T) {d : Nat} (hd8 : d ≤ 8) {q1 : Nat → Res} {f0 g0 : Nat} (hv0 : rdP G l b T0 len tok T sg yX2_readBoth mX2_readBoth f0 g0 d q1) (ok1 : pOK tok q1) {fr lo : Nat} (hf9 : 12 ≤ fr) (hg9 : 400 ≤ lo) (hf0 : f0 + 1 ≤ fr) (hg0 : g0 + 22 ≤ lo) : rdP G l b T0 len tok T sg yX2_readTest mX2_readTest fr lo d (chW (scG T0 len) opO q1) := by
  intro A n D R k m y hy hW hm hmk hk hk1
  obtain ⟨hD, hT, hR⟩ := hW
  obtain ⟨hl1, hl2, ht0, ht1, hscn, hnx, hlast⟩ := id hc
  refine J_C hst (by decide +kernel) rfl rfl rfl (Nat.le_of_ble_eq_true rfl) ?_
  show xx_J _ _ _ _ _ _ _ _ 0 [(0, _), (1, _)] [] _ _ _ _
  have loop : ∀ f, ∀ (A1 : xx_H) (k1 q : Nat) (em1 : List (Int32 × Int32)) (x : Int32), x = nI q → q + 1 ≤ k1 → k1 < tok → 401 ≤ f + k1 → rdW b (atD D k1) T (emL R em1) sg A1 → xx_same b (b + 15) A A1 → m + em1.length ≤ k1 → chW (scG T0 len) opO q1 k = ((lpW (scG T0 len) opO q1 f k1).1, (lpW (scG T0 len) opO q1 f k1).2.1, em1 ++ (lpW (scG T0 len) opO q1 f k1).2.2) → xx_J G l mX2_readTest fr lo 0 0 (rdQ b n D T R sg (chW (scG T0 len) opO q1 k) A) 12 [(2, .int x), (0, .ref b), (1, .int y)] [] A1 n 0 0 := by
    intro f
    induction f with
    | zero => intro A1 k1 q em1 x hx hq hk2 hf hW1 hs1 hm1 hv; exfalso; omega
    | succ f ih =>
      intro A1 k1 q em1 x hx hq hk2 hf hW1 hs1 hm1 hv
      obtain ⟨hD1, hT1, hR1⟩ := hW1
      have hm2 := emL_3 em1 hm
      have ex : x.toInt = q := by rw [hx]; exact i_n (by omega)
      have e400 := i_400
      refine J_iload_n dX2_readTest_12 rfl rfl ?_
      refine J_sipush (v := 400) dX2_readTest_13 (by decide) ?_
      refine J_icmp_ge (tgt := 54) dX2_readTest_16 rfl (fun h16 => ?_) (fun h16 => ?_)
      · first | (exfalso; simp only [i_lt, i_le, i_eq, i_0, i_1, i_2, i_3, i_4, i_5, i_6, i_8, i_9, i_10, i_12, i_16, i_20, i_m1, i_400, i_2000] at h16; omega) | (exfalso; simp only [s_up, a_up, va_up, i_lt, i_le, i_eq, i_0, i_1, i_2, i_3, i_4, i_5, i_6, i_8, i_9, i_10, i_12, i_16, i_20, i_m1, i_400, i_2000, ↓reduceIte, Nat.reduceEqDiff] at h16; omega)
      · refine J_aload_n dX2_readTest_19 rfl rfl ?_
        refine J_gets (v := .ref 17) dX2_readTest_20 (gs_mem 17 (by decide)) (show (17 : Nat) < 400 by decide) sl_X2_153 ?_
        refine J_callVw (As := [_]) dX2_readTest_23 ml_X2_64 cal_X2_takes im_X2_takes se_X2_takes (hD1.at 0 rfl) rfl rfl rfl (Nat.le_of_ble_eq_true rfl) ⟨by omega, by show 8 + (2 + 11) + _ ≤ _; omega⟩ ⟨by decide, by decide⟩ (c_X2_takes hst ⟨hD1, hT1, hR1⟩ hc hk2 (v := 17) (by decide)) (fun A101 hQ101 => ?_)
        obtain ⟨⟨wD101, wT101, wR101⟩, wS101⟩ := hQ101
        refine J_ifb_eq (tgt := 54) dX2_readTest_26 rfl (fun h26 => ?_) (fun h26 => ?_)
        · have th26 : ¬ (scG T0 len k1 = 17) := fun z => h26 (eat_t.mpr z)
          rw [eat_f2 th26] at wD101
          refine J_iconst (v := 1) dX2_readTest_54 (by decide) ?_
          refine J_ireturn dX2_readTest_55 rfl rfl (by decide) (by decide) ?_
          exact rdL true k1 (em1) (by rw [hv]; first | (simp [lpW, opO, bnd, eat, dpt, emt, th26]; done) | (simp [lpW, opO, bnd, eat, dpt, emt, th26]; exact Prod.ext (by simp_all) rfl)) rfl wD101 wT101 wR101 (by first | rfl | simp only [emL_app]) (hs1.trans wS101)
        · have th26 := (eat_t.mp h26)
          rw [eat_t2 th26] at wD101
          have kh26 : k1 + 1 < tok := hnx _ hk2 (by rw [th26]; decide) (by rw [th26]; decide)
          refine J_aload_n dX2_readTest_29 rfl rfl ?_
          refine J_iload_n dX2_readTest_30 rfl rfl ?_
          refine J_callVw (As := [_]) dX2_readTest_31 ml_X2_150 cal_X2_readBoth im_X2_readBoth se_X2_readBoth (wD101.at 0 rfl) rfl rfl rfl (Nat.le_of_ble_eq_true rfl) ⟨by omega, by show 8 + (3 + 11) + _ ≤ _; omega⟩ ⟨by decide, by decide⟩ (hv0 _ _ _ _ (k1 + 1) (m + em1.length) _ hy ⟨wD101, wT101, wR101⟩ hm2 (by omega) kh26 (by omega)) (fun A102 hQ102 => ?_)
          obtain ⟨⟨wD102, wT102, wR102⟩, wS102⟩ := hQ102
          have g102 := ok1 (k1 + 1) kh26
          have m102 := emL_3 (q1 (k1 + 1)).2.2 hm2
          refine J_ifb_ne (tgt := 39) dX2_readTest_34 rfl (fun h34 => ?_) (fun h34 => ?_)
          · refine J_aload_n dX2_readTest_39 rfl rfl ?_
            refine J_getf dX2_readTest_40 fl_X2_21 (wD102.at 0 rfl) rfl ?_
            refine J_bipush (v := 20) dX2_readTest_43 (by decide) ?_
            refine J_callVw (As := [_]) dX2_readTest_45 ml_X2_156 cal_X3_emit im_X3_emit se_X3_emit (wR102.at 0 rfl) rfl rfl rfl (Nat.le_of_ble_eq_true rfl) ⟨by omega, by show 8 + (2 + 11) + _ ≤ _; omega⟩ ⟨by decide, by decide⟩ (c_X3_emit hst wR102 m102 (by omega) 20) (fun A103 hQ103 => ?_)
            have wR103 := wR_emL m102 (by omega) hQ103.1
            have wD103 := layD_s wD102 hQ103.2 (by omega) (by omega)
            have wT103 := wT102.s2 hQ103.2 (m := 5) rfl (by omega)
            have m103 : (emL _ [((20 : Int32), (0 : Int32))]).1 3 = nI (((m + em1.length) + (q1 (k1 + 1)).2.2.length) + 1) := emL_3 [_] m102
            refine J_iinc (v := _ + 1) (L' := [(2, _), (0, _), (1, _)]) dX2_readTest_48 rfl rfl (by decide) rfl ?_
            refine J_goto (tgt := 12) dX2_readTest_51 rfl ?_
            refine xx_J.pick [0, 1, 2] rfl ?_
            exact ih _ (q1 (k1 + 1)).2.1 (q + 1) (em1 ++ (q1 (k1 + 1)).2.2 ++ [((20 : Int32), (0 : Int32))]) _ (by rw [hx]; exact nI_1 q) (by omega) g102.2.1 (by omega) ⟨wD103, wT103, (by first | (simp only [emL_app]; exact wR103) | exact wR103)⟩ (((hs1.trans wS101).trans wS102).trans (hQ103.2.wide (by omega) (by omega))) (by simp only [List.length_append, List.length_cons, List.length_nil]; omega) (by rw [hv]; simp [lpW, bnd, emt, eat, opO, th26, h34])
          · refine J_iconst (v := 0) dX2_readTest_37 (by decide) ?_
            refine J_ireturn dX2_readTest_38 rfl rfl (by decide) (by decide) ?_
            exact rdL false (q1 (k1 + 1)).2.1 (em1 ++ (q1 (k1 + 1)).2.2) (by rw [hv]; first | (simp [lpW, opO, bnd, eat, dpt, emt, th26, h34]; done) | (simp [lpW, opO, bnd, eat, dpt, emt, th26, h34]; exact Prod.ext (by simp_all) rfl)) rfl wD102 wT102 wR102 (by first | rfl | simp only [emL_app]) ((hs1.trans wS101).trans wS102)
  refine J_aload_n dX2_readTest_0 rfl rfl ?_
  refine J_iload_n dX2_readTest_1 rfl rfl ?_
  refine J_callVw (As := [_]) dX2_readTest_2 ml_X2_150 cal_X2_readBoth im_X2_readBoth se_X2_readBoth (hD.at 0 rfl) rfl rfl rfl (Nat.le_of_ble_eq_true rfl) ⟨by omega, by show 8 + (3 + 11) + _ ≤ _; omega⟩ ⟨by decide, by decide⟩ (hv0 _ _ _ _ k m _ hy ⟨hD, hT, hR⟩ hm (by omega) hk (by omega)) (fun A1 hQ1 => ?_)
  obtain ⟨⟨wD1, wT1, wR1⟩, wS1⟩ := hQ1
  have g1 := ok1 k hk
  have m1 := emL_3 (q1 k).2.2 hm
  refine J_ifb_ne (tgt := 10) dX2_readTest_5 rfl (fun h5 => ?_) (fun h5 => ?_)
  · refine J_iconst (v := 0) dX2_readTest_10 (by decide) ?_
    refine J_istore_n (L' := [(2, _), (0, _), (1, _)]) dX2_readTest_11 rfl (by decide) rfl ?_
    refine xx_J.pick [0, 1, 2] rfl ?_
    exact loop 401 _ (q1 k).2.1 0 (q1 k).2.2 _ rfl (by omega) g1.2.1 (by omega) ⟨wD1, wT1, wR1⟩ ((xx_same.rf (b := b) (e := b + 15)).trans wS1) (by omega) (by simp [chW, bnd, h5])
  · refine J_iconst (v := 0) dX2_readTest_8 (by decide) ?_
    refine J_ireturn dX2_readTest_9 rfl rfl (by decide) (by decide) ?_
    exact rdL false (q1 k).2.1 ((q1 k).2.2) (by first | (simp [chW, bnd, eat, dpt, emt, h5]; done) | (simp [chW, bnd, eat, dpt, emt, h5]; exact Prod.ext (by simp_all) rfl)) rfl wD1 wT1 wR1 (by first | rfl | simp only [emL_app]) ((xx_same.rf (b := b) (e := b + 15)).trans wS1)
set_option maxHeartbeats 4000000 in
theorem c_X2_readValue (hst : l.stackTraces = false) (hc : tkc T0 len tok sg T) {d : Nat} (hd8 : d ≤ 8) {pv ps : Nat → Res} {f0 g0 f1 g1 : Nat} (hv : d < 8 → rdP G l b T0 len tok T sg yX2_readValue mX2_readValue f0 g0 (d + 1) pv) (okv : pOK tok pv) (hs : d < 8 → rdP G l b T0 len tok T sg yX2_readSum mX2_readSum f1 g1 (d + 1) ps) (oks : pOK tok ps) {fr lo : Nat} (hf9 : 14 ≤ fr) (hg9 : 500 ≤ lo) (hf0 : f0 + 2 ≤ fr) (hg0 : g0 + 43 ≤ lo) (hf1 : f1 + 2 ≤ fr) (hg1 : g1 + 45 ≤ lo) : rdP G l b T0 len tok T sg yX2_readValue mX2_readValue fr lo d (valW (scG T0 len) (tkN T0 len) d pv ps) := by
  have hneg := c_X2_readNegative hst hc hd8 hv okv (fr := fr - 1) (lo := lo - 21) (by omega) (by omega) (by omega) (by omega)
  have okn : pOK tok (negW (scG T0 len) d pv) := ok_neg hc.2.2.2.2.2.1 (by omega) (by omega) okv
  intro A n D R k m y hy hW hm hmk hk hk1
  obtain ⟨hD, hT, hR⟩ := hW
  obtain ⟨hl1, hl2, ht0, ht1, hscn, hnx, hlast⟩ := id hc
  refine J_C hst (by decide +kernel) rfl rfl rfl (Nat.le_of_ble_eq_true rfl) ?_
  show xx_J _ _ _ _ _ _ _ _ 0 [(0, _), (1, _)] [] _ _ _ _
  refine J_aload_n dX2_readValue_0 rfl rfl ?_
  refine J_gets (v := .ref 36) dX2_readValue_1 (gs_mem 36 (by decide)) (show (36 : Nat) < 400 by decide) sl_X2_105 ?_
  refine J_callVr (As := [_]) dX2_readValue_4 ml_X2_57 cal_X2_sees im_X2_sees se_X2_sees (hD.at 0 rfl) rfl rfl rfl (Nat.le_of_ble_eq_true rfl) ⟨by omega, by show 8 + (2 + 11) + _ ≤ _; omega⟩ ⟨by decide, by decide⟩ (c_X2_sees hst ⟨hD, hT, hR⟩ hc hk (v := 36) (by decide)) ?_
  refine J_ifb_eq (tgt := 41) dX2_readValue_7 rfl (fun h7 => ?_) (fun h7 => ?_)
  · refine J_aload_n dX2_readValue_41 rfl rfl ?_
    refine J_gets (v := .ref 10) dX2_readValue_42 (gs_mem 10 (by decide)) (show (10 : Nat) < 400 by decide) sl_X2_231 ?_
    refine J_callVw (As := [_]) dX2_readValue_45 ml_X2_64 cal_X2_takes im_X2_takes se_X2_takes (hD.at 0 rfl) rfl rfl rfl (Nat.le_of_ble_eq_true rfl) ⟨by omega, by show 8 + (2 + 11) + _ ≤ _; omega⟩ ⟨by decide, by decide⟩ (c_X2_takes hst ⟨hD, hT, hR⟩ hc hk (v := 10) (by decide)) (fun A1 hQ1 => ?_)
    obtain ⟨⟨wD1, wT1, wR1⟩, wS1⟩ := hQ1
    refine J_ifb_eq (tgt := 61) dX2_readValue_48 rfl (fun h48 => ?_) (fun h48 => ?_)
    · have th48 : ¬ (scG T0 len k = 10) := fun z => h48 (eat_t.mpr z)
      rw [eat_f2 th48] at wD1
      refine J_aload_n dX2_readValue_61 rfl rfl ?_
      refine J_gets (v := .ref 27) dX2_readValue_62 (gs_mem 27 (by decide)) (show (27 : Nat) < 400 by decide) sl_X2_214 ?_
      refine J_callVr (As := [_]) dX2_readValue_65 ml_X2_57 cal_X2_sees im_X2_sees se_X2_sees (wD1.at 0 rfl) rfl rfl rfl (Nat.le_of_ble_eq_true rfl) ⟨by omega, by show 8 + (2 + 11) + _ ≤ _; omega⟩ ⟨by decide, by decide⟩ (c_X2_sees hst ⟨wD1, wT1, wR1⟩ hc hk (v := 27) (by decide)) ?_
      refine J_ifb_eq (tgt := 77) dX2_readValue_68 rfl (fun h68 => ?_) (fun h68 => ?_)
      · refine J_aload_n dX2_readValue_77 rfl rfl ?_
        refine J_gets (v := .ref 20) dX2_readValue_78 (gs_mem 20 (by decide)) (show (20 : Nat) < 400 by decide) sl_X2_237 ?_
        refine J_callVr (As := [_]) dX2_readValue_81 ml_X2_57 cal_X2_sees im_X2_sees se_X2_sees (wD1.at 0 rfl) rfl rfl rfl (Nat.le_of_ble_eq_true rfl) ⟨by omega, by show 8 + (2 + 11) + _ ≤ _; omega⟩ ⟨by decide, by decide⟩ (c_X2_sees hst ⟨wD1, wT1, wR1⟩ hc hk (v := 20) (by decide)) ?_
        refine J_ifb_eq (tgt := 124) dX2_readValue_84 rfl (fun h84 => ?_) (fun h84 => ?_)
        · refine J_aload_n dX2_readValue_124 rfl rfl ?_
          refine J_gets (v := .ref 18) dX2_readValue_125 (gs_mem 18 (by decide)) (show (18 : Nat) < 400 by decide) sl_X2_243 ?_
          refine J_callVr (As := [_]) dX2_readValue_128 ml_X2_57 cal_X2_sees im_X2_sees se_X2_sees (wD1.at 0 rfl) rfl rfl rfl (Nat.le_of_ble_eq_true rfl) ⟨by omega, by show 8 + (2 + 11) + _ ≤ _; omega⟩ ⟨by decide, by decide⟩ (c_X2_sees hst ⟨wD1, wT1, wR1⟩ hc hk (v := 18) (by decide)) ?_
          refine J_ifb_ne (tgt := 144) dX2_readValue_131 rfl (fun h131 => ?_) (fun h131 => ?_)
          · refine J_aload_n dX2_readValue_144 rfl rfl ?_
            refine J_iload_n dX2_readValue_145 rfl rfl ?_
            refine J_callVw (As := [_]) dX2_readValue_146 ml_X2_249 cal_X2_readChoice im_X2_readChoice se_X2_readChoice (wD1.at 0 rfl) rfl rfl rfl (Nat.le_of_ble_eq_true rfl) ⟨by omega, by show 8 + (3 + 11) + _ ≤ _; omega⟩ ⟨by decide, by decide⟩ (c_X2_readChoice hst hc hd8 hs oks (fr := fr - 1) (lo := lo - 22) (by omega) (by omega) (by omega) (by omega) hy ⟨wD1, wT1, wR1⟩ hm hmk hk (by omega)) (fun A2 hQ2 => ?_)
            obtain ⟨⟨wD2, wT2, wR2⟩, wS2⟩ := hQ2
            refine J_ireturn dX2_readValue_149 rfl nar_b (by decide) (by decide) ?_
            exact rdL (choW (scG T0 len) d ps k).1 (choW (scG T0 len) d ps k).2.1 ((choW (scG T0 len) d ps k).2.2) (by first | (simp [valW, parW, bnd, eat, dpt, emt, h7, th48, h68, h84, h131]; done) | (simp [valW, parW, bnd, eat, dpt, emt, h7, th48, h68, h84, h131]; exact Prod.ext (by simp_all) rfl)) rfl wD2 wT2 wR2 (by first | rfl | simp only [emL_app]) (((xx_same.rf (b := b) (e := b + 15)).trans wS1).trans wS2)
          · refine J_aload_n dX2_readValue_134 rfl rfl ?_
            refine J_gets (v := .ref 19) dX2_readValue_135 (gs_mem 19 (by decide)) (show (19 : Nat) < 400 by decide) sl_X2_246 ?_
            refine J_callVr (As := [_]) dX2_readValue_138 ml_X2_57 cal_X2_sees im_X2_sees se_X2_sees (wD1.at 0 rfl) rfl rfl rfl (Nat.le_of_ble_eq_true rfl) ⟨by omega, by show 8 + (2 + 11) + _ ≤ _; omega⟩ ⟨by decide, by decide⟩ (c_X2_sees hst ⟨wD1, wT1, wR1⟩ hc hk (v := 19) (by decide)) ?_
            refine J_ifb_eq (tgt := 150) dX2_readValue_141 rfl (fun h141 => ?_) (fun h141 => ?_)
            · refine J_aload_n dX2_readValue_150 rfl rfl ?_
              refine J_callVr (As := []) dX2_readValue_151 ml_X2_252 cal_X2_countSeen im_X2_countSeen se_X2_countSeen (wD1.at 0 rfl) rfl rfl rfl (Nat.le_of_ble_eq_true rfl) ⟨by omega, by show 8 + (1 + 11) + _ ≤ _; omega⟩ ⟨by decide, by decide⟩ (c_X2_countSeen hst ⟨wD1, wT1, wR1⟩ hc hk) ?_
              refine J_istore_n (L' := [(2, _), (0, _), (1, _)]) dX2_readValue_154 rfl (by decide) rfl ?_
              refine J_iload_n dX2_readValue_155 rfl rfl ?_
              refine J_bipush (v := 10) dX2_readValue_156 (by decide) ?_
              refine J_icmp_eq (tgt := 173) dX2_readValue_158 rfl (fun h158 => ?_) (fun h158 => ?_)
              · refine J_iconst (v := 0) dX2_readValue_173 (by decide) ?_
                refine J_ireturn dX2_readValue_174 rfl rfl (by decide) (by decide) ?_
                exact rdL false k ([]) (by first | (simp [valW, parW, bnd, eat, dpt, emt, h7, th48, h68, h84, h131, h141, h158]; done) | (simp [valW, parW, bnd, eat, dpt, emt, h7, th48, h68, h84, h131, h141, h158]; exact Prod.ext (by simp_all) rfl)) rfl wD1 wT1 wR1 (by first | rfl | simp only [emL_app]) ((xx_same.rf (b := b) (e := b + 15)).trans wS1)
              · refine J_aload_n dX2_readValue_161 rfl rfl ?_
                refine J_iload_n dX2_readValue_162 rfl rfl ?_
                refine J_callVw (As := [_]) dX2_readValue_163 ml_X2_255 cal_X2_readSide im_X2_readSide se_X2_readSide (wD1.at 0 rfl) rfl rfl rfl (Nat.le_of_ble_eq_true rfl) ⟨by omega, by show 8 + (2 + 11) + _ ≤ _; omega⟩ ⟨by decide, by decide⟩ (c_X2_readSide hst hc ⟨wD1, wT1, wR1⟩ hm hmk hk h158) (fun A3 hQ3 => ?_)
                obtain ⟨⟨wD3, wT3, wR3⟩, wS3⟩ := hQ3
                refine J_ifb_eq (tgt := 173) dX2_readValue_166 rfl (fun h166 => ?_) (fun h166 => ?_)
                · refine J_iconst (v := 0) dX2_readValue_173 (by decide) ?_
                  refine J_ireturn dX2_readValue_174 rfl rfl (by decide) (by decide) ?_
                  exact rdL false (sidW (scG T0 len) (cntT (scG T0 len k)) k).2.1 ((sidW (scG T0 len) (cntT (scG T0 len k)) k).2.2) (by first | (simp [valW, parW, bnd, eat, dpt, emt, h7, th48, h68, h84, h131, h141, h158, h166]; done) | (simp [valW, parW, bnd, eat, dpt, emt, h7, th48, h68, h84, h131, h141, h158, h166]; exact Prod.ext (by simp_all) rfl)) rfl wD3 wT3 wR3 (by first | rfl | simp only [emL_app]) (((xx_same.rf (b := b) (e := b + 15)).trans wS1).trans wS3)
                · refine J_iconst (v := 1) dX2_readValue_169 (by decide) ?_
                  refine J_goto (tgt := 174) dX2_readValue_170 rfl ?_
                  refine J_ireturn dX2_readValue_174 rfl rfl (by decide) (by decide) ?_
                  exact rdL true (sidW (scG T0 len) (cntT (scG T0 len k)) k).2.1 ((sidW (scG T0 len) (cntT (scG T0 len k)) k).2.2) (by first | (simp [valW, parW, bnd, eat, dpt, emt, h7, th48, h68, h84, h131, h141, h158, h166]; done) | (simp [valW, parW, bnd, eat, dpt, emt, h7, th48, h68, h84, h131, h141, h158, h166]; exact Prod.ext (by simp_all) rfl)) rfl wD3 wT3 wR3 (by first | rfl | simp only [emL_app]) (((xx_same.rf (b := b) (e := b + 15)).trans wS1).trans wS3)
            · refine J_aload_n dX2_readValue_144 rfl rfl ?_
              refine J_iload_n dX2_readValue_145 rfl rfl ?_
              refine J_callVw (As := [_]) dX2_readValue_146 ml_X2_249 cal_X2_readChoice im_X2_readChoice se_X2_readChoice (wD1.at 0 rfl) rfl rfl rfl (Nat.le_of_ble_eq_true rfl) ⟨by omega, by show 8 + (3 + 11) + _ ≤ _; omega⟩ ⟨by decide, by decide⟩ (c_X2_readChoice hst hc hd8 hs oks (fr := fr - 1) (lo := lo - 22) (by omega) (by omega) (by omega) (by omega) hy ⟨wD1, wT1, wR1⟩ hm hmk hk (by omega)) (fun A4 hQ4 => ?_)
              obtain ⟨⟨wD4, wT4, wR4⟩, wS4⟩ := hQ4
              refine J_ireturn dX2_readValue_149 rfl nar_b (by decide) (by decide) ?_
              exact rdL (choW (scG T0 len) d ps k).1 (choW (scG T0 len) d ps k).2.1 ((choW (scG T0 len) d ps k).2.2) (by first | (simp [valW, parW, bnd, eat, dpt, emt, h7, th48, h68, h84, h131, h141]; done) | (simp [valW, parW, bnd, eat, dpt, emt, h7, th48, h68, h84, h131, h141]; exact Prod.ext (by simp_all) rfl)) rfl wD4 wT4 wR4 (by first | rfl | simp only [emL_app]) (((xx_same.rf (b := b) (e := b + 15)).trans wS1).trans wS4)
        · refine J_aload_n dX2_readValue_87 rfl rfl ?_
          refine J_gets (v := .ref 20) dX2_readValue_88 (gs_mem 20 (by decide)) (show (20 : Nat) < 400 by decide) sl_X2_237 ?_
          refine J_iload_n dX2_readValue_91 rfl rfl ?_
          refine J_callVw (As := [_, _]) dX2_readValue_92 ml_X2_174 cal_X2_takesDeeper im_X2_takesDeeper se_X2_takesDeeper (wD1.at 0 rfl) rfl rfl rfl (Nat.le_of_ble_eq_true rfl) ⟨by omega, by show 8 + (3 + 11) + _ ≤ _; omega⟩ ⟨by decide, by decide⟩ (c_X2_takesDeeper hst ⟨wD1, wT1, wR1⟩ hc hk (v := 20) (by decide) hy hd8) (fun A5 hQ5 => ?_)
          obtain ⟨⟨wD5, wT5, wR5⟩, wS5⟩ := hQ5
          refine J_ifb_eq (tgt := 122) dX2_readValue_95 rfl (fun h95 => ?_) (fun h95 => ?_)
          · have th95 : ¬ (d < 8 ∧ scG T0 len k = 20) := fun z => h95 (dpt_t.mpr z)
            rw [dpt_f2 th95] at wD5
            have uh95 : ¬ d < 8 := fun z => th95 ⟨z, h84⟩
            refine J_iconst (v := 0) dX2_readValue_122 (by decide) ?_
            refine J_ireturn dX2_readValue_123 rfl rfl (by decide) (by decide) ?_
            exact rdL false k ([]) (by first | (simp [valW, parW, bnd, eat, dpt, emt, h7, th48, h68, h84, th95, uh95]; done) | (simp [valW, parW, bnd, eat, dpt, emt, h7, th48, h68, h84, th95, uh95]; exact Prod.ext (by simp_all) rfl)) rfl wD5 wT5 wR5 (by first | rfl | simp only [emL_app]) (((xx_same.rf (b := b) (e := b + 15)).trans wS1).trans wS5)
          · have th95 := (dpt_t.mp h95)
            rw [dpt_t2 th95] at wD5
            have kh95 : k + 1 < tok := hnx _ hk (by rw [th95.2]; decide) (by rw [th95.2]; decide)
            refine J_aload_n dX2_readValue_98 rfl rfl ?_
            refine J_iload_n dX2_readValue_99 rfl rfl ?_
            refine J_iconst (v := 1) dX2_readValue_100 (by decide) ?_
            refine J_iadd dX2_readValue_101 ?_
            refine J_callVw (As := [_]) dX2_readValue_102 ml_X2_187 cal_X2_readSum im_X2_readSum se_X2_readSum (wD5.at 0 rfl) rfl rfl rfl (Nat.le_of_ble_eq_true rfl) ⟨by omega, by show 8 + (4 + 11) + _ ≤ _; omega⟩ ⟨by decide, by decide⟩ ((hs (by omega)) _ _ _ _ (k + 1) m _ (by rw [hy]; exact nI_1 d) ⟨wD5, wT5, wR5⟩ hm (by omega) kh95 (by omega)) (fun A6 hQ6 => ?_)
            obtain ⟨⟨wD6, wT6, wR6⟩, wS6⟩ := hQ6
            have g6 := oks (k + 1) kh95
            have m6 := emL_3 (ps (k + 1)).2.2 hm
            refine J_ifb_eq (tgt := 122) dX2_readValue_105 rfl (fun h105 => ?_) (fun h105 => ?_)
            · refine J_iconst (v := 0) dX2_readValue_122 (by decide) ?_
              refine J_ireturn dX2_readValue_123 rfl rfl (by decide) (by decide) ?_
              exact rdL false (ps (k + 1)).2.1 ((ps (k + 1)).2.2) (by first | (simp [valW, parW, bnd, eat, dpt, emt, h7, th48, h68, h84, th95, h105]; done) | (simp [valW, parW, bnd, eat, dpt, emt, h7, th48, h68, h84, th95, h105]; exact Prod.ext (by simp_all) rfl)) rfl wD6 wT6 wR6 (by first | rfl | simp only [emL_app]) ((((xx_same.rf (b := b) (e := b + 15)).trans wS1).trans wS5).trans wS6)
            · refine J_aload_n dX2_readValue_108 rfl rfl ?_
              refine J_gets (v := .ref 21) dX2_readValue_109 (gs_mem 21 (by decide)) (show (21 : Nat) < 400 by decide) sl_X2_240 ?_
              refine J_callVw (As := [_]) dX2_readValue_112 ml_X2_64 cal_X2_takes im_X2_takes se_X2_takes (wD6.at 0 rfl) rfl rfl rfl (Nat.le_of_ble_eq_true rfl) ⟨by omega, by show 8 + (2 + 11) + _ ≤ _; omega⟩ ⟨by decide, by decide⟩ (c_X2_takes hst ⟨wD6, wT6, wR6⟩ hc g6.2.1 (v := 21) (by decide)) (fun A7 hQ7 => ?_)
              obtain ⟨⟨wD7, wT7, wR7⟩, wS7⟩ := hQ7
              refine J_ifb_eq (tgt := 122) dX2_readValue_115 rfl (fun h115 => ?_) (fun h115 => ?_)
              · have th115 : ¬ (scG T0 len (ps (k + 1)).2.1 = 21) := fun z => h115 (eat_t.mpr z)
                rw [eat_f2 th115] at wD7
                refine J_iconst (v := 0) dX2_readValue_122 (by decide) ?_
                refine J_ireturn dX2_readValue_123 rfl rfl (by decide) (by decide) ?_
                exact rdL false (ps (k + 1)).2.1 ((ps (k + 1)).2.2) (by first | (simp [valW, parW, bnd, eat, dpt, emt, h7, th48, h68, h84, th95, h105, th115]; done) | (simp [valW, parW, bnd, eat, dpt, emt, h7, th48, h68, h84, th95, h105, th115]; exact Prod.ext (by simp_all) rfl)) rfl wD7 wT7 wR7 (by first | rfl | simp only [emL_app]) (((((xx_same.rf (b := b) (e := b + 15)).trans wS1).trans wS5).trans wS6).trans wS7)
              · have th115 := (eat_t.mp h115)
                rw [eat_t2 th115] at wD7
                have kh115 : (ps (k + 1)).2.1 + 1 < tok := hnx _ g6.2.1 (by rw [th115]; decide) (by rw [th115]; decide)
                refine J_iconst (v := 1) dX2_readValue_118 (by decide) ?_
                refine J_goto (tgt := 123) dX2_readValue_119 rfl ?_
                refine J_ireturn dX2_readValue_123 rfl rfl (by decide) (by decide) ?_
                exact rdL true ((ps (k + 1)).2.1 + 1) ((ps (k + 1)).2.2) (by first | (simp [valW, parW, bnd, eat, dpt, emt, h7, th48, h68, h84, th95, h105, th115]; done) | (simp [valW, parW, bnd, eat, dpt, emt, h7, th48, h68, h84, th95, h105, th115]; exact Prod.ext (by simp_all) rfl)) rfl wD7 wT7 wR7 (by first | rfl | simp only [emL_app]) (((((xx_same.rf (b := b) (e := b + 15)).trans wS1).trans wS5).trans wS6).trans wS7)
      · refine J_aload_n dX2_readValue_71 rfl rfl ?_
        refine J_iload_n dX2_readValue_72 rfl rfl ?_
        refine J_callVw (As := [_]) dX2_readValue_73 ml_X2_234 cal_X2_readNegative im_X2_readNegative se_X2_readNegative (wD1.at 0 rfl) rfl rfl rfl (Nat.le_of_ble_eq_true rfl) ⟨by omega, by show 8 + (2 + 11) + _ ≤ _; omega⟩ ⟨by decide, by decide⟩ (hneg _ _ _ _ k m _ hy ⟨wD1, wT1, wR1⟩ hm (by omega) hk (by omega)) (fun A8 hQ8 => ?_)
        obtain ⟨⟨wD8, wT8, wR8⟩, wS8⟩ := hQ8
        have g8 := okn k hk
        have m8 := emL_3 ((negW (scG T0 len) d pv) k).2.2 hm
        refine J_ireturn dX2_readValue_76 rfl nar_b (by decide) (by decide) ?_
        exact rdL ((negW (scG T0 len) d pv) k).1 ((negW (scG T0 len) d pv) k).2.1 (((negW (scG T0 len) d pv) k).2.2) (by first | (simp [valW, parW, bnd, eat, dpt, emt, h7, th48, h68]; done) | (simp [valW, parW, bnd, eat, dpt, emt, h7, th48, h68]; exact Prod.ext (by simp_all) rfl)) rfl wD8 wT8 wR8 (by first | rfl | simp only [emL_app]) (((xx_same.rf (b := b) (e := b + 15)).trans wS1).trans wS8)
    · have th48 := (eat_t.mp h48)
      rw [eat_t2 th48] at wD1
      have kh48 : k + 1 < tok := hnx _ hk (by rw [th48]; decide) (by rw [th48]; decide)
      refine J_aload_n dX2_readValue_51 rfl rfl ?_
      refine J_getf dX2_readValue_52 fl_X2_21 (wD1.at 0 rfl) rfl ?_
      refine J_iconst (v := 2) dX2_readValue_55 (by decide) ?_
      refine J_callVw (As := [_]) dX2_readValue_56 ml_X2_156 cal_X3_emit im_X3_emit se_X3_emit (wR1.at 0 rfl) rfl rfl rfl (Nat.le_of_ble_eq_true rfl) ⟨by omega, by show 8 + (2 + 11) + _ ≤ _; omega⟩ ⟨by decide, by decide⟩ (c_X3_emit hst wR1 hm (by omega) 2) (fun A9 hQ9 => ?_)
      have wR9 := wR_emL hm (by omega) hQ9.1
      have wD9 := layD_s wD1 hQ9.2 (by omega) (by omega)
      have wT9 := wT1.s2 hQ9.2 (m := 5) rfl (by omega)
      have m9 : (emL _ [((2 : Int32), (0 : Int32))]).1 3 = nI (m + 1) := emL_3 [_] hm
      refine J_iconst (v := 1) dX2_readValue_59 (by decide) ?_
      refine J_ireturn dX2_readValue_60 rfl rfl (by decide) (by decide) ?_
      exact rdL true (k + 1) ([((2 : Int32), (0 : Int32))]) (by first | (simp [valW, parW, bnd, eat, dpt, emt, h7, th48]; done) | (simp [valW, parW, bnd, eat, dpt, emt, h7, th48]; exact Prod.ext (by simp_all) rfl)) rfl wD9 wT9 wR9 (by first | rfl | simp only [emL_app]) (((xx_same.rf (b := b) (e := b + 15)).trans wS1).trans (hQ9.2.wide (by omega) (by omega)))
  · have hk7 : k + 1 < tok := hnx k hk (by rw [h7]; decide) (by rw [h7]; decide)
    refine J_aload_n dX2_readValue_10 rfl rfl ?_
    refine J_getf dX2_readValue_11 fl_X2_21 (hD.at 0 rfl) rfl ?_
    refine J_iconst (v := 1) dX2_readValue_14 (by decide) ?_
    refine J_aload_n dX2_readValue_15 rfl rfl ?_
    refine J_getf dX2_readValue_16 fl_X2_12 (hD.at 0 rfl) rfl ?_
    refine J_aload_n dX2_readValue_19 rfl rfl ?_
    refine J_getf dX2_readValue_20 fl_X2_39 (hD.at 0 rfl) rfl ?_
    refine J_callVr (As := [_]) dX2_readValue_23 ml_X2_226 cal_X5_number im_X5_number se_X5_number (hT.at 0 rfl) rfl rfl rfl (Nat.le_of_ble_eq_true rfl) ⟨by omega, by show 8 + (4 + 11) + _ ≤ _; omega⟩ ⟨by decide, by decide⟩ ((num_eq hscn k ▸ c_X5_number hst hT (hscn.2.1.trans hl1) hl2 hscn.1 ht1 (rfl : nI k = nI k) hk ((hscn.2.2.2 _ hk).1.trans (congrArg some h7)) (hscn.2.2.2 _ hk).2.1 (hscn.2.2.2 _ hk).2.2 (scE_le _).2 (scE_le _).1 : xx_C G l yX5_number mX5_number 1 21 0 0 [.ref (b + 1), .int (nI k)] A n (xx_ro (some (.int (tkN T0 len k))) A n))) ?_
    refine J_callVw (As := [_, _]) dX2_readValue_26 ml_X2_229 cal_X3_emit_ im_X3_emit_ se_X3_emit_ (hR.at 0 rfl) rfl rfl rfl (Nat.le_of_ble_eq_true rfl) ⟨by omega, by show 8 + (3 + 11) + _ ≤ _; omega⟩ ⟨by decide, by decide⟩ (c_X3_emit_ hst hR hm (by omega) 1 (tkN T0 len k)) (fun A10 hQ10 => ?_)
    have wR10 := wR_emL hm (by omega) hQ10.1
    have wD10 := layD_s hD hQ10.2 (by omega) (by omega)
    have wT10 := hT.s2 hQ10.2 (m := 5) rfl (by omega)
    have m10 : (emL _ [((1 : Int32), (tkN T0 len k : Int32))]).1 3 = nI (m + 1) := emL_3 [_] hm
    refine J_aload_n dX2_readValue_29 rfl rfl ?_
    refine J_dup dX2_readValue_30 rfl ?_
    refine J_getf dX2_readValue_31 fl_X2_39 (wD10.at 0 rfl) rfl ?_
    refine J_iconst (v := 1) dX2_readValue_34 (by decide) ?_
    refine J_iadd dX2_readValue_35 ?_
    refine J_putf dX2_readValue_36 fp_X2_39 (fun _ => ⟨rfl, rfl⟩) (wD10.at 0 rfl) (Nat.le_of_ble_eq_true rfl) ?_
    refine J_gen (wD_s0_6 wD10 _) (((xx_same.rf (b := b) (e := b + 15)).trans (hQ10.2.wide (by omega) (by omega))).put (by omega) (by omega) _) (fun A11 w11 s11 o11 => ?_)
    have w11R := wR10.o2 o11 (m := 6) rfl (by omega)
    have w11T := wT10.o2 o11 (m := 5) rfl (by omega)
    have w11k := atD_1 w11
    refine J_iconst (v := 1) dX2_readValue_39 (by decide) ?_
    refine J_ireturn dX2_readValue_40 rfl rfl (by decide) (by decide) ?_
    exact rdL true (k + 1) ([((1 : Int32), (tkN T0 len k : Int32))]) (by first | (simp [valW, parW, bnd, eat, dpt, emt, h7]; done) | (simp [valW, parW, bnd, eat, dpt, emt, h7]; exact Prod.ext (by simp_all) rfl)) rfl w11k w11T w11R (by first | rfl | simp only [emL_app]) s11
set_option maxHeartbeats 4000000 in
theorem c_X2_readSingle (hst : l.stackTraces = false) (hc : tkc T0 len tok sg T) {d : Nat} (hd8 : d ≤ 8) {q1 qt qc : Nat → Res} {f0 g0 f1 g1 f2 g2 : Nat} (h1 : d < 8 → rdP G l b T0 len tok T sg yX2_readSingle mX2_readSingle f0 g0 (d + 1) q1) (ok1 : pOK tok q1) (ht : d < 8 → rdP G l b T0 len tok T sg yX2_readTest mX2_readTest f1 g1 (d + 1) qt) (okt : pOK tok qt) (hcm : rdP G l b T0 len tok T sg yX2_readComparison mX2_readComparison f2 g2 d qc) (okc : pOK tok qc) {fr lo : Nat} (hf9 : 14 ≤ fr) (hg9 : 500 ≤ lo) (hf0 : f0 + 2 ≤ fr) (hg0 : g0 + 42 ≤ lo) (hf1 : f1 + 1 ≤ fr) (hg1 : g1 + 22 ≤ lo) (hf2 : f2 + 1 ≤ fr) (hg2 : g2 + 22 ≤ lo) : rdP G l b T0 len tok T sg yX2_readSingle mX2_readSingle fr lo d (sngW (scG T0 len) d q1 qt qc) := by
  have hnot := c_X2_readNot hst hc hd8 h1 ok1 (fr := fr - 1) (lo := lo - 21) (by omega) (by omega) (by omega) (by omega)
  have okn : pOK tok (notW (scG T0 len) d q1) := ok_neg hc.2.2.2.2.2.1 (by omega) (by omega) ok1
  intro A n D R k m y hy hW hm hmk hk hk1
  obtain ⟨hD, hT, hR⟩ := hW
  obtain ⟨hl1, hl2, ht0, ht1, hscn, hnx, hlast⟩ := id hc
  refine J_C hst (by decide +kernel) rfl rfl rfl (Nat.le_of_ble_eq_true rfl) ?_
  show xx_J _ _ _ _ _ _ _ _ 0 [(0, _), (1, _)] [] _ _ _ _
  refine J_aload_n dX2_readSingle_0 rfl rfl ?_
  refine J_gets (v := .ref 15) dX2_readSingle_1 (gs_mem 15 (by decide)) (show (15 : Nat) < 400 by decide) sl_X2_165 ?_
  refine J_callVr (As := [_]) dX2_readSingle_4 ml_X2_57 cal_X2_sees im_X2_sees se_X2_sees (hD.at 0 rfl) rfl rfl rfl (Nat.le_of_ble_eq_true rfl) ⟨by omega, by show 8 + (2 + 11) + _ ≤ _; omega⟩ ⟨by decide, by decide⟩ (c_X2_sees hst ⟨hD, hT, hR⟩ hc hk (v := 15) (by decide)) ?_
  refine J_ifb_eq (tgt := 16) dX2_readSingle_7 rfl (fun h7 => ?_) (fun h7 => ?_)
  · refine J_aload_n dX2_readSingle_16 rfl rfl ?_
    refine J_gets (v := .ref 22) dX2_readSingle_17 (gs_mem 22 (by decide)) (show (22 : Nat) < 400 by decide) sl_X2_171 ?_
    refine J_callVr (As := [_]) dX2_readSingle_20 ml_X2_57 cal_X2_sees im_X2_sees se_X2_sees (hD.at 0 rfl) rfl rfl rfl (Nat.le_of_ble_eq_true rfl) ⟨by omega, by show 8 + (2 + 11) + _ ≤ _; omega⟩ ⟨by decide, by decide⟩ (c_X2_sees hst ⟨hD, hT, hR⟩ hc hk (v := 22) (by decide)) ?_
    refine J_ifb_eq (tgt := 63) dX2_readSingle_23 rfl (fun h23 => ?_) (fun h23 => ?_)
    · refine J_aload_n dX2_readSingle_63 rfl rfl ?_
      refine J_gets (v := .ref 12) dX2_readSingle_64 (gs_mem 12 (by decide)) (show (12 : Nat) < 400 by decide) sl_X2_181 ?_
      refine J_callVw (As := [_]) dX2_readSingle_67 ml_X2_64 cal_X2_takes im_X2_takes se_X2_takes (hD.at 0 rfl) rfl rfl rfl (Nat.le_of_ble_eq_true rfl) ⟨by omega, by show 8 + (2 + 11) + _ ≤ _; omega⟩ ⟨by decide, by decide⟩ (c_X2_takes hst ⟨hD, hT, hR⟩ hc hk (v := 12) (by decide)) (fun A1 hQ1 => ?_)
      obtain ⟨⟨wD1, wT1, wR1⟩, wS1⟩ := hQ1
      refine J_ifb_eq (tgt := 83) dX2_readSingle_70 rfl (fun h70 => ?_) (fun h70 => ?_)
      · have th70 : ¬ (scG T0 len k = 12) := fun z => h70 (eat_t.mpr z)
        rw [eat_f2 th70] at wD1
        refine J_aload_n dX2_readSingle_83 rfl rfl ?_
        refine J_iload_n dX2_readSingle_84 rfl rfl ?_
        refine J_callVw (As := [_]) dX2_readSingle_85 ml_X2_184 cal_X2_readComparison im_X2_readComparison se_X2_readComparison (wD1.at 0 rfl) rfl rfl rfl (Nat.le_of_ble_eq_true rfl) ⟨by omega, by show 8 + (3 + 11) + _ ≤ _; omega⟩ ⟨by decide, by decide⟩ (hcm _ _ _ _ k m _ hy ⟨wD1, wT1, wR1⟩ hm (by omega) hk (by omega)) (fun A2 hQ2 => ?_)
        obtain ⟨⟨wD2, wT2, wR2⟩, wS2⟩ := hQ2
        have g2 := okc k hk
        have m2 := emL_3 (qc k).2.2 hm
        refine J_ireturn dX2_readSingle_88 rfl nar_b (by decide) (by decide) ?_
        exact rdL (qc k).1 (qc k).2.1 ((qc k).2.2) (by first | (simp [sngW, parW, bnd, eat, dpt, emt, h7, h23, th70]; done) | (simp [sngW, parW, bnd, eat, dpt, emt, h7, h23, th70]; exact Prod.ext (by simp_all) rfl)) rfl wD2 wT2 wR2 (by first | rfl | simp only [emL_app]) (((xx_same.rf (b := b) (e := b + 15)).trans wS1).trans wS2)
      · have th70 := (eat_t.mp h70)
        rw [eat_t2 th70] at wD1
        have kh70 : k + 1 < tok := hnx _ hk (by rw [th70]; decide) (by rw [th70]; decide)
        refine J_aload_n dX2_readSingle_73 rfl rfl ?_
        refine J_getf dX2_readSingle_74 fl_X2_21 (wD1.at 0 rfl) rfl ?_
        refine J_iconst (v := 5) dX2_readSingle_77 (by decide) ?_
        refine J_callVw (As := [_]) dX2_readSingle_78 ml_X2_156 cal_X3_emit im_X3_emit se_X3_emit (wR1.at 0 rfl) rfl rfl rfl (Nat.le_of_ble_eq_true rfl) ⟨by omega, by show 8 + (2 + 11) + _ ≤ _; omega⟩ ⟨by decide, by decide⟩ (c_X3_emit hst wR1 hm (by omega) 5) (fun A3 hQ3 => ?_)
        have wR3 := wR_emL hm (by omega) hQ3.1
        have wD3 := layD_s wD1 hQ3.2 (by omega) (by omega)
        have wT3 := wT1.s2 hQ3.2 (m := 5) rfl (by omega)
        have m3 : (emL _ [((5 : Int32), (0 : Int32))]).1 3 = nI (m + 1) := emL_3 [_] hm
        refine J_iconst (v := 1) dX2_readSingle_81 (by decide) ?_
        refine J_ireturn dX2_readSingle_82 rfl rfl (by decide) (by decide) ?_
        exact rdL true (k + 1) ([((5 : Int32), (0 : Int32))]) (by first | (simp [sngW, parW, bnd, eat, dpt, emt, h7, h23, th70]; done) | (simp [sngW, parW, bnd, eat, dpt, emt, h7, h23, th70]; exact Prod.ext (by simp_all) rfl)) rfl wD3 wT3 wR3 (by first | rfl | simp only [emL_app]) (((xx_same.rf (b := b) (e := b + 15)).trans wS1).trans (hQ3.2.wide (by omega) (by omega)))
    · refine J_aload_n dX2_readSingle_26 rfl rfl ?_
      refine J_gets (v := .ref 22) dX2_readSingle_27 (gs_mem 22 (by decide)) (show (22 : Nat) < 400 by decide) sl_X2_171 ?_
      refine J_iload_n dX2_readSingle_30 rfl rfl ?_
      refine J_callVw (As := [_, _]) dX2_readSingle_31 ml_X2_174 cal_X2_takesDeeper im_X2_takesDeeper se_X2_takesDeeper (hD.at 0 rfl) rfl rfl rfl (Nat.le_of_ble_eq_true rfl) ⟨by omega, by show 8 + (3 + 11) + _ ≤ _; omega⟩ ⟨by decide, by decide⟩ (c_X2_takesDeeper hst ⟨hD, hT, hR⟩ hc hk (v := 22) (by decide) hy hd8) (fun A4 hQ4 => ?_)
      obtain ⟨⟨wD4, wT4, wR4⟩, wS4⟩ := hQ4
      refine J_ifb_eq (tgt := 61) dX2_readSingle_34 rfl (fun h34 => ?_) (fun h34 => ?_)
      · have th34 : ¬ (d < 8 ∧ scG T0 len k = 22) := fun z => h34 (dpt_t.mpr z)
        rw [dpt_f2 th34] at wD4
        have uh34 : ¬ d < 8 := fun z => th34 ⟨z, h23⟩
        refine J_iconst (v := 0) dX2_readSingle_61 (by decide) ?_
        refine J_ireturn dX2_readSingle_62 rfl rfl (by decide) (by decide) ?_
        exact rdL false k ([]) (by first | (simp [sngW, parW, bnd, eat, dpt, emt, h7, h23, th34, uh34]; done) | (simp [sngW, parW, bnd, eat, dpt, emt, h7, h23, th34, uh34]; exact Prod.ext (by simp_all) rfl)) rfl wD4 wT4 wR4 (by first | rfl | simp only [emL_app]) ((xx_same.rf (b := b) (e := b + 15)).trans wS4)
      · have th34 := (dpt_t.mp h34)
        rw [dpt_t2 th34] at wD4
        have kh34 : k + 1 < tok := hnx _ hk (by rw [th34.2]; decide) (by rw [th34.2]; decide)
        refine J_aload_n dX2_readSingle_37 rfl rfl ?_
        refine J_iload_n dX2_readSingle_38 rfl rfl ?_
        refine J_iconst (v := 1) dX2_readSingle_39 (by decide) ?_
        refine J_iadd dX2_readSingle_40 ?_
        refine J_callVw (As := [_]) dX2_readSingle_41 ml_X2_130 cal_X2_readTest im_X2_readTest se_X2_readTest (wD4.at 0 rfl) rfl rfl rfl (Nat.le_of_ble_eq_true rfl) ⟨by omega, by show 8 + (3 + 11) + _ ≤ _; omega⟩ ⟨by decide, by decide⟩ ((ht (by omega)) _ _ _ _ (k + 1) m _ (by rw [hy]; exact nI_1 d) ⟨wD4, wT4, wR4⟩ hm (by omega) kh34 (by omega)) (fun A5 hQ5 => ?_)
        obtain ⟨⟨wD5, wT5, wR5⟩, wS5⟩ := hQ5
        have g5 := okt (k + 1) kh34
        have m5 := emL_3 (qt (k + 1)).2.2 hm
        refine J_ifb_eq (tgt := 61) dX2_readSingle_44 rfl (fun h44 => ?_) (fun h44 => ?_)
        · refine J_iconst (v := 0) dX2_readSingle_61 (by decide) ?_
          refine J_ireturn dX2_readSingle_62 rfl rfl (by decide) (by decide) ?_
          exact rdL false (qt (k + 1)).2.1 ((qt (k + 1)).2.2) (by first | (simp [sngW, parW, bnd, eat, dpt, emt, h7, h23, th34, h44]; done) | (simp [sngW, parW, bnd, eat, dpt, emt, h7, h23, th34, h44]; exact Prod.ext (by simp_all) rfl)) rfl wD5 wT5 wR5 (by first | rfl | simp only [emL_app]) (((xx_same.rf (b := b) (e := b + 15)).trans wS4).trans wS5)
        · refine J_aload_n dX2_readSingle_47 rfl rfl ?_
          refine J_gets (v := .ref 23) dX2_readSingle_48 (gs_mem 23 (by decide)) (show (23 : Nat) < 400 by decide) sl_X2_178 ?_
          refine J_callVw (As := [_]) dX2_readSingle_51 ml_X2_64 cal_X2_takes im_X2_takes se_X2_takes (wD5.at 0 rfl) rfl rfl rfl (Nat.le_of_ble_eq_true rfl) ⟨by omega, by show 8 + (2 + 11) + _ ≤ _; omega⟩ ⟨by decide, by decide⟩ (c_X2_takes hst ⟨wD5, wT5, wR5⟩ hc g5.2.1 (v := 23) (by decide)) (fun A6 hQ6 => ?_)
          obtain ⟨⟨wD6, wT6, wR6⟩, wS6⟩ := hQ6
          refine J_ifb_eq (tgt := 61) dX2_readSingle_54 rfl (fun h54 => ?_) (fun h54 => ?_)
          · have th54 : ¬ (scG T0 len (qt (k + 1)).2.1 = 23) := fun z => h54 (eat_t.mpr z)
            rw [eat_f2 th54] at wD6
            refine J_iconst (v := 0) dX2_readSingle_61 (by decide) ?_
            refine J_ireturn dX2_readSingle_62 rfl rfl (by decide) (by decide) ?_
            exact rdL false (qt (k + 1)).2.1 ((qt (k + 1)).2.2) (by first | (simp [sngW, parW, bnd, eat, dpt, emt, h7, h23, th34, h44, th54]; done) | (simp [sngW, parW, bnd, eat, dpt, emt, h7, h23, th34, h44, th54]; exact Prod.ext (by simp_all) rfl)) rfl wD6 wT6 wR6 (by first | rfl | simp only [emL_app]) ((((xx_same.rf (b := b) (e := b + 15)).trans wS4).trans wS5).trans wS6)
          · have th54 := (eat_t.mp h54)
            rw [eat_t2 th54] at wD6
            have kh54 : (qt (k + 1)).2.1 + 1 < tok := hnx _ g5.2.1 (by rw [th54]; decide) (by rw [th54]; decide)
            refine J_iconst (v := 1) dX2_readSingle_57 (by decide) ?_
            refine J_goto (tgt := 62) dX2_readSingle_58 rfl ?_
            refine J_ireturn dX2_readSingle_62 rfl rfl (by decide) (by decide) ?_
            exact rdL true ((qt (k + 1)).2.1 + 1) ((qt (k + 1)).2.2) (by first | (simp [sngW, parW, bnd, eat, dpt, emt, h7, h23, th34, h44, th54]; done) | (simp [sngW, parW, bnd, eat, dpt, emt, h7, h23, th34, h44, th54]; exact Prod.ext (by simp_all) rfl)) rfl wD6 wT6 wR6 (by first | rfl | simp only [emL_app]) ((((xx_same.rf (b := b) (e := b + 15)).trans wS4).trans wS5).trans wS6)
  · refine J_aload_n dX2_readSingle_10 rfl rfl ?_
    refine J_iload_n dX2_readSingle_11 rfl rfl ?_
    refine J_callVw (As := [_]) dX2_readSingle_12 ml_X2_168 cal_X2_readNot im_X2_readNot se_X2_readNot (hD.at 0 rfl) rfl rfl rfl (Nat.le_of_ble_eq_true rfl) ⟨by omega, by show 8 + (2 + 11) + _ ≤ _; omega⟩ ⟨by decide, by decide⟩ (hnot _ _ _ _ k m _ hy ⟨hD, hT, hR⟩ hm (by omega) hk (by omega)) (fun A7 hQ7 => ?_)
    obtain ⟨⟨wD7, wT7, wR7⟩, wS7⟩ := hQ7
    have g7 := okn k hk
    have m7 := emL_3 ((notW (scG T0 len) d q1) k).2.2 hm
    refine J_ireturn dX2_readSingle_15 rfl nar_b (by decide) (by decide) ?_
    exact rdL ((notW (scG T0 len) d q1) k).1 ((notW (scG T0 len) d q1) k).2.1 (((notW (scG T0 len) d q1) k).2.2) (by first | (simp [sngW, parW, bnd, eat, dpt, emt, h7]; done) | (simp [sngW, parW, bnd, eat, dpt, emt, h7]; exact Prod.ext (by simp_all) rfl)) rfl wD7 wT7 wR7 (by first | rfl | simp only [emL_app]) ((xx_same.rf (b := b) (e := b + 15)).trans wS7)
/-- readValue and readSum at height h -/
theorem c_rV (hst : l.stackTraces = false) (hc : tkc T0 len tok sg T) : ∀ h, h ≤ 8 → rdP G l b T0 len tok T sg yX2_readValue mX2_readValue (4 * h + 16) (90 * h + 600) (8 - h) (pV (scG T0 len) (tkN T0 len) h) := by
  have hnx := hc.2.2.2.2.2.1
  intro h
  induction h with
  | zero => intro _; exact c_X2_readValue (f0 := 8) (g0 := 300) (f1 := 8) (g1 := 300) hst hc (d := 8) (Nat.le_refl _) (fun h => absurd h (by omega)) ok_fail (fun h => absurd h (by omega)) ok_fail (by omega) (by omega) (by omega) (by omega) (by omega) (by omega)
  | succ h ih =>
    intro h8
    have hv := ih (by omega)
    have okv := ok_pV (num := tkN T0 len) hnx h
    have hp := c_X2_readProduct hst hc (d := 8 - h) (by omega) hv okv (fr := 4 * h + 17) (lo := 90 * h + 622) (by omega) (by omega) (by omega) (by omega)
    have okp := ok_ch hnx (fun _ => opP_n) okv
    have hs := c_X2_readSum hst hc (d := 8 - h) (by omega) hp okp (fr := 4 * h + 18) (lo := 90 * h + 645) (by omega) (by omega) (by omega) (by omega)
    have e : 8 - h = (8 - (h + 1)) + 1 := by omega
    rw [e] at hv hs
    exact c_X2_readValue hst hc (d := 8 - (h + 1)) (by omega) (fun _ => hv) okv (fun _ => hs) (ok_sum hnx okv) (by omega) (by omega) (by omega) (by omega) (by omega) (by omega)
theorem c_rS (hst : l.stackTraces = false) (hc : tkc T0 len tok sg T) {h : Nat} (h8 : h ≤ 8) : rdP G l b T0 len tok T sg yX2_readSum mX2_readSum (4 * h + 18) (90 * h + 645) (8 - h) (sumW (scG T0 len) (pV (scG T0 len) (tkN T0 len) h)) := by
  have hnx := hc.2.2.2.2.2.1
  have okv := ok_pV (num := tkN T0 len) hnx h
  have hp := c_X2_readProduct hst hc (d := 8 - h) (by omega) (c_rV (G := G) (l := l) (b := b) hst hc h h8) okv (fr := 4 * h + 17) (lo := 90 * h + 622) (by omega) (by omega) (by omega) (by omega)
  exact c_X2_readSum hst hc (d := 8 - h) (by omega) hp (ok_ch hnx (fun _ => opP_n) okv) (by omega) (by omega) (by omega) (by omega)
theorem c_rC (hst : l.stackTraces = false) (hc : tkc T0 len tok sg T) {h : Nat} (h8 : h ≤ 8) : rdP G l b T0 len tok T sg yX2_readComparison mX2_readComparison (4 * h + 19) (90 * h + 668) (8 - h) (cmpW (scG T0 len) (sumW (scG T0 len) (pV (scG T0 len) (tkN T0 len) h))) :=
  c_X2_readComparison hst hc (d := 8 - h) (by omega) (c_rS hst hc h8) (ok_sum hc.2.2.2.2.2.1 (ok_pV hc.2.2.2.2.2.1 h)) (by omega) (by omega) (by omega) (by omega)
theorem c_r1 (hst : l.stackTraces = false) (hc : tkc T0 len tok sg T) : ∀ h, h ≤ 8 → rdP G l b T0 len tok T sg yX2_readSingle mX2_readSingle (4 * h + 20) (90 * h + 690) (8 - h) (p1 (scG T0 len) (tkN T0 len) h) := by
  have hnx := hc.2.2.2.2.2.1
  intro h
  induction h with
  | zero => intro h8; exact c_X2_readSingle (f0 := 8) (g0 := 300) (f1 := 8) (g1 := 300) hst hc (d := 8) (Nat.le_refl _) (fun h => absurd h (by omega)) ok_fail (fun h => absurd h (by omega)) ok_fail (c_rC hst hc h8) (ok_cmp hnx (ok_sum hnx (ok_pV hnx 0))) (by omega) (by omega) (by omega) (by omega) (by omega) (by omega) (by omega) (by omega)
  | succ h ih =>
    intro h8
    have h1 := ih (by omega)
    have ok1 := ok_p1 (num := tkN T0 len) hnx h
    have hb := c_X2_readBoth hst hc (d := 8 - h) (by omega) h1 ok1 (fr := 4 * h + 21) (lo := 90 * h + 711) (by omega) (by omega) (by omega) (by omega)
    have okb := ok_ch hnx (fun _ => opA_n) ok1
    have ht := c_X2_readTest hst hc (d := 8 - h) (by omega) hb okb (fr := 4 * h + 22) (lo := 90 * h + 733) (by omega) (by omega) (by omega) (by omega)
    have hcm := c_rC (l := l) (b := b) (G := G) hst hc (h := h + 1) (by omega)
    have e : 8 - h = (8 - (h + 1)) + 1 := by omega
    rw [e] at h1 ht
    exact c_X2_readSingle hst hc (d := 8 - (h + 1)) (by omega) (fun _ => h1) ok1 (fun _ => ht) (ok_tst hnx ok1) hcm (ok_cmp hnx (ok_sum hnx (ok_pV hnx (h + 1)))) (by omega) (by omega) (by omega) (by omega) (by omega) (by omega) (by omega) (by omega)
/-- a whole test -/
theorem c_X2_readTest0 (hst : l.stackTraces = false) (hc : tkc T0 len tok sg T) : rdP G l b T0 len tok T sg yX2_readTest mX2_readTest 54 1453 0 (pT (scG T0 len) (tkN T0 len)) := by
  have hnx := hc.2.2.2.2.2.1
  have ok1 := ok_p1 (num := tkN T0 len) hnx 8
  have hb := c_X2_readBoth hst hc (d := 0) (by omega) (c_r1 (l := l) (b := b) (G := G) hst hc 8 (Nat.le_refl _)) ok1 (fr := 53) (lo := 1431) (by omega) (by omega) (by omega) (by omega)
  exact c_X2_readTest hst hc (d := 0) (by omega) hb (ok_ch hnx (fun _ => opA_n) ok1) (by omega) (by omega) (by omega) (by omega)
end XRT
