/-! READER: rules, begin, read -/
section XRR
variable {G : xx_G} {l : Launch} {A A' : xx_H} {n : Nat} {b bt bu br : Nat} {D T R : xS} {sg : Nat → Option Nat} {T0 : xS} {len tok k : Nat}
theorem c_X3_endRule16 (hst : l.stackTraces = false) (hR : xx_w br (layR br R) A) (hc : R.1 0 = nI 16) (v : Int32) : xx_C G l yX3_endRule mX3_endRule 0 0 0 0 [.ref br, .int v] A n (xx_wr none n (fun A' => xx_w br (layR br R) A' ∧ xx_same br (br + 6) A A')) := by
  refine J_C hst (by decide +kernel) rfl rfl rfl (Nat.le_of_ble_eq_true rfl) ?_
  show xx_J _ _ _ _ _ _ _ _ 0 [(0, _), (1, _)] [] _ _ _ _
  refine J_aload_n dX3_endRule_0 rfl rfl ?_
  refine J_getf dX3_endRule_1 fl_X3_9 (hR.at 0 rfl) rfl ?_
  refine J_bipush (v := 16) dX3_endRule_4 (by decide) ?_
  refine J_icmp_ge (tgt := 42) dX3_endRule_6 rfl (fun h6 => ?_) (fun h6 => ?_)
  · refine J_return dX3_endRule_42 rfl (by decide) (by decide) ?_
    exact ⟨rfl, rfl, hR, xx_same.rf⟩
  · exact absurd (by rw [hc]; decide) h6
def ruEm (T0 : xS) (len k : Nat) : List (Int32 × Int32) := if scG T0 len (oucW (scG T0 len) k).2 = 9 then (pT (scG T0 len) (tkN T0 len) ((oucW (scG T0 len) k).2 + 1)).2.2 else []
theorem emL_0 : ∀ (em : List (Int32 × Int32)) {R : xS}, (emL R em).1 0 = R.1 0 := by
  intro em
  induction em with
  | nil => intro R; rfl
  | cons q em ih => intro R; exact ih
set_option maxHeartbeats 4000000 in
theorem c_X2_readRule (hst : l.stackTraces = false) (hW : rdW b D T R sg A) (hc : tkc T0 len tok sg T) (hat : D.1 6 = nI k) (hk : k < tok) (hk1 : 1 ≤ k) {nr m : Nat} (hnr : R.1 0 = nI nr) (h16 : nr ≤ 16) (hm : R.1 3 = nI m) (hmk : m ≤ k) : xx_C G l yX2_readRule mX2_readRule 55 1475 0 0 [.ref b] A n (lnQ b n T sg (rulW (scG T0 len) (tkN T0 len) k).1 (rulW (scG T0 len) (tkN T0 len) k).2.1 (fun D' R' => D'.1 5 = D.1 5 ∧ D'.2 = D.2 ∧ (D'.1 7, D'.1 8) = noteC (D.1 7, D.1 8) (if nr = 16 then 4 else 0) (T.2 3 (k - 1)) ∧ (nr < 16 → R' = erF (emL R (ruEm T0 len k)) nr (oucW (scG T0 len) k).1) ∧ (nr = 16 → R' = emL R (ruEm T0 len k))) A) := by
  obtain ⟨hD, hT, hR⟩ := hW
  obtain ⟨hl1, hl2, ht0, ht1, hscn, hnx, hlast⟩ := id hc
  have hDa := wD_at hD hat
  refine J_C hst (by decide +kernel) rfl rfl rfl (Nat.le_of_ble_eq_true rfl) ?_
  show xx_J _ _ _ _ _ _ _ _ 0 [(0, _)] [] _ _ _ _
  refine J_aload_n dX2_readRule_0 rfl rfl ?_
  refine J_getf dX2_readRule_1 fl_X2_21 (hDa.at 0 rfl) rfl ?_
  refine J_getf dX2_readRule_4 fl_X2_120 (hR.at 0 rfl) rfl ?_
  refine J_bipush (v := 16) dX2_readRule_7 (by decide) ?_
  refine J_icmp_ne (tgt := 23) dX2_readRule_9 rfl (fun h9 => ?_) (fun h9 => ?_)
  · have hnr2 : ¬ nr = 16 := fun z => h9 (by rw [hnr, z]; rfl)
    have F1 : rdF D D (noteC (D.1 7, D.1 8) (if nr = 16 then 4 else 0) (T.2 3 (k - 1))) := by
      rw [if_neg hnr2, noteC_0]
      exact ⟨rfl, rfl, rfl, rfl⟩
    refine J_aload_n dX2_readRule_23 rfl rfl ?_
    refine J_callVw (As := []) dX2_readRule_24 ml_X2_123 cal_X2_readOutcome im_X2_readOutcome se_X2_readOutcome (hDa.at 0 rfl) rfl rfl rfl (Nat.le_of_ble_eq_true rfl) ⟨by decide, by decide⟩ ⟨by decide, by decide⟩ (c_X2_readOutcome hst ⟨hDa, hT, hR⟩ hc hk) (fun A1 hQ1 => ?_)
    obtain ⟨⟨wD1, wT1, wR1⟩, wS1⟩ := hQ1
    have hok := ouc_ok (tk := scG T0 len) hnx hk
    refine J_istore_n (L' := [(1, _), (0, _)]) dX2_readRule_27 rfl (by decide) rfl ?_
    refine J_iload_n dX2_readRule_28 rfl rfl ?_
    refine J_iconst (v := -1) dX2_readRule_29 (by decide) ?_
    refine J_icmp_eq (tgt := 51) dX2_readRule_30 rfl (fun h30 => ?_) (fun h30 => ?_)
    · refine J_iconst (v := 0) dX2_readRule_51 (by decide) ?_
      refine J_ireturn dX2_readRule_52 rfl rfl (by decide) (by decide) ?_
      have e9 : rulW (scG T0 len) (tkN T0 len) k = (false, (oucW (scG T0 len) k).2, [], []) := by unfold rulW; simp [h30]
      rw [e9]
      exact lnR _ _ rfl ⟨wD1, wT1, wR1⟩ ((xx_same.rf (b := b) (e := b + 15)).trans wS1) rfl (fun z => nomatch z)
    · refine J_aload_n dX2_readRule_33 rfl rfl ?_
      refine J_gets (v := .ref 9) dX2_readRule_34 (gs_mem 9 (by decide)) (show (9 : Nat) < 400 by decide) sl_X2_127 ?_
      refine J_callVw (As := [_]) dX2_readRule_37 ml_X2_64 cal_X2_takes im_X2_takes se_X2_takes (wD1.at 0 rfl) rfl rfl rfl (Nat.le_of_ble_eq_true rfl) ⟨by decide, by decide⟩ ⟨by decide, by decide⟩ (c_X2_takes hst ⟨wD1, wT1, wR1⟩ hc hok.2 (v := 9) (by decide)) (fun A2 hQ2 => ?_)
      obtain ⟨⟨wD2, wT2, wR2⟩, wS2⟩ := hQ2
      refine J_ifb_eq (tgt := 53) dX2_readRule_40 rfl (fun h40 => ?_) (fun h40 => ?_)
      · have th40 : ¬ (scG T0 len (oucW (scG T0 len) k).2 = 9) := fun z => h40 (eat_t.mpr z)
        rw [eat_f2 th40] at wD2
        refine J_aload_n dX2_readRule_53 rfl rfl ?_
        refine J_getf dX2_readRule_54 fl_X2_21 (wD2.at 0 rfl) rfl ?_
        refine J_iload_n dX2_readRule_57 rfl rfl ?_
        refine J_callVw (As := [_]) dX2_readRule_58 ml_X2_134 cal_X3_endRule im_X3_endRule se_X3_endRule (wR2.at 0 rfl) rfl rfl rfl (Nat.le_of_ble_eq_true rfl) ⟨by decide, by decide⟩ ⟨by decide, by decide⟩ (c_X3_endRule hst wR2 (show (emL R []).1 0 = nI nr from (emL_0 _).trans hnr) (by omega) _) (fun A3 hQ3 => ?_)
        have wD3 := layD_s wD2 hQ3.2 (by omega) (by omega)
        have wT3 := wT2.s2 hQ3.2 (m := 5) rfl (by omega)
        refine J_iconst (v := 1) dX2_readRule_61 (by decide) ?_
        refine J_ireturn dX2_readRule_62 rfl rfl (by decide) (by decide) ?_
        have e9 : rulW (scG T0 len) (tkN T0 len) k = (true, (oucW (scG T0 len) k).2, [(k - 1, 2)], [((oucW (scG T0 len) k).1, [])]) := by unfold rulW; simp [h30, th40]
        have e8 : ruEm T0 len k = [] := by unfold ruEm; simp [h30, th40]
        rw [e9]
        exact lnR _ _ rfl ⟨wD3, wT3, hQ3.1⟩ ((((xx_same.rf (b := b) (e := b + 15)).trans wS1).trans wS2).trans (hQ3.2.wide (by omega) (by omega))) rfl (fun _ => ⟨F1.1, F1.2.2.1, F1.2.2.2, fun _ => by rw [e8] <;> rfl, fun z => absurd z hnr2⟩)
      · have th40 := (eat_t.mp h40)
        rw [eat_t2 th40] at wD2
        have kh40 : (oucW (scG T0 len) k).2 + 1 < tok := hnx _ hok.2 (by rw [th40]; decide) (by rw [th40]; decide)
        refine J_aload_n dX2_readRule_43 rfl rfl ?_
        refine J_iconst (v := 0) dX2_readRule_44 (by decide) ?_
        refine J_callVw (As := [_]) dX2_readRule_45 ml_X2_130 cal_X2_readTest im_X2_readTest se_X2_readTest (wD2.at 0 rfl) rfl rfl rfl (Nat.le_of_ble_eq_true rfl) ⟨by decide, by decide⟩ ⟨by decide, by decide⟩ (c_X2_readTest0 (G := G) (l := l) (b := b) hst hc _ _ _ _ ((oucW (scG T0 len) k).2 + 1) m _ rfl ⟨wD2, wT2, wR2⟩ hm (by omega) kh40 (by omega)) (fun A4 hQ4 => ?_)
        obtain ⟨⟨wD4, wT4, wR4⟩, wS4⟩ := hQ4
        have g4 := ok_pT (num := tkN T0 len) hnx ((oucW (scG T0 len) k).2 + 1) kh40
        refine J_ifb_ne (tgt := 53) dX2_readRule_48 rfl (fun h48 => ?_) (fun h48 => ?_)
        · refine J_aload_n dX2_readRule_53 rfl rfl ?_
          refine J_getf dX2_readRule_54 fl_X2_21 (wD4.at 0 rfl) rfl ?_
          refine J_iload_n dX2_readRule_57 rfl rfl ?_
          refine J_callVw (As := [_]) dX2_readRule_58 ml_X2_134 cal_X3_endRule im_X3_endRule se_X3_endRule (wR4.at 0 rfl) rfl rfl rfl (Nat.le_of_ble_eq_true rfl) ⟨by decide, by decide⟩ ⟨by decide, by decide⟩ (c_X3_endRule hst wR4 (show (emL R ((pT (scG T0 len) (tkN T0 len)) ((oucW (scG T0 len) k).2 + 1)).2.2).1 0 = nI nr from (emL_0 _).trans hnr) (by omega) _) (fun A5 hQ5 => ?_)
          have wD5 := layD_s wD4 hQ5.2 (by omega) (by omega)
          have wT5 := wT4.s2 hQ5.2 (m := 5) rfl (by omega)
          refine J_iconst (v := 1) dX2_readRule_61 (by decide) ?_
          refine J_ireturn dX2_readRule_62 rfl rfl (by decide) (by decide) ?_
          have e9 : rulW (scG T0 len) (tkN T0 len) k = (true, ((pT (scG T0 len) (tkN T0 len)) ((oucW (scG T0 len) k).2 + 1)).2.1, [(k - 1, 2)], [((oucW (scG T0 len) k).1, ((pT (scG T0 len) (tkN T0 len)) ((oucW (scG T0 len) k).2 + 1)).2.2)]) := by unfold rulW; simp [h30, th40, h48]
          have e8 : ruEm T0 len k = ((pT (scG T0 len) (tkN T0 len)) ((oucW (scG T0 len) k).2 + 1)).2.2 := by unfold ruEm; simp [h30, th40, h48]
          rw [e9]
          exact lnR _ _ rfl ⟨wD5, wT5, hQ5.1⟩ (((((xx_same.rf (b := b) (e := b + 15)).trans wS1).trans wS2).trans wS4).trans (hQ5.2.wide (by omega) (by omega))) rfl (fun _ => ⟨F1.1, F1.2.2.1, F1.2.2.2, fun _ => by rw [e8] <;> rfl, fun z => absurd z hnr2⟩)
        · refine J_iconst (v := 0) dX2_readRule_51 (by decide) ?_
          refine J_ireturn dX2_readRule_52 rfl rfl (by decide) (by decide) ?_
          have e9 : rulW (scG T0 len) (tkN T0 len) k = (false, ((pT (scG T0 len) (tkN T0 len)) ((oucW (scG T0 len) k).2 + 1)).2.1, [], []) := by unfold rulW; simp [h30, th40, h48]
          rw [e9]
          exact lnR _ _ rfl ⟨wD4, wT4, wR4⟩ ((((xx_same.rf (b := b) (e := b + 15)).trans wS1).trans wS2).trans wS4) rfl (fun z => nomatch z)
  · have hnr2 : nr = 16 := by
      have z : R.1 0 = 16 := h9
      rw [hnr, i_eq, i_n (by omega), i_16] at z
      omega
    refine J_aload_n dX2_readRule_12 rfl rfl ?_
    refine J_iconst (v := 4) dX2_readRule_13 (by decide) ?_
    refine J_aload_n dX2_readRule_14 rfl rfl ?_
    refine J_getf dX2_readRule_15 fl_X2_39 (hDa.at 0 rfl) rfl ?_
    refine J_iconst (v := 1) dX2_readRule_18 (by decide) ?_
    refine J_isub dX2_readRule_19 ?_
    refine J_callVw (As := [_, _]) dX2_readRule_20 ml_X2_116 cal_X2_noteError im_X2_noteError se_X2_noteError (hDa.at 0 rfl) rfl rfl rfl (Nat.le_of_ble_eq_true rfl) ⟨by decide, by decide⟩ ⟨by decide, by decide⟩ (c_X2_noteError (D := atD D k) hst ⟨hDa, hT, hR⟩ hc 4 (show nI k - 1 = nI (k - 1) by rw [show (1 : Int32) = nI 1 from rfl, pk_sub (by omega)]) (by omega)) (fun A6 hQ6 => ?_)
    obtain ⟨⟨wD6, wT6, wR6⟩, wS6⟩ := hQ6
    have F1 : rdF D (neD (atD D k) T 4 (k - 1)) (noteC (D.1 7, D.1 8) (if nr = 16 then 4 else 0) (T.2 3 (k - 1))) := by
      rw [if_pos hnr2]
      obtain ⟨z1, z2, z3, z4⟩ := neD_f (atD D k) T (e := 4) (by decide) (k - 1)
      exact ⟨z1, z2.trans hat.symm, z3, z4⟩
    have wD6b := wD_at wD6 (k := k) (F1.2.1.trans hat)
    refine J_aload_n dX2_readRule_23 rfl rfl ?_
    refine J_callVw (As := []) dX2_readRule_24 ml_X2_123 cal_X2_readOutcome im_X2_readOutcome se_X2_readOutcome (wD6b.at 0 rfl) rfl rfl rfl (Nat.le_of_ble_eq_true rfl) ⟨by decide, by decide⟩ ⟨by decide, by decide⟩ (c_X2_readOutcome hst ⟨wD6b, wT6, wR6⟩ hc hk) (fun A7 hQ7 => ?_)
    obtain ⟨⟨wD7, wT7, wR7⟩, wS7⟩ := hQ7
    have hok := ouc_ok (tk := scG T0 len) hnx hk
    refine J_istore_n (L' := [(1, _), (0, _)]) dX2_readRule_27 rfl (by decide) rfl ?_
    refine J_iload_n dX2_readRule_28 rfl rfl ?_
    refine J_iconst (v := -1) dX2_readRule_29 (by decide) ?_
    refine J_icmp_eq (tgt := 51) dX2_readRule_30 rfl (fun h30 => ?_) (fun h30 => ?_)
    · refine J_iconst (v := 0) dX2_readRule_51 (by decide) ?_
      refine J_ireturn dX2_readRule_52 rfl rfl (by decide) (by decide) ?_
      have e9 : rulW (scG T0 len) (tkN T0 len) k = (false, (oucW (scG T0 len) k).2, [], []) := by unfold rulW; simp [h30]
      rw [e9]
      exact lnR _ _ rfl ⟨wD7, wT7, wR7⟩ (((xx_same.rf (b := b) (e := b + 15)).trans wS6).trans wS7) rfl (fun z => nomatch z)
    · refine J_aload_n dX2_readRule_33 rfl rfl ?_
      refine J_gets (v := .ref 9) dX2_readRule_34 (gs_mem 9 (by decide)) (show (9 : Nat) < 400 by decide) sl_X2_127 ?_
      refine J_callVw (As := [_]) dX2_readRule_37 ml_X2_64 cal_X2_takes im_X2_takes se_X2_takes (wD7.at 0 rfl) rfl rfl rfl (Nat.le_of_ble_eq_true rfl) ⟨by decide, by decide⟩ ⟨by decide, by decide⟩ (c_X2_takes hst ⟨wD7, wT7, wR7⟩ hc hok.2 (v := 9) (by decide)) (fun A8 hQ8 => ?_)
      obtain ⟨⟨wD8, wT8, wR8⟩, wS8⟩ := hQ8
      refine J_ifb_eq (tgt := 53) dX2_readRule_40 rfl (fun h40 => ?_) (fun h40 => ?_)
      · have th40 : ¬ (scG T0 len (oucW (scG T0 len) k).2 = 9) := fun z => h40 (eat_t.mpr z)
        rw [eat_f2 th40] at wD8
        refine J_aload_n dX2_readRule_53 rfl rfl ?_
        refine J_getf dX2_readRule_54 fl_X2_21 (wD8.at 0 rfl) rfl ?_
        refine J_iload_n dX2_readRule_57 rfl rfl ?_
        refine J_callVw (As := [_]) dX2_readRule_58 ml_X2_134 cal_X3_endRule im_X3_endRule se_X3_endRule (wR8.at 0 rfl) rfl rfl rfl (Nat.le_of_ble_eq_true rfl) ⟨by decide, by decide⟩ ⟨by decide, by decide⟩ (c_X3_endRule16 hst wR8 (by rw [hnr2] at hnr; first | exact hnr | exact (emL_0 _).trans hnr) _) (fun A9 hQ9 => ?_)
        have wD9 := layD_s wD8 hQ9.2 (by omega) (by omega)
        have wT9 := wT8.s2 hQ9.2 (m := 5) rfl (by omega)
        refine J_iconst (v := 1) dX2_readRule_61 (by decide) ?_
        refine J_ireturn dX2_readRule_62 rfl rfl (by decide) (by decide) ?_
        have e9 : rulW (scG T0 len) (tkN T0 len) k = (true, (oucW (scG T0 len) k).2, [(k - 1, 2)], [((oucW (scG T0 len) k).1, [])]) := by unfold rulW; simp [h30, th40]
        have e8 : ruEm T0 len k = [] := by unfold ruEm; simp [h30, th40]
        rw [e9]
        exact lnR _ _ rfl ⟨wD9, wT9, hQ9.1⟩ (((((xx_same.rf (b := b) (e := b + 15)).trans wS6).trans wS7).trans wS8).trans (hQ9.2.wide (by omega) (by omega))) rfl (fun _ => ⟨F1.1, F1.2.2.1, F1.2.2.2, fun z => absurd z (by omega), fun _ => by rw [e8] <;> rfl⟩)
      · have th40 := (eat_t.mp h40)
        rw [eat_t2 th40] at wD8
        have kh40 : (oucW (scG T0 len) k).2 + 1 < tok := hnx _ hok.2 (by rw [th40]; decide) (by rw [th40]; decide)
        refine J_aload_n dX2_readRule_43 rfl rfl ?_
        refine J_iconst (v := 0) dX2_readRule_44 (by decide) ?_
        refine J_callVw (As := [_]) dX2_readRule_45 ml_X2_130 cal_X2_readTest im_X2_readTest se_X2_readTest (wD8.at 0 rfl) rfl rfl rfl (Nat.le_of_ble_eq_true rfl) ⟨by decide, by decide⟩ ⟨by decide, by decide⟩ (c_X2_readTest0 (G := G) (l := l) (b := b) hst hc _ _ _ _ ((oucW (scG T0 len) k).2 + 1) m _ rfl ⟨wD8, wT8, wR8⟩ hm (by omega) kh40 (by omega)) (fun A10 hQ10 => ?_)
        obtain ⟨⟨wD10, wT10, wR10⟩, wS10⟩ := hQ10
        have g10 := ok_pT (num := tkN T0 len) hnx ((oucW (scG T0 len) k).2 + 1) kh40
        refine J_ifb_ne (tgt := 53) dX2_readRule_48 rfl (fun h48 => ?_) (fun h48 => ?_)
        · refine J_aload_n dX2_readRule_53 rfl rfl ?_
          refine J_getf dX2_readRule_54 fl_X2_21 (wD10.at 0 rfl) rfl ?_
          refine J_iload_n dX2_readRule_57 rfl rfl ?_
          refine J_callVw (As := [_]) dX2_readRule_58 ml_X2_134 cal_X3_endRule im_X3_endRule se_X3_endRule (wR10.at 0 rfl) rfl rfl rfl (Nat.le_of_ble_eq_true rfl) ⟨by decide, by decide⟩ ⟨by decide, by decide⟩ (c_X3_endRule16 hst wR10 (by rw [hnr2] at hnr; first | exact hnr | exact (emL_0 _).trans hnr) _) (fun A11 hQ11 => ?_)
          have wD11 := layD_s wD10 hQ11.2 (by omega) (by omega)
          have wT11 := wT10.s2 hQ11.2 (m := 5) rfl (by omega)
          refine J_iconst (v := 1) dX2_readRule_61 (by decide) ?_
          refine J_ireturn dX2_readRule_62 rfl rfl (by decide) (by decide) ?_
          have e9 : rulW (scG T0 len) (tkN T0 len) k = (true, ((pT (scG T0 len) (tkN T0 len)) ((oucW (scG T0 len) k).2 + 1)).2.1, [(k - 1, 2)], [((oucW (scG T0 len) k).1, ((pT (scG T0 len) (tkN T0 len)) ((oucW (scG T0 len) k).2 + 1)).2.2)]) := by unfold rulW; simp [h30, th40, h48]
          have e8 : ruEm T0 len k = ((pT (scG T0 len) (tkN T0 len)) ((oucW (scG T0 len) k).2 + 1)).2.2 := by unfold ruEm; simp [h30, th40, h48]
          rw [e9]
          exact lnR _ _ rfl ⟨wD11, wT11, hQ11.1⟩ ((((((xx_same.rf (b := b) (e := b + 15)).trans wS6).trans wS7).trans wS8).trans wS10).trans (hQ11.2.wide (by omega) (by omega))) rfl (fun _ => ⟨F1.1, F1.2.2.1, F1.2.2.2, fun z => absurd z (by omega), fun _ => by rw [e8] <;> rfl⟩)
        · refine J_iconst (v := 0) dX2_readRule_51 (by decide) ?_
          refine J_ireturn dX2_readRule_52 rfl rfl (by decide) (by decide) ?_
          have e9 : rulW (scG T0 len) (tkN T0 len) k = (false, ((pT (scG T0 len) (tkN T0 len)) ((oucW (scG T0 len) k).2 + 1)).2.1, [], []) := by unfold rulW; simp [h30, th40, h48]
          rw [e9]
          exact lnR _ _ rfl ⟨wD10, wT10, wR10⟩ (((((xx_same.rf (b := b) (e := b + 15)).trans wS6).trans wS7).trans wS8).trans wS10) rfl (fun z => nomatch z)
theorem tkc_of {nt : Nat} {g : Nat → Option Nat} {X : xS} (hlen : T.1 1 = nI len) (h20 : len ≤ 2000) (z1 : 0 < nt) (z2 : nt ≤ 401) (z3 : scn T len nt g X) (z4 : ∀ q, q + 1 < nt → ¬ scG T len q = 37 ∧ ¬ scG T len q = 38) (z5 : scG T len (nt - 1) = 37 ∨ scG T len (nt - 1) = 38) : tkc T len nt g X :=
  ⟨hlen, h20, z1, z2, z3, fun k hk h1 h2 => by
    by_cases h : k + 1 < nt
    · exact h
    · exfalso
      rw [show nt - 1 = k by omega] at z5
      exact z5.elim h1 h2, z5⟩
set_option maxHeartbeats 4000000 in
theorem c_X2_begin (hst : l.stackTraces = false) (hW : rdW b D T R sg A) (hlen : T.1 1 = nI len) (h20 : len ≤ 2000) : xx_C G l yX2_begin mX2_begin 8 188 0 0 [.ref b] A n (xx_wr none n (fun A' => ∃ tok sg' X D' R', tkc T len tok sg' X ∧ rdW b D' X R' sg' A' ∧ xx_same b (b + 15) A A' ∧ D'.1 5 = 0 ∧ D'.1 6 = 0 ∧ D'.1 7 = 0 ∧ D'.1 8 = -1 ∧ D'.2 14 0 = 2 ∧ D'.2 14 1 = 1 ∧ D'.2 14 2 = 2 ∧ R'.1 0 = 0 ∧ R'.1 3 = 0)) := by
  obtain ⟨hD, hT, hR⟩ := hW
  refine J_C hst (by decide +kernel) rfl rfl rfl (Nat.le_of_ble_eq_true rfl) ?_
  show xx_J _ _ _ _ _ _ _ _ 0 [(0, _)] [] _ _ _ _
  refine J_aload_n dX2_begin_0 rfl rfl ?_
  refine J_getf dX2_begin_1 fl_X2_12 (hD.at 0 rfl) rfl ?_
  refine J_callVw (As := []) dX2_begin_4 ml_X2_90 cal_X5_scan im_X5_scan se_X5_scan (hT.at 0 rfl) rfl rfl rfl (Nat.le_of_ble_eq_true rfl) ⟨by decide, by decide⟩ ⟨by decide, by decide⟩ (c_X5_scan hst hT hlen h20) (fun A1 hQ1 => ?_)
  obtain ⟨nt, g, X, ⟨z1, z2, z3, z4, z5⟩, wT1, sT1⟩ := hQ1
  have wD1 := layD_s hD sT1 (by omega) (by omega)
  have wR1 := hR.s2 sT1 (m := 6) rfl (by omega)
  refine J_aload_n dX2_begin_7 rfl rfl ?_
  refine J_iconst (v := 0) dX2_begin_8 (by decide) ?_
  refine J_putf dX2_begin_9 fp_X2_39 (fun _ => ⟨rfl, rfl⟩) (wD1.at 0 rfl) (Nat.le_of_ble_eq_true rfl) ?_
  refine J_gen (wD_s0_6 wD1 _) (((xx_same.rf (b := b) (e := b + 15)).trans (sT1.wide (by omega) (by omega))).put (by omega) (by omega) _) (fun A2 w2 s2 o2 => ?_)
  have w2R := wR1.o2 o2 (m := 6) rfl (by omega)
  have w2T := wT1.o2 o2 (m := 5) rfl (by omega)
  refine J_aload_n dX2_begin_12 rfl rfl ?_
  refine J_iconst (v := 0) dX2_begin_13 (by decide) ?_
  refine J_putf dX2_begin_14 fp_X2_42 (fun _ => ⟨rfl, rfl⟩) (w2.at 0 rfl) (Nat.le_of_ble_eq_true rfl) ?_
  refine J_gen (wD_s0_7 w2 _) (s2.put (by omega) (by omega) _) (fun A3 w3 s3 o3 => ?_)
  have w3R := w2R.o2 o3 (m := 6) rfl (by omega)
  have w3T := w2T.o2 o3 (m := 5) rfl (by omega)
  refine J_aload_n dX2_begin_17 rfl rfl ?_
  refine J_iconst (v := -1) dX2_begin_18 (by decide) ?_
  refine J_putf dX2_begin_19 fp_X2_45 (fun _ => ⟨rfl, rfl⟩) (w3.at 0 rfl) (Nat.le_of_ble_eq_true rfl) ?_
  refine J_gen (wD_s0_8 w3 _) (s3.put (by omega) (by omega) _) (fun A4 w4 s4 o4 => ?_)
  have w4R := w3R.o2 o4 (m := 6) rfl (by omega)
  have w4T := w3T.o2 o4 (m := 5) rfl (by omega)
  refine J_aload_n dX2_begin_22 rfl rfl ?_
  refine J_iconst (v := 0) dX2_begin_23 (by decide) ?_
  refine J_putf dX2_begin_24 fp_X2_35 (fun _ => ⟨rfl, rfl⟩) (w4.at 0 rfl) (Nat.le_of_ble_eq_true rfl) ?_
  refine J_gen (wD_s0_5 w4 _) (s4.put (by omega) (by omega) _) (fun A5 w5 s5 o5 => ?_)
  have w5R := w4R.o2 o5 (m := 6) rfl (by omega)
  have w5T := w4T.o2 o5 (m := 5) rfl (by omega)
  refine J_aload_n dX2_begin_27 rfl rfl ?_
  refine J_getf dX2_begin_28 fl_X2_32 (w5.at 0 rfl) rfl ?_
  refine J_iconst (v := 0) dX2_begin_31 (by decide) ?_
  refine J_iconst (v := 2) dX2_begin_32 (by decide) ?_
  refine J_iastN 0 dX2_begin_33 (w5.at 3 rfl) rfl (by decide) (by decide) ?_
  refine J_gen (wD_a14 w5 _) (s5.put (by omega) (by omega) _) (fun A6 w6 s6 o6 => ?_)
  have w6R := w5R.o2 o6 (m := 6) rfl (by omega)
  have w6T := w5T.o2 o6 (m := 5) rfl (by omega)
  refine J_aload_n dX2_begin_34 rfl rfl ?_
  refine J_getf dX2_begin_35 fl_X2_32 (w6.at 0 rfl) rfl ?_
  refine J_iconst (v := 1) dX2_begin_38 (by decide) ?_
  refine J_iconst (v := 1) dX2_begin_39 (by decide) ?_
  refine J_iastN 1 dX2_begin_40 (w6.at 3 rfl) rfl (by decide) (by decide) ?_
  refine J_gen (wD_a14 w6 _) (s6.put (by omega) (by omega) _) (fun A7 w7 s7 o7 => ?_)
  have w7R := w6R.o2 o7 (m := 6) rfl (by omega)
  have w7T := w6T.o2 o7 (m := 5) rfl (by omega)
  refine J_aload_n dX2_begin_41 rfl rfl ?_
  refine J_getf dX2_begin_42 fl_X2_32 (w7.at 0 rfl) rfl ?_
  refine J_iconst (v := 2) dX2_begin_45 (by decide) ?_
  refine J_iconst (v := 2) dX2_begin_46 (by decide) ?_
  refine J_iastN 2 dX2_begin_47 (w7.at 3 rfl) rfl (by decide) (by decide) ?_
  refine J_gen (wD_a14 w7 _) (s7.put (by omega) (by omega) _) (fun A8 w8 s8 o8 => ?_)
  have w8R := w7R.o2 o8 (m := 6) rfl (by omega)
  have w8T := w7T.o2 o8 (m := 5) rfl (by omega)
  refine J_aload_n dX2_begin_48 rfl rfl ?_
  refine J_getf dX2_begin_49 fl_X2_21 (w8.at 0 rfl) rfl ?_
  refine J_callVw (As := []) dX2_begin_52 ml_X2_93 cal_X3_clear im_X3_clear se_X3_clear (w8R.at 0 rfl) rfl rfl rfl (Nat.le_of_ble_eq_true rfl) ⟨by decide, by decide⟩ ⟨by decide, by decide⟩ (c_X3_clear hst w8R) (fun A9 hQ9 => ?_)
  have w9D := layD_s w8 hQ9.2 (by omega) (by omega)
  have w9T := w8T.s2 hQ9.2 (m := 5) rfl (by omega)
  refine J_return dX2_begin_55 rfl (by decide) (by decide) ?_
  exact ⟨rfl, rfl, nt, g, X, _, _, tkc_of hlen h20 z1 z2 z3 z4 z5, ⟨w9D, w9T, hQ9.1⟩, (s8.trans (hQ9.2.wide (by omega) (by omega))), rfl, rfl, rfl, rfl, rfl, rfl, rfl, rfl, rfl⟩
end XRR
