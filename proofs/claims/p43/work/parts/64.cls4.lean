/-! THE CLASS: feed, trim, teach -/
section XCD
variable {G : xx_G} {l : Launch} {A A' : xx_H} {n b bf : Nat} {F FF R R' R0 F2 PS D T M M' : xS} {len i j k q s e t d nt tok v m nw nb r cr : Nat} {ru : xS → Nat → Nat → Int32} {sg : Nat → Option Nat}
/-- the tape behind feed -/
def tFeed (T : xS) (len : Nat) (v0 v1 v2 v3 v4 : Int32) : xS := if len ≤ 1980 then apN (apN (apN (apN (apN T len v0 4) (len + 4) v1 4) (len + 4 + 4) v2 4) (len + 4 + 4 + 4) v3 4) (len + 4 + 4 + 4 + 4) v4 4 else T
def tTrim (T : xS) (len : Nat) (w : Int32) : xS := if 0 ≤ w ∧ w ≤ nI len then s_up T 1 w else T
theorem apN_b {v : Int32} : ∀ i, T.1 1 = nI len → len + i < 2147483648 → (apN T len v i).2 1 q = if len ≤ q ∧ q < len + i then (v >>> ((24 - 8 * nI (q - len)) &&& 31)).toInt8.toInt32 else T.2 1 q := by
  intro i
  induction i with
  | zero => intro h _; rw [if_neg (by omega)]; rfl
  | succ i ih =>
    intro h hi
    show upd ((apN T len v i).2 1) (len + i) (vp_nar .byte (v >>> ((24 - 8 * nI i) &&& 31)).toInt8.toInt32) q = _
    simp only [upd]
    rw [pk_vb]
    by_cases c : q = len + i
    · subst c
      rw [if_pos rfl, if_pos (by omega), Nat.add_sub_cancel_left]
    · rw [if_neg c, ih h (by omega)]
      by_cases h2 : len ≤ q ∧ q < len + i
      · rw [if_pos h2, if_pos (by omega)]
      · rw [if_neg h2, if_neg (by omega)]
theorem tFeed_1 (h : T.1 1 = nI len) {v0 v1 v2 v3 v4 : Int32} : (tFeed T len v0 v1 v2 v3 v4).1 1 = nI (nFeed len) := by
  unfold tFeed nFeed
  split
  · exact apN_l (apN_l (apN_l (apN_l (apN_l h 4) 4) 4) 4) 4
  · exact h
theorem tTrim_1 (h : T.1 1 = nI len) (h20 : len ≤ 2000) {w : Int32} : (tTrim T len w).1 1 = nI (nTrim len w) := by
  unfold tTrim nTrim
  split
  · rename_i c; exact (trim_i h20 c).1
  · exact h
set_option maxHeartbeats 1000000 in
theorem c_X6_feed (hst : l.stackTraces = false) (hX : xx_w b (layX b) A) (hT : xx_w (b + 2) (layT sg (b + 2) T) A) (hlen : T.1 1 = nI len) (h20 : len ≤ 2000) (v0 v1 v2 v3 v4 : Int32) : xx_C G l yX6_feed mX6_feed 6 90 1 6 [.ref b, .int v0, .int v1, .int v2, .int v3, .int v4] A n (xQ (exA eIS) (aFeed len) n (fun A' => xx_w (b + 2) (layT sg (b + 2) (tFeed T len v0 v1 v2 v3 v4)) A' ∧ xx_same (b + 2) (b + 7) A A')) := by
  have e1980 : (1980 : Int32).toInt = 1980 := rfl
  refine J_C hst (by decide +kernel) rfl rfl rfl (Nat.le_of_ble_eq_true rfl) ?_
  show xx_J _ _ _ _ _ _ _ _ 0 [(0, _), (1, _), (2, _), (3, _), (4, _), (5, _)] [] _ _ _ _
  refine J_aload_n dX6_feed_0 rfl rfl ?_
  refine J_getf dX6_feed_1 fl_X6_20 (hX.at 0 rfl) rfl ?_
  refine J_getf dX6_feed_4 fl_X6_45 (hT.at 0 rfl) rfl ?_
  refine J_sipush (v := 1980) dX6_feed_7 (by decide) ?_
  refine J_icmp_le (tgt := 23) dX6_feed_10 rfl (fun h10 => ?_) (fun h10 => ?_)
  · have g10 : len ≤ 1980 := by
      have z : T.1 1 ≤ 1980 := h10
      rw [hlen, i_le, i_n (by omega)] at z
      omega
    refine J_aload_n dX6_feed_23 rfl rfl ?_
    refine J_getf dX6_feed_24 fl_X6_20 (hX.at 0 rfl) rfl ?_
    refine J_iload_n dX6_feed_27 rfl rfl ?_
    refine J_callVw (As := [_]) dX6_feed_28 ml_X6_58 cal_X5_append im_X5_append se_X5_append (hT.at 0 rfl) rfl rfl rfl (Nat.le_of_ble_eq_true rfl) ⟨by decide, by decide⟩ ⟨by decide, by decide⟩ (c_X5_append hst hT hlen (by omega) (by omega) _) (fun A1 hQ1 => ?_)
    have w1X := hX.s2 hQ1.2 (m := 1) rfl (by omega)
    refine J_aload_n dX6_feed_31 rfl rfl ?_
    refine J_getf dX6_feed_32 fl_X6_20 (w1X.at 0 rfl) rfl ?_
    refine J_iload_n dX6_feed_35 rfl rfl ?_
    refine J_callVw (As := [_]) dX6_feed_36 ml_X6_58 cal_X5_append im_X5_append se_X5_append (hQ1.1.at 0 rfl) rfl rfl rfl (Nat.le_of_ble_eq_true rfl) ⟨by decide, by decide⟩ ⟨by decide, by decide⟩ (c_X5_append hst hQ1.1 (apN_l hlen 4) (by omega) (by omega) _) (fun A2 hQ2 => ?_)
    have w2X := w1X.s2 hQ2.2 (m := 1) rfl (by omega)
    refine J_aload_n dX6_feed_39 rfl rfl ?_
    refine J_getf dX6_feed_40 fl_X6_20 (w2X.at 0 rfl) rfl ?_
    refine J_iload_n dX6_feed_43 rfl rfl ?_
    refine J_callVw (As := [_]) dX6_feed_44 ml_X6_58 cal_X5_append im_X5_append se_X5_append (hQ2.1.at 0 rfl) rfl rfl rfl (Nat.le_of_ble_eq_true rfl) ⟨by decide, by decide⟩ ⟨by decide, by decide⟩ (c_X5_append hst hQ2.1 (apN_l (apN_l hlen 4) 4) (by omega) (by omega) _) (fun A3 hQ3 => ?_)
    have w3X := w2X.s2 hQ3.2 (m := 1) rfl (by omega)
    refine J_aload_n dX6_feed_47 rfl rfl ?_
    refine J_getf dX6_feed_48 fl_X6_20 (w3X.at 0 rfl) rfl ?_
    refine J_iload dX6_feed_51 rfl ?_
    refine J_callVw (As := [_]) dX6_feed_53 ml_X6_58 cal_X5_append im_X5_append se_X5_append (hQ3.1.at 0 rfl) rfl rfl rfl (Nat.le_of_ble_eq_true rfl) ⟨by decide, by decide⟩ ⟨by decide, by decide⟩ (c_X5_append hst hQ3.1 (apN_l (apN_l (apN_l hlen 4) 4) 4) (by omega) (by omega) _) (fun A4 hQ4 => ?_)
    have w4X := w3X.s2 hQ4.2 (m := 1) rfl (by omega)
    refine J_aload_n dX6_feed_56 rfl rfl ?_
    refine J_getf dX6_feed_57 fl_X6_20 (w4X.at 0 rfl) rfl ?_
    refine J_iload dX6_feed_60 rfl ?_
    refine J_callVw (As := [_]) dX6_feed_62 ml_X6_58 cal_X5_append im_X5_append se_X5_append (hQ4.1.at 0 rfl) rfl rfl rfl (Nat.le_of_ble_eq_true rfl) ⟨by decide, by decide⟩ ⟨by decide, by decide⟩ (c_X5_append hst hQ4.1 (apN_l (apN_l (apN_l (apN_l hlen 4) 4) 4) 4) (by omega) (by omega) _) (fun A5 hQ5 => ?_)
    have w5X := w4X.s2 hQ5.2 (m := 1) rfl (by omega)
    refine J_aload_n dX6_feed_65 rfl rfl ?_
    refine J_getf dX6_feed_66 fl_X6_20 (w5X.at 0 rfl) rfl ?_
    refine J_getf dX6_feed_69 fl_X6_45 (hQ5.1.at 0 rfl) rfl ?_
    refine J_ireturn dX6_feed_72 rfl rfl (by decide) (by decide) ?_
    have e1 : aFeed len = (0, nI (len + 20)) := if_pos g10
    have e2 : tFeed T len v0 v1 v2 v3 v4 = apN (apN (apN (apN (apN T len v0 4) (len + 4) v1 4) (len + 4 + 4) v2 4) (len + 4 + 4 + 4) v3 4) (len + 4 + 4 + 4 + 4) v4 4 := if_pos g10
    rw [e1, e2]
    exact ⟨rfl, by rw [ansR_0]; exact congrArg (fun z => Sum.inl (some (Value.int z))) (apN_l (apN_l (apN_l (apN_l (apN_l hlen 4) 4) 4) 4) 4), hQ5.1, ((((((xx_same.rf (b := b + 2) (e := b + 7)).trans (hQ1.2.wide (by omega) (by omega))).trans (hQ2.2.wide (by omega) (by omega))).trans (hQ3.2.wide (by omega) (by omega))).trans (hQ4.2.wide (by omega) (by omega))).trans (hQ5.2.wide (by omega) (by omega)))⟩
  · have g10 : ¬ len ≤ 1980 := fun z => h10 (by show T.1 1 ≤ 1980; rw [hlen, i_le, i_n (by omega)]; omega)
    refine J_throw (text := "the tape would be too long") hst dX6_feed_13 dX6_feed_16 dX6_feed_17 dX6_feed_19 dX6_feed_22 (by decide) cl_X6_51 in_java_lang_IllegalStateException th3_X6_55 th4_X6_55 (by decide +kernel) rfl ⟨by decide, by decide⟩ (by decide) (by decide) ?_
    have e1 : aFeed len = (1, 0) := if_neg g10
    have e2 : tFeed T len v0 v1 v2 v3 v4 = T := if_neg g10
    rw [e1, e2]
    exact ⟨rfl, (ansR_k (ex := exA eIS) (c := 1) (by decide)).symm, hT, (xx_same.rf (b := b + 2) (e := b + 7))⟩
set_option maxHeartbeats 1000000 in
theorem c_X6_trim (hst : l.stackTraces = false) (hX : xx_w b (layX b) A) (hT : xx_w (b + 2) (layT sg (b + 2) T) A) (hlen : T.1 1 = nI len) (h20 : len ≤ 2000) (w : Int32) : xx_C G l yX6_trim mX6_trim 6 90 1 6 [.ref b, .int w] A n (xQ (exA eIA) (aTrim len w) n (fun A' => xx_w (b + 2) (layT sg (b + 2) (tTrim T len w)) A' ∧ xx_same (b + 2) (b + 7) A A')) := by
  have e1980 : (1980 : Int32).toInt = 1980 := rfl
  refine J_C hst (by decide +kernel) rfl rfl rfl (Nat.le_of_ble_eq_true rfl) ?_
  show xx_J _ _ _ _ _ _ _ _ 0 [(0, _), (1, _)] [] _ _ _ _
  refine J_iload_n dX6_trim_0 rfl rfl ?_
  refine J_if_lt (tgt := 15) dX6_trim_1 rfl (fun h1 => ?_) (fun h1 => ?_)
  · have gt : ¬ (0 ≤ w ∧ w ≤ nI len) := fun z => absurd z.1 (Int32.not_le.mpr h1)
    refine J_throw (text := "the tape has not so many bytes") hst dX6_trim_15 dX6_trim_18 dX6_trim_19 dX6_trim_21 dX6_trim_24 (by decide) cl_X6_62 in_java_lang_IllegalArgumentException th3_X6_66 th4_X6_66 (by decide +kernel) rfl ⟨by decide, by decide⟩ (by decide) (by decide) ?_
    have e1 : aTrim len w = (1, 0) := if_neg gt
    have e2 : tTrim T len w = T := if_neg gt
    rw [e1, e2]
    exact ⟨rfl, (ansR_k (ex := exA eIA) (c := 1) (by decide)).symm, hT, (xx_same.rf (b := b + 2) (e := b + 7))⟩
  · refine J_iload_n dX6_trim_4 rfl rfl ?_
    refine J_aload_n dX6_trim_5 rfl rfl ?_
    refine J_getf dX6_trim_6 fl_X6_20 (hX.at 0 rfl) rfl ?_
    refine J_getf dX6_trim_9 fl_X6_45 (hT.at 0 rfl) rfl ?_
    refine J_icmp_le (tgt := 25) dX6_trim_12 rfl (fun h12 => ?_) (fun h12 => ?_)
    · have gt : (0 ≤ w ∧ w ≤ nI len) := ⟨Int32.not_lt.mp h1, by rw [← hlen]; exact h12⟩
      refine J_aload_n dX6_trim_25 rfl rfl ?_
      refine J_getf dX6_trim_26 fl_X6_20 (hX.at 0 rfl) rfl ?_
      refine J_iload_n dX6_trim_29 rfl rfl ?_
      refine J_putf dX6_trim_30 fp_X6_45 (fun _ => ⟨rfl, rfl⟩) (hT.at 0 rfl) (Nat.le_of_ble_eq_true rfl) ?_
      refine J_gen (wT_s0_1 hT _) ((xx_same.rf (b := b + 2) (e := b + 7)).put (by omega) (by omega) _) (fun A1 w1 s1 o1 => ?_)
      have w1X := hX.o2 o1 (m := 1) rfl (by omega)
      refine J_iload_n dX6_trim_33 rfl rfl ?_
      refine J_ireturn dX6_trim_34 rfl rfl (by decide) (by decide) ?_
      have e1 : aTrim len w = (0, w) := if_pos gt
      have e2 : tTrim T len w = s_up T 1 w := if_pos gt
      rw [e1, e2]
      exact ⟨rfl, ansR_0.symm, w1, s1⟩
    · have gt : ¬ (0 ≤ w ∧ w ≤ nI len) := fun z => h12 (by rw [← hlen] at z; exact z.2)
      refine J_throw (text := "the tape has not so many bytes") hst dX6_trim_15 dX6_trim_18 dX6_trim_19 dX6_trim_21 dX6_trim_24 (by decide) cl_X6_62 in_java_lang_IllegalArgumentException th3_X6_66 th4_X6_66 (by decide +kernel) rfl ⟨by decide, by decide⟩ (by decide) (by decide) ?_
      have e1 : aTrim len w = (1, 0) := if_neg gt
      have e2 : tTrim T len w = T := if_neg gt
      rw [e1, e2]
      exact ⟨rfl, (ansR_k (ex := exA eIA) (c := 1) (by decide)).symm, hT, (xx_same.rf (b := b + 2) (e := b + 7))⟩
theorem c_X6_tapeBytes (hst : l.stackTraces = false) (hX : xx_w b (layX b) A) (hT : xx_w (b + 2) (layT sg (b + 2) T) A) : xx_C G l yX6_tapeBytes mX6_tapeBytes 0 0 0 0 [.ref b] A n (xx_ro (some (.int (T.1 1))) A n) := by
  refine J_C hst (by decide +kernel) rfl rfl rfl (Nat.le_of_ble_eq_true rfl) ?_
  show xx_J _ _ _ _ _ _ _ _ 0 [(0, _)] [] _ _ _ _
  refine J_aload_n dX6_tapeBytes_0 rfl rfl ?_
  refine J_getf dX6_tapeBytes_1 fl_X6_20 (hX.at 0 rfl) rfl ?_
  refine J_getf dX6_tapeBytes_4 fl_X6_45 (hT.at 0 rfl) rfl ?_
  refine J_ireturn dX6_tapeBytes_7 rfl rfl (by decide) (by decide) ?_
  exact ⟨rfl, rfl, rfl⟩
/-- what the class's teach leaves -/
def tcX (T : xS) (len b n : Nat) (R F : xS) (A : xx_H) : xx_Q := xx_wr (some (.int (rdV T len).1)) n (fun A' => ∃ D' X' R0' sg' R' F', rdW (b + 1) D' X' R0' sg' A' ∧ X'.1 1 = 0 ∧ D'.1 8 = (rdV T len).2 ∧ xx_w (b + 16) (layR (b + 16) R') A' ∧ xx_w (b + 22) (layF (b + 22) F') A' ∧ xx_same (b + 1) (b + 31) A A' ∧ (¬ (rdV T len).1 = 0 → R' = R ∧ F' = F) ∧ ((rdV T len).1 = 0 → ∃ D1 R1 tok m, clI T len tok (bokW (scG T len) (tkN T len) 401 0 [] []).2.2.1 (bokW (scG T len) (tkN T len) 401 0 [] []).2.2.2 D1 R1 ∧ (bokW (scG T len) (tkN T len) 401 0 [] []).1 = true ∧ R' = cpyR R R1 ∧ D1.1 5 = nI m ∧ m ≤ 12 ∧ F' = beginF F m (D1.2 12) (D1.2 14)))
theorem rdV_ok (h : (rdV T len).1 = 0) : (bokW (scG T len) (tkN T len) 401 0 [] []).1 = true := by
  unfold rdV at h
  by_cases c : (bokW (scG T len) (tkN T len) 401 0 [] []).1 = true
  · exact c
  · rw [if_neg c] at h; exact absurd (show (1 : Int32) = 0 from h) (by decide)
set_option maxHeartbeats 2000000 in
theorem c_X6_teach (hst : l.stackTraces = false) (hX : xx_w b (layX b) A) (hW : rdW (b + 1) D T R0 sg A) (hlen : T.1 1 = nI len) (h20 : len ≤ 2000) (hR : xx_w (b + 16) (layR (b + 16) R) A) (hF : xx_w (b + 22) (layF (b + 22) F) A) : xx_C G l yX6_teach mX6_teach 57 1518 0 0 [.ref b] A n (tcX T len b n R F A) := by
  obtain ⟨hD, hT, hR0⟩ := hW
  refine J_C hst (by decide +kernel) rfl rfl rfl (Nat.le_of_ble_eq_true rfl) ?_
  show xx_J _ _ _ _ _ _ _ _ 0 [(0, _)] [] _ _ _ _
  refine J_aload_n dX6_teach_0 rfl rfl ?_
  refine J_getf dX6_teach_1 fl_X6_10 (hX.at 0 rfl) rfl ?_
  refine J_callVw (As := []) dX6_teach_4 ml_X6_67 cal_X2_read im_X2_read se_X2_read (hD.at 0 rfl) rfl rfl rfl (Nat.le_of_ble_eq_true rfl) ⟨by decide, by decide⟩ ⟨by decide, by decide⟩ (c_X2_read hst ⟨hD, hT, hR0⟩ hlen h20) (fun A1 hQ1 => ?_)
  obtain ⟨tok, sg1, X1, D1, R1, htc, ⟨hD1, hT1, hR1⟩, hsm, h7, h8, hcl⟩ := hQ1
  have w1X := hX.s2 hsm (m := 1) rfl (by omega)
  have w1R2 := hR.s2 hsm (m := 6) rfl (by omega)
  have w1F := hF.s2 hsm (m := 9) rfl (by omega)
  refine J_istore_n (L' := [(1, _), (0, _)]) dX6_teach_7 rfl (by decide) rfl ?_
  refine J_aload_n dX6_teach_8 rfl rfl ?_
  refine J_getf dX6_teach_9 fl_X6_20 (w1X.at 0 rfl) rfl ?_
  refine J_iconst (v := 0) dX6_teach_12 (by decide) ?_
  refine J_putf dX6_teach_13 fp_X6_45 (fun _ => ⟨rfl, rfl⟩) (hT1.at 0 rfl) (Nat.le_of_ble_eq_true rfl) ?_
  refine J_gen (wT_s0_1 hT1 _) (((xx_same.rf (b := b + 1) (e := b + 31)).trans (hsm.wide (by omega) (by omega))).put (by omega) (by omega) _) (fun A2 w2 s2 o2 => ?_)
  have w2D := layD_o hD1 o2 (by omega) (by omega)
  have w2F := w1F.o2 o2 (m := 9) rfl (by omega)
  have w2R := hR1.o2 o2 (m := 6) rfl (by omega)
  have w2R2 := w1R2.o2 o2 (m := 6) rfl (by omega)
  have w2X := w1X.o2 o2 (m := 1) rfl (by omega)
  refine J_iload_n dX6_teach_16 rfl rfl ?_
  refine J_if_ne (tgt := 62) dX6_teach_17 rfl (fun h17 => ?_) (fun h17 => ?_)
  · refine J_iload_n dX6_teach_62 rfl rfl ?_
    refine J_ireturn dX6_teach_63 rfl rfl (by decide) (by decide) ?_
    refine ⟨rfl, rfl, D1, s_up X1 1 0, R1, sg1, _, _, ⟨w2D, w2, w2R⟩, rfl, h8, w2R2, w2F, s2, fun y => ?_, fun y => ?_⟩
    · exact ⟨rfl, rfl⟩
    · exact absurd y h17
  · refine J_aload_n dX6_teach_20 rfl rfl ?_
    refine J_getf dX6_teach_21 fl_X6_24 (w2X.at 0 rfl) rfl ?_
    refine J_aload_n dX6_teach_24 rfl rfl ?_
    refine J_getf dX6_teach_25 fl_X6_10 (w2X.at 0 rfl) rfl ?_
    refine J_getf dX6_teach_28 fl_X6_71 (w2D.at 0 rfl) rfl ?_
    refine J_callVw (As := [_]) dX6_teach_31 ml_X6_72 cal_X3_copyFrom im_X3_copyFrom se_X3_copyFrom (w2R2.at 0 rfl) rfl rfl rfl (Nat.le_of_ble_eq_true rfl) ⟨by decide, by decide⟩ ⟨by decide, by decide⟩ (c_X3_copyFrom hst w2R2 w2R (by omega)) (fun A3 hQ3 => ?_)
    have w3D := layD_s w2D hQ3.2 (by omega) (by omega)
    have w3F := w2F.s2 hQ3.2 (m := 9) rfl (by omega)
    have w3R := w2R.s2 hQ3.2 (m := 6) rfl (by omega)
    have w3T := w2.s2 hQ3.2 (m := 5) rfl (by omega)
    have w3X := w2X.s2 hQ3.2 (m := 1) rfl (by omega)
    refine J_aload_n dX6_teach_34 rfl rfl ?_
    refine J_getf dX6_teach_35 fl_X6_31 (w3X.at 0 rfl) rfl ?_
    refine J_aload_n dX6_teach_38 rfl rfl ?_
    refine J_getf dX6_teach_39 fl_X6_10 (w3X.at 0 rfl) rfl ?_
    refine J_getf dX6_teach_42 fl_X6_76 (w3D.at 0 rfl) rfl ?_
    refine J_aload_n dX6_teach_45 rfl rfl ?_
    refine J_getf dX6_teach_46 fl_X6_10 (w3X.at 0 rfl) rfl ?_
    refine J_getf dX6_teach_49 fl_X6_79 (w3D.at 0 rfl) rfl ?_
    refine J_aload_n dX6_teach_52 rfl rfl ?_
    refine J_getf dX6_teach_53 fl_X6_10 (w3X.at 0 rfl) rfl ?_
    refine J_getf dX6_teach_56 fl_X6_83 (w3D.at 0 rfl) rfl ?_
    refine J_callVw (As := [_, _, _]) dX6_teach_59 ml_X6_86 cal_X0_begin im_X0_begin se_X0_begin (w3F.at 0 rfl) rfl rfl rfl (Nat.le_of_ble_eq_true rfl) ⟨by decide, by decide⟩ ⟨by decide, by decide⟩ (c_X0_begin hst w3F (xx_w.cell (b := b + 1) (z := 12) (w3D.at 1 rfl)) (xx_w.cell (b := b + 1) (z := 14) (w3D.at 3 rfl)) (by omega) (by omega) (hcl (rdV_ok h17)).1 (by omega)) (fun A4 hQ4 => ?_)
    have w4D := layD_s w3D hQ4.2 (by omega) (by omega)
    have w4R := w3R.s2 hQ4.2 (m := 6) rfl (by omega)
    have w4R2 := hQ3.1.s2 hQ4.2 (m := 6) rfl (by omega)
    have w4T := w3T.s2 hQ4.2 (m := 5) rfl (by omega)
    have w4X := w3X.s2 hQ4.2 (m := 1) rfl (by omega)
    refine J_iload_n dX6_teach_62 rfl rfl ?_
    refine J_ireturn dX6_teach_63 rfl rfl (by decide) (by decide) ?_
    refine ⟨rfl, rfl, D1, s_up X1 1 0, R1, sg1, _, _, ⟨w4D, w4T, w4R⟩, rfl, h8, w4R2, hQ4.1, ((s2.trans (hQ3.2.wide (by omega) (by omega))).trans (hQ4.2.wide (by omega) (by omega))), fun y => ?_, fun y => ?_⟩
    · exact absurd h17 y
    · exact ⟨D1, R1, tok, _, hcl (rdV_ok h17), rdV_ok h17, rfl, (hcl (rdV_ok h17)).1, by omega, rfl⟩
end XCD
