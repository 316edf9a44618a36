/-! THE REFERENCE: its calls that change something -/
section XSP
variable {G : xx_G} {l : Launch} {A A' : xx_H} {n : Nat} {bm bp bs bn ba : Nat} {vL nl : Nat → Int64} {M M' M1 P P' S S1 : xS} {T : xS} {len i j k q s e t d nt tok v m nw nb r : Nat} {tk : Nat → Nat}
/-- a call that answers a and leaves F' -/
def wrA (bm bp bn ba n : Nat) (vL nl : Nat → Int64) (M P : xS) (A : xx_H) (a : Ans) (F' : xS) : xx_Q := xx_wr (some (.int a.2)) n (fun A' => ∃ M' S', mS M M' ∧ M'.1 0 = a.1 ∧ xx_w bm (layM bp vL bn ba bm M') A' ∧ xx_w bp (layN nl bp P) A' ∧ xx_w bn (layS bn S') A' ∧ xx_rf bm bn A A' ∧ fS S' P = F' ∧ ∀ i, i < 12 → S'.2 9 i = 0 ∨ S'.2 9 i = 1)
theorem fS_turn {i : Nat} (hi : i < 12) : fS (a_up S 9 (upd (S.2 9) i (if S.2 9 i = 0 then 1 else 0))) P = a_up (fS S P) 2 (upd ((fS S P).2 2) (8 * 12 + i) (1 - (fS S P).2 2 (8 * 12 + i))) := by
  rw [fS_c (by omega)]
  refine Prod.ext rfl (funext fun k => ?_)
  by_cases h2 : k = 2
  · subst h2
    funext p
    show cntS (a_up S 9 (upd (S.2 9) i (if S.2 9 i = 0 then 1 else 0))) P (p / 12) (p % 12) = upd (fun p => cntS S P (p / 12) (p % 12)) (8 * 12 + i) (1 - (if S.2 9 i = 0 then (1 : Int32) else 0)) p
    simp only [upd]
    by_cases hp : p = 8 * 12 + i
    · rw [if_pos hp, show p / 12 = 8 by omega, show p % 12 = i by omega]
      show (if upd (S.2 9) i (if S.2 9 i = 0 then (1 : Int32) else 0) i = 0 then (1 : Int32) else 0) = _
      simp only [upd, if_true]
      by_cases c : S.2 9 i = 0
      · rw [if_pos c]; rfl
      · rw [if_neg c]; rfl
    · rw [if_neg hp]
      by_cases h8 : p / 12 = 8
      · rw [h8]
        show (if upd (S.2 9) i (if S.2 9 i = 0 then (1 : Int32) else 0) (p % 12) = 0 then (1 : Int32) else 0) = if S.2 9 (p % 12) = 0 then 1 else 0
        have eU : upd (S.2 9) i (if S.2 9 i = 0 then (1 : Int32) else 0) (p % 12) = S.2 9 (p % 12) := if_neg (by omega)
        rw [eU]
      · have key : ∀ q x, ¬ q = 8 → cntS (a_up S 9 x) P q (p % 12) = cntS S P q (p % 12) := by
          intro q x hq
          unfold cntS
          split <;> first | rfl | exact absurd rfl hq
        exact key _ _ h8
  · show (fS (a_up S 9 _) P).2 k = va_up (fS S P).2 2 _ k
    simp only [va_up]
    rw [if_neg h2]
    rcases (show k = 0 ∨ k = 1 ∨ k = 3 ∨ k = 4 ∨ k = 5 ∨ k = 6 ∨ 7 ≤ k by omega) with h | h | h | h | h | h | h
    · subst h; rfl
    · subst h; rfl
    · subst h; rfl
    · subst h; rfl
    · subst h; rfl
    · subst h; rfl
    · obtain ⟨m, rfl⟩ : ∃ m, k = m + 7 := ⟨k - 7, by omega⟩
      rfl
theorem v012 {v : Int32} (h : 0 ≤ v ∧ v ≤ 2) : v = 0 ∨ v = 1 ∨ v = 2 := by
  have e0 : (0 : Int32).toInt = 0 := rfl
  have e2 : (2 : Int32).toInt = 2 := rfl
  rw [Int32.le_iff_toInt_le, Int32.le_iff_toInt_le, e0, e2] at h
  rcases (show v.toInt = 0 ∨ v.toInt = 1 ∨ v.toInt = 2 by omega) with z | z | z
  · exact Or.inl (Int32.toInt_inj.mp z)
  · exact Or.inr (Or.inl (Int32.toInt_inj.mp z))
  · exact Or.inr (Or.inr (Int32.toInt_inj.mp z))
set_option maxHeartbeats 1000000 in
theorem c_X9_pairRound (hst : l.stackTraces = false) (hM : xx_w bm (layM bp vL bn ba bm M) A) (hN : xx_w bp (layN nl bp P) A) (hS : xx_w bn (layS bn S) A) (hap : apR bm bp bn) (hok : okF (fS S P) nw nb r) (hz : ∀ i, i < 12 → S.2 9 i = 0 ∨ S.2 9 i = 1)  : xx_C G l yX9_pairRound mX9_pairRound 8 191 0 0 [.ref bm] A n (wrA bm bp bn ba n vL nl M P A (aPair nw nb (fS S P)) (sPair nw nb (fS S P))) := by
  have hn : P.1 0 = nI nw := hok.1.1
  have h12 := hok.1.2
  have hb : S.1 1 = nI nb := hok.2.1.1
  have h6 := hok.2.1.2
  refine J_C hst (by decide +kernel) rfl rfl rfl (Nat.le_of_ble_eq_true rfl) ?_
  show xx_J _ _ _ _ _ _ _ _ 0 [(0, _)] [] _ _ _ _
  refine J_aload_n dX9_pairRound_0 rfl rfl ?_
  refine J_iconst (v := 0) dX9_pairRound_1 (by decide) ?_
  refine J_putf dX9_pairRound_2 fp_X9_62 (fun _ => ⟨rfl, rfl⟩) (hM.at 0 rfl) (Nat.le_of_ble_eq_true rfl) ?_
  refine J_genA (wM_s0_0 hM _) ((xx_rf.rf (bm := bm) (bs := bn)).put (by omega) (by omega) _) (fun A1 w1 s1 o1 => ?_)
  have w1N := hN.o2 o1 (m := 9) rfl (by have z1 := hap.1; have z3 := hap.2.2; omega)
  have w1S := hS.mo o1 (m := 14) rfl hap.s (Or.inl rfl)
  refine J_aload_n dX9_pairRound_5 rfl rfl ?_
  refine J_aload_n dX9_pairRound_6 rfl rfl ?_
  refine J_getf dX9_pairRound_7 fl_X9_40 (w1.at 0 rfl) rfl ?_
  refine J_callVr (As := [_]) dX9_pairRound_10 ml_X9_213 cal_X9_canPair im_X9_canPair se_X9_canPair (w1.at 0 rfl) rfl rfl rfl (Nat.le_of_ble_eq_true rfl) ⟨by decide, by decide⟩ ⟨by decide, by decide⟩ (c_X9_canPair hst w1 w1N w1S hn h12 hb h6) ?_
  refine J_ifb_ne (tgt := 22) dX9_pairRound_13 rfl (fun h13 => ?_) (fun h13 => ?_)
  · have kh13 : (canB (fS S P) nw nb = true) := canB_i.mpr h13
    refine J_aload_n dX9_pairRound_22 rfl rfl ?_
    refine J_aload_n dX9_pairRound_23 rfl rfl ?_
    refine J_getf dX9_pairRound_24 fl_X9_40 (w1.at 0 rfl) rfl ?_
    refine J_callVw (As := [_]) dX9_pairRound_27 ml_X9_217 cal_X9_pair im_X9_pair se_X9_pair (w1.at 0 rfl) rfl rfl rfl (Nat.le_of_ble_eq_true rfl) ⟨by decide, by decide⟩ ⟨by decide, by decide⟩ (c_X9_pair hst w1 w1N w1S hap hn h12 hok.bd (lsF_ok (fS S P) nw)) (fun A2 hQ2 => ?_)
    obtain ⟨M_2, S_2, sc_2, hM_2, hN_2, hS_2, hs_2, hF_2, h9_2⟩ := hQ2
    have hF2_2 : fS S_2 P = roundF (fS S P) nw := hF_2
    have hb2 : S_2.1 1 = nI (npF (fS S P) nw) := by
      have z := (hok.rnd kh13).2.2.2.2.1.1
      rw [← hF2_2] at z
      exact z
    refine J_aload_n dX9_pairRound_30 rfl rfl ?_
    refine J_getf dX9_pairRound_31 fl_X9_40 (hM_2.at 0 rfl) rfl ?_
    refine J_getf dX9_pairRound_34 fl_X9_151 (hS_2.at 0 rfl) rfl ?_
    refine J_ireturn dX9_pairRound_37 rfl rfl (by decide) (by decide) ?_
    have e1 : (aPair nw nb (fS S P)) = (0, nI (npF (fS S P) nw)) := by unfold aPair; rw [if_pos kh13]
    have e2 : (sPair nw nb (fS S P)) = roundF (fS S P) nw := by unfold sPair; rw [if_pos kh13]
    unfold wrA
    rw [e1, e2]
    exact ⟨by rw [← hb2], rfl, _, _, ((mS.s0 mS.rf).trans sc_2.mS), (sc_2.1 0 (by decide)), hM_2, hN_2, hS_2, (s1.trans hs_2), hF2_2, by rw [h9_2]; exact hz⟩
  · have kh13 : ¬ (canB (fS S P) nw nb = true) := fun z => h13 (canB_i.mp z)
    refine J_aload_n dX9_pairRound_16 rfl rfl ?_
    refine J_iconst (v := 1) dX9_pairRound_17 (by decide) ?_
    refine J_callVw (As := [_]) dX9_pairRound_18 ml_X9_393 cal_X9_no im_X9_no se_X9_no (w1.at 0 rfl) rfl rfl rfl (Nat.le_of_ble_eq_true rfl) ⟨by decide, by decide⟩ ⟨by decide, by decide⟩ (c_X9_no hst w1 _) (fun A3 hQ3 => ?_)
    skip
    refine J_ireturn dX9_pairRound_21 rfl rfl (by decide) (by decide) ?_
    have e1 : (aPair nw nb (fS S P)) = (1, 0) := by unfold aPair; rw [if_neg kh13]
    have e2 : (sPair nw nb (fS S P)) = fS S P := by unfold sPair; rw [if_neg kh13]
    unfold wrA
    rw [e1, e2]
    exact ⟨rfl, rfl, _, _, (mS.s0 (mS.s0 mS.rf)), rfl, hQ3.1, (w1N.mf hQ3.2 (m := 9) rfl hap.p), (w1S.mf hQ3.2 (m := 14) rfl hap.s), (s1.trans hQ3.2.toR), rfl, hz⟩
set_option maxHeartbeats 1000000 in
theorem c_X9_tell_ (hst : l.stackTraces = false) (hM : xx_w bm (layM bp vL bn ba bm M) A) (hN : xx_w bp (layN nl bp P) A) (hS : xx_w bn (layS bn S) A) (hap : apR bm bp bn) (hok : okF (fS S P) nw nb r) (hz : ∀ i, i < 12 → S.2 9 i = 0 ∨ S.2 9 i = 1) (w v : Int32) : xx_C G l yX9_tell_ mX9_tell_ 2 43 0 0 [.ref bm, .int w, .int v] A n (wrA bm bp bn ba n vL nl M P A (aTell nb (fS S P) w v) (sTell (fS S P) w v)) := by
  have hn : P.1 0 = nI nw := hok.1.1
  have h12 := hok.1.2
  have hb : S.1 1 = nI nb := hok.2.1.1
  have h6 := hok.2.1.2
  refine J_C hst (by decide +kernel) rfl rfl rfl (Nat.le_of_ble_eq_true rfl) ?_
  show xx_J _ _ _ _ _ _ _ _ 0 [(0, _), (1, _), (2, _)] [] _ _ _ _
  refine J_aload_n dX9_tell__0 rfl rfl ?_
  refine J_iconst (v := 0) dX9_tell__1 (by decide) ?_
  refine J_putf dX9_tell__2 fp_X9_62 (fun _ => ⟨rfl, rfl⟩) (hM.at 0 rfl) (Nat.le_of_ble_eq_true rfl) ?_
  refine J_genA (wM_s0_0 hM _) ((xx_rf.rf (bm := bm) (bs := bn)).put (by omega) (by omega) _) (fun A1 w1 s1 o1 => ?_)
  have w1N := hN.o2 o1 (m := 9) rfl (by have z1 := hap.1; have z3 := hap.2.2; omega)
  have w1S := hS.mo o1 (m := 14) rfl hap.s (Or.inl rfl)
  refine J_aload_n dX9_tell__5 rfl rfl ?_
  refine J_iload_n dX9_tell__6 rfl rfl ?_
  refine J_callVr (As := [_]) dX9_tell__7 ml_X9_413 cal_X9_isBout im_X9_isBout se_X9_isBout (w1.at 0 rfl) rfl rfl rfl (Nat.le_of_ble_eq_true rfl) ⟨by decide, by decide⟩ ⟨by decide, by decide⟩ (c_X9_isBout hst w1 w1N w1S hap hok _) ?_
  refine J_ifb_ne (tgt := 19) dX9_tell__10 rfl (fun h10 => ?_) (fun h10 => ?_)
  · have kh10 : (okB (fS S P) w) := h10
    obtain ⟨ex10, ei10⟩ := kh10.i hb h6
    obtain ⟨i, j, e4, hi, e5, hj, eij⟩ := hok.2.2.2.2.2.2.1 _ ei10
    refine J_iload_n dX9_tell__19 rfl rfl ?_
    refine J_iconst (v := 0) dX9_tell__20 (by decide) ?_
    refine J_iconst (v := 2) dX9_tell__21 (by decide) ?_
    refine J_callSr (As := [_, _, _]) dX9_tell__22 ml_X9_68 cal_X9_isIn sm_X9_isIn rfl rfl (Nat.le_of_ble_eq_true rfl) ⟨by decide, by decide⟩ ⟨by decide, by decide⟩ (c_X9_isIn hst _ _ _) ?_
    refine J_ifb_ne (tgt := 34) dX9_tell__25 rfl (fun h25 => ?_) (fun h25 => ?_)
    · refine J_aload_n dX9_tell__34 rfl rfl ?_
      refine J_getf dX9_tell__35 fl_X9_40 (w1.at 0 rfl) rfl ?_
      refine J_getf dX9_tell__38 fl_X9_177 (w1S.at 0 rfl) rfl ?_
      refine J_iload_n dX9_tell__41 rfl rfl ?_
      refine J_ialdN (wi w) dX9_tell__42 (w1S.at 13 rfl) ex10 (by omega) (by decide) ?_
      refine J_iconst (v := -1) dX9_tell__43 (by decide) ?_
      refine J_icmp_eq (tgt := 53) dX9_tell__44 rfl (fun h44 => ?_) (fun h44 => ?_)
      · have hv3 : v = 0 ∨ v = 1 ∨ v = 2 := v012 h25
        refine J_aload_n dX9_tell__53 rfl rfl ?_
        refine J_aload_n dX9_tell__54 rfl rfl ?_
        refine J_getf dX9_tell__55 fl_X9_40 (w1.at 0 rfl) rfl ?_
        refine J_iload_n dX9_tell__58 rfl rfl ?_
        refine J_iload_n dX9_tell__59 rfl rfl ?_
        refine J_callVw (As := [_, _, _]) dX9_tell__60 ml_X9_204 cal_X9_tell im_X9_tell se_X9_tell (w1.at 0 rfl) rfl rfl rfl (Nat.le_of_ble_eq_true rfl) ⟨by decide, by decide⟩ ⟨by decide, by decide⟩ (c_X9_tell hst w1 w1N w1S hap ex10 (by omega) e4 (by omega) e5 (by omega) eij hv3) (fun A2 hQ2 => ?_)
        obtain ⟨S_2, hS_2, hs_2, hF_2, hi_2, h9_2⟩ := hQ2
        have hF2_2 : fS S_2 P = tlB (fS S P) w v := by
          show _ = tellF (fS S P) (wi w) (wi ((fS S P).2 4 (wi w))) (wi ((fS S P).2 5 (wi w))) v
          rw [e4, e5, wi_nI (by omega), wi_nI (by omega)]
          exact hF_2
        refine J_aload_n dX9_tell__63 rfl rfl ?_
        refine J_getf dX9_tell__64 fl_X9_40 ((layM_sS w1 hs_2 hap).at 0 rfl) rfl ?_
        refine J_callVr (As := []) dX9_tell__67 ml_X9_97 cal_X8_open im_X8_open se_X8_open (hS_2.at 0 rfl) rfl rfl rfl (Nat.le_of_ble_eq_true rfl) ⟨by decide, by decide⟩ ⟨by decide, by decide⟩ (c_X8_open hst hS_2 (nb := nb) (by rw [hi_2]; exact hb) h6) ?_
        refine J_ireturn dX9_tell__70 rfl rfl (by decide) (by decide) ?_
        have e1 : (aTell nb (fS S P) w v) = (0, bx_sum (opn ((tlB (fS S P) w v).2 6)) nb) := by unfold aTell; rw [if_pos kh10, if_pos h25, if_pos (show (fS S P).2 6 (wi w) = -1 from h44)]
        have e2 : (sTell (fS S P) w v) = tlB (fS S P) w v := by unfold sTell; rw [if_pos kh10, if_pos h25, if_pos (show (fS S P).2 6 (wi w) = -1 from h44)]
        unfold wrA
        rw [e1, e2]
        exact ⟨by rw [← hF2_2]; rfl, rfl, _, _, (mS.s0 mS.rf), rfl, (layM_sS w1 hs_2 hap), (w1N.s2 hs_2 (m := 9) rfl (by have := hap.2.2; omega)), hS_2, (s1.trans hs_2.toR), hF2_2, by rw [h9_2]; exact hz⟩
      · refine J_aload_n dX9_tell__47 rfl rfl ?_
        refine J_iconst (v := 3) dX9_tell__48 (by decide) ?_
        refine J_callVw (As := [_]) dX9_tell__49 ml_X9_393 cal_X9_no im_X9_no se_X9_no (w1.at 0 rfl) rfl rfl rfl (Nat.le_of_ble_eq_true rfl) ⟨by decide, by decide⟩ ⟨by decide, by decide⟩ (c_X9_no hst w1 _) (fun A3 hQ3 => ?_)
        skip
        refine J_ireturn dX9_tell__52 rfl rfl (by decide) (by decide) ?_
        have e1 : (aTell nb (fS S P) w v) = (3, 0) := by unfold aTell; rw [if_pos kh10, if_pos h25, if_neg (show ¬ (fS S P).2 6 (wi w) = -1 from h44)]
        have e2 : (sTell (fS S P) w v) = fS S P := by unfold sTell; rw [if_pos kh10, if_pos h25, if_neg (show ¬ (fS S P).2 6 (wi w) = -1 from h44)]
        unfold wrA
        rw [e1, e2]
        exact ⟨rfl, rfl, _, _, (mS.s0 (mS.s0 mS.rf)), rfl, hQ3.1, (w1N.mf hQ3.2 (m := 9) rfl hap.p), (w1S.mf hQ3.2 (m := 14) rfl hap.s), (s1.trans hQ3.2.toR), rfl, hz⟩
    · refine J_aload_n dX9_tell__28 rfl rfl ?_
      refine J_iconst (v := 2) dX9_tell__29 (by decide) ?_
      refine J_callVw (As := [_]) dX9_tell__30 ml_X9_393 cal_X9_no im_X9_no se_X9_no (w1.at 0 rfl) rfl rfl rfl (Nat.le_of_ble_eq_true rfl) ⟨by decide, by decide⟩ ⟨by decide, by decide⟩ (c_X9_no hst w1 _) (fun A4 hQ4 => ?_)
      skip
      refine J_ireturn dX9_tell__33 rfl rfl (by decide) (by decide) ?_
      have e1 : (aTell nb (fS S P) w v) = (2, 0) := by unfold aTell; rw [if_pos kh10, if_neg h25]
      have e2 : (sTell (fS S P) w v) = fS S P := by unfold sTell; rw [if_pos kh10, if_neg h25]
      unfold wrA
      rw [e1, e2]
      exact ⟨rfl, rfl, _, _, (mS.s0 (mS.s0 mS.rf)), rfl, hQ4.1, (w1N.mf hQ4.2 (m := 9) rfl hap.p), (w1S.mf hQ4.2 (m := 14) rfl hap.s), (s1.trans hQ4.2.toR), rfl, hz⟩
  · have kh10 : ¬ (okB (fS S P) w) := h10
    refine J_aload_n dX9_tell__13 rfl rfl ?_
    refine J_iconst (v := 1) dX9_tell__14 (by decide) ?_
    refine J_callVw (As := [_]) dX9_tell__15 ml_X9_393 cal_X9_no im_X9_no se_X9_no (w1.at 0 rfl) rfl rfl rfl (Nat.le_of_ble_eq_true rfl) ⟨by decide, by decide⟩ ⟨by decide, by decide⟩ (c_X9_no hst w1 _) (fun A5 hQ5 => ?_)
    skip
    refine J_ireturn dX9_tell__18 rfl rfl (by decide) (by decide) ?_
    have e1 : (aTell nb (fS S P) w v) = (1, 0) := by unfold aTell; rw [if_neg kh10]
    have e2 : (sTell (fS S P) w v) = fS S P := by unfold sTell; rw [if_neg kh10]
    unfold wrA
    rw [e1, e2]
    exact ⟨rfl, rfl, _, _, (mS.s0 (mS.s0 mS.rf)), rfl, hQ5.1, (w1N.mf hQ5.2 (m := 9) rfl hap.p), (w1S.mf hQ5.2 (m := 14) rfl hap.s), (s1.trans hQ5.2.toR), rfl, hz⟩
set_option maxHeartbeats 1000000 in
theorem c_X9_tellByRules (hst : l.stackTraces = false) (hM : xx_w bm (layM bp vL bn ba bm M) A) (hN : xx_w bp (layN nl bp P) A) (hS : xx_w bn (layS bn S) A) (hap : apR bm bp bn) (hok : okF (fS S P) nw nb r) (hz : ∀ i, i < 12 → S.2 9 i = 0 ∨ S.2 9 i = 1) {nr : Nat} (hpl : plV P nr) {ru : xS → Nat → Nat → Int32} (hru : ∀ S i j, i < nw → j < nw → outR S P i j nr 0 = ru (fS S P) i j) : xx_C G l yX9_tellByRules mX9_tellByRules 5 120 0 0 [.ref bm] A n (wrA bm bp bn ba n vL nl M P A (aTBR ru nb (fS S P)) (sTBR ru nb (fS S P))) := by
  have hn : P.1 0 = nI nw := hok.1.1
  have h12 := hok.1.2
  have hb : S.1 1 = nI nb := hok.2.1.1
  have h6 := hok.2.1.2
  refine J_C hst (by decide +kernel) rfl rfl rfl (Nat.le_of_ble_eq_true rfl) ?_
  show xx_J _ _ _ _ _ _ _ _ 0 [(0, _)] [] _ _ _ _
  refine J_aload_n dX9_tellByRules_0 rfl rfl ?_
  refine J_iconst (v := 0) dX9_tellByRules_1 (by decide) ?_
  refine J_putf dX9_tellByRules_2 fp_X9_62 (fun _ => ⟨rfl, rfl⟩) (hM.at 0 rfl) (Nat.le_of_ble_eq_true rfl) ?_
  refine J_genA (wM_s0_0 hM _) ((xx_rf.rf (bm := bm) (bs := bn)).put (by omega) (by omega) _) (fun A1 w1 s1 o1 => ?_)
  have w1N := hN.o2 o1 (m := 9) rfl (by have z1 := hap.1; have z3 := hap.2.2; omega)
  have w1S := hS.mo o1 (m := 14) rfl hap.s (Or.inl rfl)
  refine J_aload_n dX9_tellByRules_5 rfl rfl ?_
  refine J_getf dX9_tellByRules_6 fl_X9_40 (w1.at 0 rfl) rfl ?_
  refine J_callVr (As := []) dX9_tellByRules_9 ml_X9_97 cal_X8_open im_X8_open se_X8_open (w1S.at 0 rfl) rfl rfl rfl (Nat.le_of_ble_eq_true rfl) ⟨by decide, by decide⟩ ⟨by decide, by decide⟩ (c_X8_open hst w1S hb h6) ?_
  refine J_if_ne (tgt := 23) dX9_tellByRules_12 rfl (fun hc12 => ?_) (fun hc12 => ?_)
  · refine J_aload_n dX9_tellByRules_23 rfl rfl ?_
    refine J_aload_n dX9_tellByRules_24 rfl rfl ?_
    refine J_getf dX9_tellByRules_25 fl_X9_40 (w1.at 0 rfl) rfl ?_
    refine J_callVw (As := [_]) dX9_tellByRules_28 ml_X9_210 cal_X9_tellAll im_X9_tellAll se_X9_tellAll (w1.at 0 rfl) rfl rfl rfl (Nat.le_of_ble_eq_true rfl) ⟨by decide, by decide⟩ ⟨by decide, by decide⟩ (c_X9_tellAll hst w1 w1N w1S hap h12 hpl hru hb h6 hok.2.2.2.2.2.2.1) (fun A2 hQ2 => ?_)
    obtain ⟨M_2, S_2, sc_2, hM_2, hN_2, hS_2, hs_2, hF_2, h9_2⟩ := hQ2
    refine J_ireturn dX9_tellByRules_31 rfl rfl (by decide) (by decide) ?_
    have e1 : (aTBR ru nb (fS S P)) = (0, (tlP ru nb 0 (fS S P) 0).2) := by unfold aTBR; rw [if_neg (show ¬ bx_sum (opn ((fS S P).2 6)) nb = 0 from hc12)]
    have e2 : (sTBR ru nb (fS S P)) = (tlP ru nb 0 (fS S P) 0).1 := by unfold sTBR; rw [if_neg (show ¬ bx_sum (opn ((fS S P).2 6)) nb = 0 from hc12)]
    unfold wrA
    rw [e1, e2]
    exact ⟨rfl, rfl, _, _, ((mS.s0 mS.rf).trans sc_2.mS), (sc_2.1 0 (by decide)), hM_2, hN_2, hS_2, (s1.trans hs_2), hF_2, by rw [h9_2]; exact hz⟩
  · refine J_aload_n dX9_tellByRules_15 rfl rfl ?_
    refine J_iconst (v := 1) dX9_tellByRules_16 (by decide) ?_
    refine J_callVw (As := [_]) dX9_tellByRules_17 ml_X9_393 cal_X9_no im_X9_no se_X9_no (w1.at 0 rfl) rfl rfl rfl (Nat.le_of_ble_eq_true rfl) ⟨by decide, by decide⟩ ⟨by decide, by decide⟩ (c_X9_no hst w1 _) (fun A3 hQ3 => ?_)
    skip
    refine J_goto (tgt := 31) dX9_tellByRules_20 rfl ?_
    refine J_ireturn dX9_tellByRules_31 rfl rfl (by decide) (by decide) ?_
    have e1 : (aTBR ru nb (fS S P)) = (1, 0) := by unfold aTBR; rw [if_pos (show bx_sum (opn ((fS S P).2 6)) nb = 0 from hc12)]
    have e2 : (sTBR ru nb (fS S P)) = fS S P := by unfold sTBR; rw [if_pos (show bx_sum (opn ((fS S P).2 6)) nb = 0 from hc12)]
    unfold wrA
    rw [e1, e2]
    exact ⟨rfl, rfl, _, _, (mS.s0 (mS.s0 mS.rf)), rfl, hQ3.1, (w1N.mf hQ3.2 (m := 9) rfl hap.p), (w1S.mf hQ3.2 (m := 14) rfl hap.s), (s1.trans hQ3.2.toR), rfl, hz⟩
set_option maxHeartbeats 1000000 in
theorem c_X9_turnIn (hst : l.stackTraces = false) (hM : xx_w bm (layM bp vL bn ba bm M) A) (hN : xx_w bp (layN nl bp P) A) (hS : xx_w bn (layS bn S) A) (hap : apR bm bp bn) (hok : okF (fS S P) nw nb r) (hz : ∀ i, i < 12 → S.2 9 i = 0 ∨ S.2 9 i = 1) (w : Int32) : xx_C G l yX9_turnIn mX9_turnIn 2 43 0 0 [.ref bm, .int w] A n (wrA bm bp bn ba n vL nl M P A (aTurn (fS S P) w) (sTurn (fS S P) w)) := by
  have hn : P.1 0 = nI nw := hok.1.1
  have h12 := hok.1.2
  have hb : S.1 1 = nI nb := hok.2.1.1
  have h6 := hok.2.1.2
  refine J_C hst (by decide +kernel) rfl rfl rfl (Nat.le_of_ble_eq_true rfl) ?_
  show xx_J _ _ _ _ _ _ _ _ 0 [(0, _), (1, _)] [] _ _ _ _
  refine J_aload_n dX9_turnIn_0 rfl rfl ?_
  refine J_iconst (v := 0) dX9_turnIn_1 (by decide) ?_
  refine J_putf dX9_turnIn_2 fp_X9_62 (fun _ => ⟨rfl, rfl⟩) (hM.at 0 rfl) (Nat.le_of_ble_eq_true rfl) ?_
  refine J_genA (wM_s0_0 hM _) ((xx_rf.rf (bm := bm) (bs := bn)).put (by omega) (by omega) _) (fun A1 w1 s1 o1 => ?_)
  have w1N := hN.o2 o1 (m := 9) rfl (by have z1 := hap.1; have z3 := hap.2.2; omega)
  have w1S := hS.mo o1 (m := 14) rfl hap.s (Or.inl rfl)
  refine J_aload_n dX9_turnIn_5 rfl rfl ?_
  refine J_iload_n dX9_turnIn_6 rfl rfl ?_
  refine J_callVr (As := [_]) dX9_turnIn_7 ml_X9_403 cal_X9_isOne im_X9_isOne se_X9_isOne (w1.at 0 rfl) rfl rfl rfl (Nat.le_of_ble_eq_true rfl) ⟨by decide, by decide⟩ ⟨by decide, by decide⟩ (c_X9_isOne hst w1 w1N hn h12 _) ?_
  refine J_ifb_ne (tgt := 19) dX9_turnIn_10 rfl (fun h10 => ?_) (fun h10 => ?_)
  · have kh10 : (okW (fS S P) w) := h10
    obtain ⟨ex10, ei10⟩ := kh10.i hn h12
    refine J_aload_n dX9_turnIn_19 rfl rfl ?_
    refine J_getf dX9_turnIn_20 fl_X9_40 (w1.at 0 rfl) rfl ?_
    refine J_getf dX9_turnIn_23 fl_X9_93 (w1S.at 0 rfl) rfl ?_
    refine J_iload_n dX9_turnIn_26 rfl rfl ?_
    refine J_aload_n dX9_turnIn_27 rfl rfl ?_
    refine J_getf dX9_turnIn_28 fl_X9_40 (w1.at 0 rfl) rfl ?_
    refine J_getf dX9_turnIn_31 fl_X9_93 (w1S.at 0 rfl) rfl ?_
    refine J_iload_n dX9_turnIn_34 rfl rfl ?_
    refine J_zaldN (wi w) dX9_turnIn_35 (w1S.at 9 rfl) ex10 (by omega) (by decide) ?_
    refine J_if_ne (tgt := 43) dX9_turnIn_36 rfl (fun h36 => ?_) (fun h36 => ?_)
    · refine J_iconst (v := 0) dX9_turnIn_43 (by decide) ?_
      refine J_zastN (wi w) dX9_turnIn_44 (w1S.at 9 rfl) ex10 (by omega) (by decide) ?_
      refine J_genA (wS_a9 w1S _) (s1.put (by omega) (by omega) _) (fun A2 w2 s2 o2 => ?_)
      have w2M := layM_o w1 o2 (hap.s 9 (by decide))
      have w2N := w1N.o2 o2 (m := 9) rfl (by have z1 := hap.1; have z3 := hap.2.2; omega)
      refine J_aload_n dX9_turnIn_45 rfl rfl ?_
      refine J_getf dX9_turnIn_46 fl_X9_40 (w2M.at 0 rfl) rfl ?_
      refine J_getf dX9_turnIn_49 fl_X9_93 (w2.at 0 rfl) rfl ?_
      refine J_iload_n dX9_turnIn_52 rfl rfl ?_
      refine J_zaldN (wi w) dX9_turnIn_53 (w2.at 9 rfl) ex10 (by omega) (by decide) ?_
      refine J_if_ne (tgt := 61) dX9_turnIn_54 rfl (fun h54 => ?_) (fun h54 => ?_)
      · exact absurd (show upd (S.2 9) (wi w) 0 (wi w) = 0 from if_pos rfl) h54
      · refine J_iconst (v := 1) dX9_turnIn_57 (by decide) ?_
        refine J_goto (tgt := 62) dX9_turnIn_58 rfl ?_
        refine J_ireturn dX9_turnIn_62 rfl rfl (by decide) (by decide) ?_
        have e0 : (if S.2 9 (wi w) = 0 then (1 : Int32) else 0) = 0 := if_neg h36
        have e1 : aTurn (fS S P) w = (0, 1) := by
          unfold aTurn
          rw [if_pos kh10, fS_c (by omega)]
          show (0, xx_b (¬ 1 - (if S.2 9 (wi w) = 0 then (1 : Int32) else 0) = 0)) = _
          rw [e0]
          rfl
        have e2 : sTurn (fS S P) w = tuF (fS S P) w := if_pos kh10
        have e3 := fS_turn (S := S) (P := P) (i := wi w) (by omega)
        rw [e0] at e3
        unfold wrA
        rw [e1, e2]
        refine ⟨rfl, rfl, _, _, (mS.s0 mS.rf), rfl, w2M, w2N, w2, s2, e3, fun i hi => ?_⟩
        show upd (S.2 9) (wi w) 0 i = 0 ∨ upd (S.2 9) (wi w) 0 i = 1
        simp only [upd]
        split
        · exact Or.inl rfl
        · exact hz i hi
    · refine J_iconst (v := 1) dX9_turnIn_39 (by decide) ?_
      refine J_goto (tgt := 44) dX9_turnIn_40 rfl ?_
      refine J_zastN (wi w) dX9_turnIn_44 (w1S.at 9 rfl) ex10 (by omega) (by decide) ?_
      refine J_genA (wS_a9 w1S _) (s1.put (by omega) (by omega) _) (fun A3 w3 s3 o3 => ?_)
      have w3M := layM_o w1 o3 (hap.s 9 (by decide))
      have w3N := w1N.o2 o3 (m := 9) rfl (by have z1 := hap.1; have z3 := hap.2.2; omega)
      refine J_aload_n dX9_turnIn_45 rfl rfl ?_
      refine J_getf dX9_turnIn_46 fl_X9_40 (w3M.at 0 rfl) rfl ?_
      refine J_getf dX9_turnIn_49 fl_X9_93 (w3.at 0 rfl) rfl ?_
      refine J_iload_n dX9_turnIn_52 rfl rfl ?_
      refine J_zaldN (wi w) dX9_turnIn_53 (w3.at 9 rfl) ex10 (by omega) (by decide) ?_
      refine J_if_ne (tgt := 61) dX9_turnIn_54 rfl (fun h54 => ?_) (fun h54 => ?_)
      · refine J_iconst (v := 0) dX9_turnIn_61 (by decide) ?_
        refine J_ireturn dX9_turnIn_62 rfl rfl (by decide) (by decide) ?_
        have e0 : (if S.2 9 (wi w) = 0 then (1 : Int32) else 0) = 1 := if_pos h36
        have e1 : aTurn (fS S P) w = (0, 0) := by
          unfold aTurn
          rw [if_pos kh10, fS_c (by omega)]
          show (0, xx_b (¬ 1 - (if S.2 9 (wi w) = 0 then (1 : Int32) else 0) = 0)) = _
          rw [e0]
          rfl
        have e2 : sTurn (fS S P) w = tuF (fS S P) w := if_pos kh10
        have e3 := fS_turn (S := S) (P := P) (i := wi w) (by omega)
        rw [e0] at e3
        unfold wrA
        rw [e1, e2]
        refine ⟨rfl, rfl, _, _, (mS.s0 mS.rf), rfl, w3M, w3N, w3, s3, e3, fun i hi => ?_⟩
        show upd (S.2 9) (wi w) 1 i = 0 ∨ upd (S.2 9) (wi w) 1 i = 1
        simp only [upd]
        split
        · exact Or.inr rfl
        · exact hz i hi
      · exact absurd ((show upd (S.2 9) (wi w) 1 (wi w) = 1 from if_pos rfl).symm.trans h54) (by decide)
  · have kh10 : ¬ (okW (fS S P) w) := h10
    refine J_aload_n dX9_turnIn_13 rfl rfl ?_
    refine J_iconst (v := 1) dX9_turnIn_14 (by decide) ?_
    refine J_callVw (As := [_]) dX9_turnIn_15 ml_X9_410 cal_X9_isNot im_X9_isNot se_X9_isNot (w1.at 0 rfl) rfl rfl rfl (Nat.le_of_ble_eq_true rfl) ⟨by decide, by decide⟩ ⟨by decide, by decide⟩ (c_X9_isNot hst w1 _) (fun A4 hQ4 => ?_)
    skip
    refine J_ireturn dX9_turnIn_18 rfl rfl (by decide) (by decide) ?_
    have e1 : (aTurn (fS S P) w) = (1, 0) := by unfold aTurn; rw [if_neg kh10]
    have e2 : (sTurn (fS S P) w) = fS S P := by unfold sTurn; rw [if_neg kh10]
    unfold wrA
    rw [e1, e2]
    exact ⟨rfl, rfl, _, _, (mS.s0 (mS.s0 mS.rf)), rfl, hQ4.1, (w1N.mf hQ4.2 (m := 9) rfl hap.p), (w1S.mf hQ4.2 (m := 14) rfl hap.s), (s1.trans hQ4.2.toR), rfl, hz⟩
end XSP
