/-! THE REFERENCE: what would be -/
section XSQ
variable {G : xx_G} {l : Launch} {A A' : xx_H} {n : Nat} {bm bp bs bn ba : Nat} {vL nl : Nat → Int64} {M M' M1 P P' S S1 F F' : xS} {T : xS} {len i j k q s e t d nt tok v m nw nb r : Nat} {tk : Nat → Nat} {ru ru' : xS → Nat → Nat → Int32}
theorem ga_eq (hrv : ∀ F i j, ru F i j = 0 ∨ ru F i j = 1 ∨ ru F i j = 2) (hrc : ∀ nb F F' i j, eqF nw nb F F' → i < nw → j < nw → ru F i j = ru' F' i j) (h : eqF nw nb F F') (hok : okF F nw nb r) (m : Nat) : ∃ nb' r', eqF nw nb' (gaF ru nw nb m F) (gaF ru' nw nb m F') ∧ okF (gaF ru nw nb m F) nw nb' r' := by
  have t := eqF.tl (ru := ru) (ru' := ru') hok.1.2 (hrc nb) nb 0 F F' 0 (by omega) h hok.2.2.2.2.2.2.1
  have ok := (okF.tla hrv hok).1
  obtain ⟨r', k⟩ := okF.ga hrv m _ nb r ok
  exact ⟨_, r', (eqF.ga hrv hrc m _ _ nb r t.1 ok).2, k⟩
theorem r10 {w : Int32} (h : 1 ≤ w ∧ w ≤ 10) : w = nI (wi w) ∧ wi w ≤ 10 := by
  have e0 : (1 : Int32).toInt = 1 := rfl
  have e2 : (10 : Int32).toInt = 10 := rfl
  rw [Int32.le_iff_toInt_le, Int32.le_iff_toInt_le, e0, e2] at h
  have hw : (wi w : Int) = w.toInt := by
    show ((w.toInt.toNat : Nat) : Int) = _
    omega
  refine ⟨?_, by omega⟩
  apply Int32.toInt_inj.mp
  rw [i_n (by omega)]
  exact hw.symm
/-- a call that answers a and only plays ahead -/
def ahA (bm bp bn ba n : Nat) (vL nl : Nat → Int64) (M P S : xS) (A : xx_H) (a : Ans) : xx_Q := xx_wr (some (.int a.2)) n (fun A' => ∃ M' S', mS M M' ∧ M'.1 0 = a.1 ∧ xx_w bm (layM bp vL bn ba bm M') A' ∧ xx_w bp (layN nl bp P) A' ∧ xx_w bn (layS bn S) A' ∧ xx_w ba (layS ba S') A' ∧ xx_rf bm ba A A')
set_option maxHeartbeats 1000000 in
theorem c_X9_nextOf (hst : l.stackTraces = false) (hM : xx_w bm (layM bp vL bn ba bm M) A) (hN : xx_w bp (layN nl bp P) A) (hS : xx_w bn (layS bn S) A) (hap : apR bm bp bn) (hok : okF (fS S P) nw nb r) (hM0 : M.1 0 = 0) (w : Int32) : xx_C G l yX9_nextOf mX9_nextOf 7 165 0 0 [.ref bm, .int w] A n (rdA bm bp bn ba n vL M A (if rivN (fS S P) nw w = -1 then ((2, 0) : Ans) else (0, rivN (fS S P) nw w))) := by
  have hn : P.1 0 = nI nw := hok.1.1
  have h12 := hok.1.2
  have hb : S.1 1 = nI nb := hok.2.1.1
  have h6 := hok.2.1.2
  refine J_C hst (by decide +kernel) rfl rfl rfl (Nat.le_of_ble_eq_true rfl) ?_
  show xx_J _ _ _ _ _ _ _ _ 0 [(0, _), (1, _)] [] _ _ _ _
  refine J_aload_n dX9_nextOf_0 rfl rfl ?_
  refine J_aload_n dX9_nextOf_1 rfl rfl ?_
  refine J_getf dX9_nextOf_2 fl_X9_40 (hM.at 0 rfl) rfl ?_
  refine J_callVw (As := [_]) dX9_nextOf_5 ml_X9_148 cal_X9_pairs im_X9_pairs se_X9_pairs (hM.at 0 rfl) rfl rfl rfl (Nat.le_of_ble_eq_true rfl) ⟨by decide, by decide⟩ ⟨by decide, by decide⟩ (c_X9_pairs hst hM hN hS hap hn h12 hok.bd (lsF_ok (fS S P) nw)) (fun A1 hQ1 => ?_)
  obtain ⟨Mp, scp, h15p, hpq, hMp, hsp⟩ := hQ1
  have hNp := hN.mf hsp (m := 9) rfl hap.p
  have hSp := hS.mf hsp (m := 14) rfl hap.s
  have hpp := prs_ok (F := fS S P) h12
  refine J_istore_n (L' := [(2, _), (0, _), (1, _)]) dX9_nextOf_8 rfl (by decide) rfl ?_
  refine J_iconst (v := 0) dX9_nextOf_9 (by decide) ?_
  refine J_istore_n (L' := [(3, _), (2, _), (0, _), (1, _)]) dX9_nextOf_10 rfl (by decide) rfl ?_
  have loop : ∀ i, i ≤ (npF (fS S P) nw) → ∀ (x : Int32) , (x = nI i) → (rivP (fun q => nI (p1F (fS S P) nw q)) (fun q => nI (p2F (fS S P) nw q)) w ((npF (fS S P) nw) - i) i = rivP (fun q => nI (p1F (fS S P) nw q)) (fun q => nI (p2F (fS S P) nw q)) w (npF (fS S P) nw) 0) → xx_J G l mX9_nextOf 7 165 0 0 (rdA bm bp bn ba n vL M A (if rivN (fS S P) nw w = -1 then ((2, 0) : Ans) else (0, rivN (fS S P) nw w))) 11 [(3, .int x), (2, .int (nI (npF (fS S P) nw))), (0, .ref bm), (1, .int w)] [] A1 n 0 0 := by
    refine xx_dn ?_ ?_
    · intro x   hx hv
      have hp6 := hpp.1.1
      have ex : x.toInt = (npF (fS S P) nw) := by rw [hx]; exact i_n (by omega)
      have ey : (nI (npF (fS S P) nw)).toInt = (npF (fS S P) nw) := i_n (by have := hpp.1.1; omega)
      have hp6 := hpp.1.1
      refine J_iload_n dX9_nextOf_11 rfl rfl ?_
      refine J_iload_n dX9_nextOf_12 rfl rfl ?_
      refine J_icmp_ge (tgt := 56) dX9_nextOf_13 rfl (fun h13 => ?_) (fun h13 => ?_)
      · refine J_aload_n dX9_nextOf_56 rfl rfl ?_
        refine J_iconst (v := 2) dX9_nextOf_57 (by decide) ?_
        refine J_callVw (As := [_]) dX9_nextOf_58 ml_X9_393 cal_X9_no im_X9_no se_X9_no (hMp.at 0 rfl) rfl rfl rfl (Nat.le_of_ble_eq_true rfl) ⟨by decide, by decide⟩ ⟨by decide, by decide⟩ (c_X9_no hst hMp _) (fun A22 hQ22 => ?_)
        skip
        refine J_ireturn dX9_nextOf_61 rfl rfl (by decide) (by decide) ?_
        have e0 : rivN (fS S P) nw w = -1 := by rw [show rivN (fS S P) nw w = rivP (fun q => nI (p1F (fS S P) nw q)) (fun q => nI (p2F (fS S P) nw q)) w (npF (fS S P) nw) 0 from rfl, ← hv, Nat.sub_self]; rfl
        have e1 : (if rivN (fS S P) nw w = -1 then ((2, 0) : Ans) else (0, rivN (fS S P) nw w)) = (2, 0) := if_pos e0
        unfold rdA
        rw [e1]
        exact ⟨rfl, rfl, _, (mS.s0 (mS.rf.trans scp.mS)), rfl, hQ22.1, (((xx_mf.rf (bm := bm)).trans hsp).trans hQ22.2)⟩
      · first | (exfalso; simp only [i_lt, i_le, i_eq, i_0, i_1, i_2, i_3, i_4, i_5, i_6, i_8, i_9, i_10, i_12, i_16, i_20, i_m1, i_400, i_2000] at h13; omega) | (exfalso; simp only [s_up, a_up, va_up, i_lt, i_le, i_eq, i_0, i_1, i_2, i_3, i_4, i_5, i_6, i_8, i_9, i_10, i_12, i_16, i_20, i_m1, i_400, i_2000, ↓reduceIte, Nat.reduceEqDiff] at h13; omega)
    · intro i hii ih x   hx hv
      have hp6 := hpp.1.1
      have ex : x.toInt = i := by rw [hx]; exact i_n (by omega)
      have ey : (nI (npF (fS S P) nw)).toInt = (npF (fS S P) nw) := i_n (by have := hpp.1.1; omega)
      have hp6 := hpp.1.1
      have g1 := hpp.1.2 i hii
      refine J_iload_n dX9_nextOf_11 rfl rfl ?_
      refine J_iload_n dX9_nextOf_12 rfl rfl ?_
      refine J_icmp_ge (tgt := 56) dX9_nextOf_13 rfl (fun h13 => ?_) (fun h13 => ?_)
      · first | (exfalso; simp only [i_lt, i_le, i_eq, i_0, i_1, i_2, i_3, i_4, i_5, i_6, i_8, i_9, i_10, i_12, i_16, i_20, i_m1, i_400, i_2000] at h13; omega) | (exfalso; simp only [s_up, a_up, va_up, i_lt, i_le, i_eq, i_0, i_1, i_2, i_3, i_4, i_5, i_6, i_8, i_9, i_10, i_12, i_16, i_20, i_m1, i_400, i_2000, ↓reduceIte, Nat.reduceEqDiff] at h13; omega)
      · refine J_aload_n dX9_nextOf_16 rfl rfl ?_
        refine J_getf dX9_nextOf_17 fl_X9_53 (hMp.at 0 rfl) rfl ?_
        refine J_iload_n dX9_nextOf_20 rfl rfl ?_
        refine J_ialdN i dX9_nextOf_21 (hMp.at 8 rfl) hx (by omega) (by decide) ?_
        refine J_iload_n dX9_nextOf_22 rfl rfl ?_
        refine J_icmp_ne (tgt := 33) dX9_nextOf_23 rfl (fun h23 => ?_) (fun h23 => ?_)
        · have g23 : ¬ nI (p1F (fS S P) nw i) = w := fun z => h23 ((hpq i hii).1.trans z)
          refine J_aload_n dX9_nextOf_33 rfl rfl ?_
          refine J_getf dX9_nextOf_34 fl_X9_56 (hMp.at 0 rfl) rfl ?_
          refine J_iload_n dX9_nextOf_37 rfl rfl ?_
          refine J_ialdN i dX9_nextOf_38 (hMp.at 9 rfl) hx (by omega) (by decide) ?_
          refine J_iload_n dX9_nextOf_39 rfl rfl ?_
          refine J_icmp_ne (tgt := 50) dX9_nextOf_40 rfl (fun h40 => ?_) (fun h40 => ?_)
          · have g40 : ¬ nI (p2F (fS S P) nw i) = w := fun z => h40 ((hpq i hii).2.trans z)
            refine J_iinc (v := _ + 1) (L' := [(3, _), (2, _), (0, _), (1, _)]) dX9_nextOf_50 rfl rfl (by decide) rfl ?_
            refine J_goto (tgt := 11) dX9_nextOf_53 rfl ?_
            refine xx_J.pick [0, 1, 2, 3] rfl ?_
            exact ih _  (by rw [hx]; exact nI_1 i) (by rw [← hv, rivP_s hii, if_neg g23, if_neg g40])
          · have g40 : nI (p2F (fS S P) nw i) = w := (hpq i hii).2.symm.trans h40
            refine J_aload_n dX9_nextOf_43 rfl rfl ?_
            refine J_getf dX9_nextOf_44 fl_X9_53 (hMp.at 0 rfl) rfl ?_
            refine J_iload_n dX9_nextOf_47 rfl rfl ?_
            refine J_ialdN i dX9_nextOf_48 (hMp.at 8 rfl) hx (by omega) (by decide) ?_
            refine J_ireturn dX9_nextOf_49 rfl rfl (by decide) (by decide) ?_
            have e0 : rivN (fS S P) nw w = nI (p1F (fS S P) nw i) := by rw [show rivN (fS S P) nw w = rivP (fun q => nI (p1F (fS S P) nw q)) (fun q => nI (p2F (fS S P) nw q)) w (npF (fS S P) nw) 0 from rfl, ← hv, rivP_s hii, if_neg g23, if_pos g40]
            have e1 : (if rivN (fS S P) nw w = -1 then ((2, 0) : Ans) else (0, rivN (fS S P) nw w)) = (0, nI (p1F (fS S P) nw i)) := by rw [e0]; exact if_neg (nI_m1 (by omega))
            unfold rdA
            rw [e1]
            exact ⟨(congrArg (fun z => Sum.inl (some (Value.int z))) (hpq i hii).1), rfl, _, (mS.rf.trans scp.mS), ((scp.1 0 (by decide)).trans hM0), hMp, ((xx_mf.rf (bm := bm)).trans hsp)⟩
        · have g23 : nI (p1F (fS S P) nw i) = w := (hpq i hii).1.symm.trans h23
          refine J_aload_n dX9_nextOf_26 rfl rfl ?_
          refine J_getf dX9_nextOf_27 fl_X9_56 (hMp.at 0 rfl) rfl ?_
          refine J_iload_n dX9_nextOf_30 rfl rfl ?_
          refine J_ialdN i dX9_nextOf_31 (hMp.at 9 rfl) hx (by omega) (by decide) ?_
          refine J_ireturn dX9_nextOf_32 rfl rfl (by decide) (by decide) ?_
          have e0 : rivN (fS S P) nw w = nI (p2F (fS S P) nw i) := by rw [show rivN (fS S P) nw w = rivP (fun q => nI (p1F (fS S P) nw q)) (fun q => nI (p2F (fS S P) nw q)) w (npF (fS S P) nw) 0 from rfl, ← hv, rivP_s hii, if_pos g23]
          have e1 : (if rivN (fS S P) nw w = -1 then ((2, 0) : Ans) else (0, rivN (fS S P) nw w)) = (0, nI (p2F (fS S P) nw i)) := by rw [e0]; exact if_neg (nI_m1 (by omega))
          unfold rdA
          rw [e1]
          exact ⟨(congrArg (fun z => Sum.inl (some (Value.int z))) (hpq i hii).2), rfl, _, (mS.rf.trans scp.mS), ((scp.1 0 (by decide)).trans hM0), hMp, ((xx_mf.rf (bm := bm)).trans hsp)⟩
  refine xx_J.pick [0, 1, 2, 3] rfl ?_
  exact loop 0 (by omega) _  rfl rfl
set_option maxHeartbeats 1000000 in
theorem c_X9_nextOpponentOf (hst : l.stackTraces = false) (hM : xx_w bm (layM bp vL bn ba bm M) A) (hN : xx_w bp (layN nl bp P) A) (hS : xx_w bn (layS bn S) A) (hap : apR bm bp bn) (hok : okF (fS S P) nw nb r) (w : Int32) : xx_C G l yX9_nextOpponentOf mX9_nextOpponentOf 8 188 0 0 [.ref bm, .int w] A n (rdA bm bp bn ba n vL M A (aNxt nw nb (fS S P) w)) := by
  have hn : P.1 0 = nI nw := hok.1.1
  have h12 := hok.1.2
  have hb : S.1 1 = nI nb := hok.2.1.1
  have h6 := hok.2.1.2
  refine J_C hst (by decide +kernel) rfl rfl rfl (Nat.le_of_ble_eq_true rfl) ?_
  show xx_J _ _ _ _ _ _ _ _ 0 [(0, _), (1, _)] [] _ _ _ _
  refine J_aload_n dX9_nextOpponentOf_0 rfl rfl ?_
  refine J_iconst (v := 0) dX9_nextOpponentOf_1 (by decide) ?_
  refine J_putf dX9_nextOpponentOf_2 fp_X9_62 (fun _ => ⟨rfl, rfl⟩) (hM.at 0 rfl) (Nat.le_of_ble_eq_true rfl) ?_
  refine J_genA (wM_s0_0 hM _) ((xx_mf.rf (bm := bm)).put (by omega) (by omega) _) (fun A1 w1 s1 o1 => ?_)
  have w1N := hN.mo o1 (m := 9) rfl hap.p (Or.inl rfl)
  have w1S := hS.mo o1 (m := 14) rfl hap.s (Or.inl rfl)
  refine J_aload_n dX9_nextOpponentOf_5 rfl rfl ?_
  refine J_iload_n dX9_nextOpponentOf_6 rfl rfl ?_
  refine J_callVr (As := [_]) dX9_nextOpponentOf_7 ml_X9_403 cal_X9_isOne im_X9_isOne se_X9_isOne (w1.at 0 rfl) rfl rfl rfl (Nat.le_of_ble_eq_true rfl) ⟨by decide, by decide⟩ ⟨by decide, by decide⟩ (c_X9_isOne hst w1 w1N hn h12 _) ?_
  refine J_ifb_ne (tgt := 19) dX9_nextOpponentOf_10 rfl (fun h10 => ?_) (fun h10 => ?_)
  · have kh10 : (okW (fS S P) w) := h10
    obtain ⟨ex10, ei10⟩ := kh10.i hn h12
    refine J_aload_n dX9_nextOpponentOf_19 rfl rfl ?_
    refine J_aload_n dX9_nextOpponentOf_20 rfl rfl ?_
    refine J_getf dX9_nextOpponentOf_21 fl_X9_40 (w1.at 0 rfl) rfl ?_
    refine J_callVr (As := [_]) dX9_nextOpponentOf_24 ml_X9_213 cal_X9_canPair im_X9_canPair se_X9_canPair (w1.at 0 rfl) rfl rfl rfl (Nat.le_of_ble_eq_true rfl) ⟨by decide, by decide⟩ ⟨by decide, by decide⟩ (c_X9_canPair hst w1 w1N w1S hn h12 hb h6) ?_
    refine J_ifb_eq (tgt := 38) dX9_nextOpponentOf_27 rfl (fun h27 => ?_) (fun h27 => ?_)
    · have kh27 : ¬ (canB (fS S P) nw nb = true) := fun z => h27 (canB_i.mp z)
      refine J_aload_n dX9_nextOpponentOf_38 rfl rfl ?_
      refine J_iconst (v := 2) dX9_nextOpponentOf_39 (by decide) ?_
      refine J_callVw (As := [_]) dX9_nextOpponentOf_40 ml_X9_393 cal_X9_no im_X9_no se_X9_no (w1.at 0 rfl) rfl rfl rfl (Nat.le_of_ble_eq_true rfl) ⟨by decide, by decide⟩ ⟨by decide, by decide⟩ (c_X9_no hst w1 _) (fun A2 hQ2 => ?_)
      skip
      refine J_ireturn dX9_nextOpponentOf_43 rfl rfl (by decide) (by decide) ?_
      have e1 : (aNxt nw nb (fS S P) w) = (2, 0) := by unfold aNxt; rw [if_pos kh10, if_neg kh27]
      unfold rdA
      rw [e1]
      exact ⟨rfl, rfl, _, (mS.s0 (mS.s0 mS.rf)), rfl, hQ2.1, (s1.trans hQ2.2)⟩
    · have kh27 : (canB (fS S P) nw nb = true) := canB_i.mpr h27
      refine J_aload_n dX9_nextOpponentOf_30 rfl rfl ?_
      refine J_iload_n dX9_nextOpponentOf_31 rfl rfl ?_
      refine J_callVw (As := [_]) dX9_nextOpponentOf_32 ml_X9_416 cal_X9_nextOf im_X9_nextOf se_X9_nextOf (w1.at 0 rfl) rfl rfl rfl (Nat.le_of_ble_eq_true rfl) ⟨by decide, by decide⟩ ⟨by decide, by decide⟩ (c_X9_nextOf hst w1 w1N w1S hap hok rfl w) (fun A3 hQ3 => ?_)
      obtain ⟨M_3, ms_3, h0_3, hM_3, hs_3⟩ := hQ3
      refine J_goto (tgt := 43) dX9_nextOpponentOf_35 rfl ?_
      refine J_ireturn dX9_nextOpponentOf_43 rfl rfl (by decide) (by decide) ?_
      have e1 : aNxt nw nb (fS S P) w = (if rivN (fS S P) nw w = -1 then ((2, 0) : Ans) else (0, rivN (fS S P) nw w)) := by unfold aNxt; rw [if_pos kh10, if_pos kh27]
      unfold rdA
      rw [e1]
      exact ⟨rfl, rfl, _, ((mS.s0 mS.rf).trans ms_3), h0_3, hM_3, (s1.trans hs_3)⟩
  · have kh10 : ¬ (okW (fS S P) w) := h10
    refine J_aload_n dX9_nextOpponentOf_13 rfl rfl ?_
    refine J_iconst (v := 1) dX9_nextOpponentOf_14 (by decide) ?_
    refine J_callVw (As := [_]) dX9_nextOpponentOf_15 ml_X9_393 cal_X9_no im_X9_no se_X9_no (w1.at 0 rfl) rfl rfl rfl (Nat.le_of_ble_eq_true rfl) ⟨by decide, by decide⟩ ⟨by decide, by decide⟩ (c_X9_no hst w1 _) (fun A4 hQ4 => ?_)
    skip
    refine J_ireturn dX9_nextOpponentOf_18 rfl rfl (by decide) (by decide) ?_
    have e1 : (aNxt nw nb (fS S P) w) = (1, 0) := by unfold aNxt; rw [if_neg kh10]
    unfold rdA
    rw [e1]
    exact ⟨rfl, rfl, _, (mS.s0 (mS.s0 mS.rf)), rfl, hQ4.1, (s1.trans hQ4.2)⟩
theorem gt_le {x : Int32} : ¬ x ≤ 0 ↔ x > 0 := Int32.not_le
set_option maxHeartbeats 1000000 in
theorem c_X9_nextRematches (hst : l.stackTraces = false) (hM : xx_w bm (layM bp vL bn ba bm M) A) (hN : xx_w bp (layN nl bp P) A) (hS : xx_w bn (layS bn S) A) (hap : apR bm bp bn) (hok : okF (fS S P) nw nb r)  : xx_C G l yX9_nextRematches mX9_nextRematches 7 165 0 0 [.ref bm] A n (rdA bm bp bn ba n vL M A (aRem nw nb (fS S P))) := by
  have hn : P.1 0 = nI nw := hok.1.1
  have h12 := hok.1.2
  have hb : S.1 1 = nI nb := hok.2.1.1
  have h6 := hok.2.1.2
  refine J_C hst (by decide +kernel) rfl rfl rfl (Nat.le_of_ble_eq_true rfl) ?_
  show xx_J _ _ _ _ _ _ _ _ 0 [(0, _)] [] _ _ _ _
  refine J_aload_n dX9_nextRematches_0 rfl rfl ?_
  refine J_iconst (v := 0) dX9_nextRematches_1 (by decide) ?_
  refine J_putf dX9_nextRematches_2 fp_X9_62 (fun _ => ⟨rfl, rfl⟩) (hM.at 0 rfl) (Nat.le_of_ble_eq_true rfl) ?_
  refine J_genA (wM_s0_0 hM _) ((xx_mf.rf (bm := bm)).put (by omega) (by omega) _) (fun A1 w1 s1 o1 => ?_)
  have w1N := hN.mo o1 (m := 9) rfl hap.p (Or.inl rfl)
  have w1S := hS.mo o1 (m := 14) rfl hap.s (Or.inl rfl)
  refine J_aload_n dX9_nextRematches_5 rfl rfl ?_
  refine J_aload_n dX9_nextRematches_6 rfl rfl ?_
  refine J_getf dX9_nextRematches_7 fl_X9_40 (w1.at 0 rfl) rfl ?_
  refine J_callVr (As := [_]) dX9_nextRematches_10 ml_X9_213 cal_X9_canPair im_X9_canPair se_X9_canPair (w1.at 0 rfl) rfl rfl rfl (Nat.le_of_ble_eq_true rfl) ⟨by decide, by decide⟩ ⟨by decide, by decide⟩ (c_X9_canPair hst w1 w1N w1S hn h12 hb h6) ?_
  refine J_ifb_ne (tgt := 22) dX9_nextRematches_13 rfl (fun h13 => ?_) (fun h13 => ?_)
  · have kh13 : (canB (fS S P) nw nb = true) := canB_i.mpr h13
    refine J_aload_n dX9_nextRematches_22 rfl rfl ?_
    refine J_aload_n dX9_nextRematches_23 rfl rfl ?_
    refine J_getf dX9_nextRematches_24 fl_X9_40 (w1.at 0 rfl) rfl ?_
    refine J_callVw (As := [_]) dX9_nextRematches_27 ml_X9_148 cal_X9_pairs im_X9_pairs se_X9_pairs (w1.at 0 rfl) rfl rfl rfl (Nat.le_of_ble_eq_true rfl) ⟨by decide, by decide⟩ ⟨by decide, by decide⟩ (c_X9_pairs hst w1 w1N w1S hap hn h12 hok.bd (lsF_ok (fS S P) nw)) (fun A2 hQ2 => ?_)
    obtain ⟨Mp, scp, h15p, hpq, hMp, hsp⟩ := hQ2
    have hNp := w1N.mf hsp (m := 9) rfl hap.p
    have hSp := w1S.mf hsp (m := 14) rfl hap.s
    have hpp := prs_ok (F := fS S P) h12
    refine J_istore_n (L' := [(1, _), (0, _)]) dX9_nextRematches_30 rfl (by decide) rfl ?_
    refine J_iconst (v := 0) dX9_nextRematches_31 (by decide) ?_
    refine J_istore_n (L' := [(2, _), (1, _), (0, _)]) dX9_nextRematches_32 rfl (by decide) rfl ?_
    refine J_iconst (v := 0) dX9_nextRematches_33 (by decide) ?_
    refine J_istore_n (L' := [(3, _), (2, _), (1, _), (0, _)]) dX9_nextRematches_34 rfl (by decide) rfl ?_
    have loop : ∀ i, i ≤ (npF (fS S P) nw) → ∀ (x c : Int32) , (x = nI i) → (c = rmN (fS S P) (p1F (fS S P) nw) (p2F (fS S P) nw) i) → xx_J G l mX9_nextRematches 7 165 0 0 (rdA bm bp bn ba n vL M A (aRem nw nb (fS S P))) 35 [(3, .int x), (2, .int c), (1, .int (nI (npF (fS S P) nw))), (0, .ref bm)] [] A2 n 0 0 := by
      refine xx_dn ?_ ?_
      · intro x c   hx hc
        have hp6 := hpp.1.1
        have ex : x.toInt = (npF (fS S P) nw) := by rw [hx]; exact i_n (by omega)
        have ey : (nI (npF (fS S P) nw)).toInt = (npF (fS S P) nw) := i_n (by have := hpp.1.1; omega)
        have hp6 := hpp.1.1
        refine J_iload_n dX9_nextRematches_35 rfl rfl ?_
        refine J_iload_n dX9_nextRematches_36 rfl rfl ?_
        refine J_icmp_ge (tgt := 76) dX9_nextRematches_37 rfl (fun h37 => ?_) (fun h37 => ?_)
        · refine J_iload_n dX9_nextRematches_76 rfl rfl ?_
          refine J_ireturn dX9_nextRematches_77 rfl rfl (by decide) (by decide) ?_
          have e1 : aRem nw nb (fS S P) = (0, rmN (fS S P) (p1F (fS S P) nw) (p2F (fS S P) nw) (npF (fS S P) nw)) := by unfold aRem; rw [if_pos kh13]
          unfold rdA
          rw [e1]
          exact ⟨by rw [hc], rfl, _, ((mS.s0 mS.rf).trans scp.mS), (scp.1 0 (by decide)), hMp, (s1.trans hsp)⟩
        · first | (exfalso; simp only [i_lt, i_le, i_eq, i_0, i_1, i_2, i_3, i_4, i_5, i_6, i_8, i_9, i_10, i_12, i_16, i_20, i_m1, i_400, i_2000] at h37; omega) | (exfalso; simp only [s_up, a_up, va_up, i_lt, i_le, i_eq, i_0, i_1, i_2, i_3, i_4, i_5, i_6, i_8, i_9, i_10, i_12, i_16, i_20, i_m1, i_400, i_2000, ↓reduceIte, Nat.reduceEqDiff] at h37; omega)
      · intro i hii ih x c   hx hc
        have hp6 := hpp.1.1
        have ex : x.toInt = i := by rw [hx]; exact i_n (by omega)
        have ey : (nI (npF (fS S P) nw)).toInt = (npF (fS S P) nw) := i_n (by have := hpp.1.1; omega)
        have hp6 := hpp.1.1
        have g1 := hpp.1.2 i hii
        refine J_iload_n dX9_nextRematches_35 rfl rfl ?_
        refine J_iload_n dX9_nextRematches_36 rfl rfl ?_
        refine J_icmp_ge (tgt := 76) dX9_nextRematches_37 rfl (fun h37 => ?_) (fun h37 => ?_)
        · first | (exfalso; simp only [i_lt, i_le, i_eq, i_0, i_1, i_2, i_3, i_4, i_5, i_6, i_8, i_9, i_10, i_12, i_16, i_20, i_m1, i_400, i_2000] at h37; omega) | (exfalso; simp only [s_up, a_up, va_up, i_lt, i_le, i_eq, i_0, i_1, i_2, i_3, i_4, i_5, i_6, i_8, i_9, i_10, i_12, i_16, i_20, i_m1, i_400, i_2000, ↓reduceIte, Nat.reduceEqDiff] at h37; omega)
        · refine J_iload_n dX9_nextRematches_40 rfl rfl ?_
          refine J_aload_n dX9_nextRematches_41 rfl rfl ?_
          refine J_getf dX9_nextRematches_42 fl_X9_40 (hMp.at 0 rfl) rfl ?_
          refine J_aload_n dX9_nextRematches_45 rfl rfl ?_
          refine J_getf dX9_nextRematches_46 fl_X9_53 (hMp.at 0 rfl) rfl ?_
          refine J_iload_n dX9_nextRematches_49 rfl rfl ?_
          refine J_ialdN i dX9_nextRematches_50 (hMp.at 8 rfl) hx (by omega) (by decide) ?_
          refine J_aload_n dX9_nextRematches_51 rfl rfl ?_
          refine J_getf dX9_nextRematches_52 fl_X9_56 (hMp.at 0 rfl) rfl ?_
          refine J_iload_n dX9_nextRematches_55 rfl rfl ?_
          refine J_ialdN i dX9_nextRematches_56 (hMp.at 9 rfl) hx (by omega) (by decide) ?_
          refine J_callVr (As := [_, _]) dX9_nextRematches_57 ml_X9_72 cal_X8_met im_X8_met se_X8_met (hSp.at 0 rfl) rfl rfl rfl (Nat.le_of_ble_eq_true rfl) ⟨by decide, by decide⟩ ⟨by decide, by decide⟩ (c_X8_met hst hSp (hpq i hii).1 (by show p1F (fS S P) nw i < 12; omega) (hpq i hii).2 (by show p2F (fS S P) nw i < 12; omega)) ?_
          refine J_if_le (tgt := 67) dX9_nextRematches_60 rfl (fun h60 => ?_) (fun h60 => ?_)
          · have g60 : ¬ S.2 10 (p1F (fS S P) nw i * 12 + p2F (fS S P) nw i) > 0 := Int32.not_lt.mpr h60
            refine J_iconst (v := 0) dX9_nextRematches_67 (by decide) ?_
            refine J_iadd dX9_nextRematches_68 ?_
            refine J_istore_n (L' := [(2, _), (3, _), (1, _), (0, _)]) dX9_nextRematches_69 rfl (by decide) rfl ?_
            refine J_iinc (v := _ + 1) (L' := [(3, _), (2, _), (1, _), (0, _)]) dX9_nextRematches_70 rfl rfl (by decide) rfl ?_
            refine J_goto (tgt := 35) dX9_nextRematches_73 rfl ?_
            refine xx_J.pick [0, 1, 2, 3] rfl ?_
            exact ih _ _  (by rw [hx]; exact nI_1 i) (by rw [hc]; show _ = rmN (fS S P) (p1F (fS S P) nw) (p2F (fS S P) nw) i + (if S.2 10 (p1F (fS S P) nw i * 12 + p2F (fS S P) nw i) > 0 then 1 else 0); first | rw [if_pos g60] | rw [if_neg g60])
          · have g60 : S.2 10 (p1F (fS S P) nw i * 12 + p2F (fS S P) nw i) > 0 := Int32.not_le.mp h60
            refine J_iconst (v := 1) dX9_nextRematches_63 (by decide) ?_
            refine J_goto (tgt := 68) dX9_nextRematches_64 rfl ?_
            refine J_iadd dX9_nextRematches_68 ?_
            refine J_istore_n (L' := [(2, _), (3, _), (1, _), (0, _)]) dX9_nextRematches_69 rfl (by decide) rfl ?_
            refine J_iinc (v := _ + 1) (L' := [(3, _), (2, _), (1, _), (0, _)]) dX9_nextRematches_70 rfl rfl (by decide) rfl ?_
            refine J_goto (tgt := 35) dX9_nextRematches_73 rfl ?_
            refine xx_J.pick [0, 1, 2, 3] rfl ?_
            exact ih _ _  (by rw [hx]; exact nI_1 i) (by rw [hc]; show _ = rmN (fS S P) (p1F (fS S P) nw) (p2F (fS S P) nw) i + (if S.2 10 (p1F (fS S P) nw i * 12 + p2F (fS S P) nw i) > 0 then 1 else 0); first | rw [if_pos g60] | rw [if_neg g60])
    refine xx_J.pick [0, 1, 2, 3] rfl ?_
    exact loop 0 (by omega) _ _  rfl rfl
  · have kh13 : ¬ (canB (fS S P) nw nb = true) := fun z => h13 (canB_i.mp z)
    refine J_aload_n dX9_nextRematches_16 rfl rfl ?_
    refine J_iconst (v := 1) dX9_nextRematches_17 (by decide) ?_
    refine J_callVw (As := [_]) dX9_nextRematches_18 ml_X9_393 cal_X9_no im_X9_no se_X9_no (w1.at 0 rfl) rfl rfl rfl (Nat.le_of_ble_eq_true rfl) ⟨by decide, by decide⟩ ⟨by decide, by decide⟩ (c_X9_no hst w1 _) (fun A3 hQ3 => ?_)
    skip
    refine J_ireturn dX9_nextRematches_21 rfl rfl (by decide) (by decide) ?_
    have e1 : (aRem nw nb (fS S P)) = (1, 0) := by unfold aRem; rw [if_neg kh13]
    unfold rdA
    rw [e1]
    exact ⟨rfl, rfl, _, (mS.s0 (mS.s0 mS.rf)), rfl, hQ3.1, (s1.trans hQ3.2)⟩
set_option maxHeartbeats 1000000 in
theorem c_X9_leaderAfter (hst : l.stackTraces = false) (hM : xx_w bm (layM bp vL bn ba bm M) A) (hN : xx_w bp (layN nl bp P) A) (hS : xx_w bn (layS bn S) A) (hap : apR bm bp bn) (hok : okF (fS S P) nw nb r) (hS2 : xx_w ba (layS ba S1) A) (hapa : apR bm bp ba) (hna : bn + 14 ≤ ba ∨ ba + 14 ≤ bn) (hz : ∀ i, i < 12 → S.2 9 i = 0 ∨ S.2 9 i = 1) {nr : Nat} (hpl : plV P nr) (hru : ∀ S i j, i < nw → j < nw → outR S P i j nr 0 = ru (fS S P) i j) (hrv : ∀ F i j, ru F i j = 0 ∨ ru F i j = 1 ∨ ru F i j = 2) (hrc : ∀ nb F F' i j, eqF nw nb F F' → i < nw → j < nw → ru F i j = ru F' i j) (w : Int32) : xx_C G l yX9_leaderAfter mX9_leaderAfter 9 213 0 0 [.ref bm, .int w] A n (ahA bm bp bn ba n vL nl M P S A (aLead ru nw nb (fS S P) w)) := by
  have hn : P.1 0 = nI nw := hok.1.1
  have h12 := hok.1.2
  have hb : S.1 1 = nI nb := hok.2.1.1
  have h6 := hok.2.1.2
  refine J_C hst (by decide +kernel) rfl rfl rfl (Nat.le_of_ble_eq_true rfl) ?_
  show xx_J _ _ _ _ _ _ _ _ 0 [(0, _), (1, _)] [] _ _ _ _
  refine J_aload_n dX9_leaderAfter_0 rfl rfl ?_
  refine J_iconst (v := 0) dX9_leaderAfter_1 (by decide) ?_
  refine J_putf dX9_leaderAfter_2 fp_X9_62 (fun _ => ⟨rfl, rfl⟩) (hM.at 0 rfl) (Nat.le_of_ble_eq_true rfl) ?_
  refine J_genA (wM_s0_0 hM _) ((xx_rf.rf (bm := bm) (bs := ba)).put (by omega) (by omega) _) (fun A1 w1 s1 o1 => ?_)
  have w1N := hN.mo o1 (m := 9) rfl hap.p (Or.inl rfl)
  have w1S := hS.mo o1 (m := 14) rfl hap.s (Or.inl rfl)
  have w1S2 := hS2.mo o1 (m := 14) rfl hapa.s (Or.inl rfl)
  refine J_iload_n dX9_leaderAfter_5 rfl rfl ?_
  refine J_iconst (v := 1) dX9_leaderAfter_6 (by decide) ?_
  refine J_bipush (v := 10) dX9_leaderAfter_7 (by decide) ?_
  refine J_callSr (As := [_, _, _]) dX9_leaderAfter_9 ml_X9_68 cal_X9_isIn sm_X9_isIn rfl rfl (Nat.le_of_ble_eq_true rfl) ⟨by decide, by decide⟩ ⟨by decide, by decide⟩ (c_X9_isIn hst _ _ _) ?_
  refine J_ifb_ne (tgt := 21) dX9_leaderAfter_12 rfl (fun hc12 => ?_) (fun hc12 => ?_)
  · refine J_aload_n dX9_leaderAfter_21 rfl rfl ?_
    refine J_getf dX9_leaderAfter_22 fl_X9_20 (w1.at 0 rfl) rfl ?_
    refine J_getf dX9_leaderAfter_25 fl_X9_65 (w1N.at 0 rfl) rfl ?_
    refine J_if_ne (tgt := 37) dX9_leaderAfter_28 rfl (fun h28 => ?_) (fun h28 => ?_)
    · have hnw0 : 0 < nw := Nat.pos_of_ne_zero (fun z => h28 (by rw [hn, z]; rfl))
      refine J_aload_n dX9_leaderAfter_37 rfl rfl ?_
      refine J_iload_n dX9_leaderAfter_38 rfl rfl ?_
      refine J_callVw (As := [_]) dX9_leaderAfter_39 ml_X9_419 cal_X9_goAhead im_X9_goAhead se_X9_goAhead (w1.at 0 rfl) rfl rfl rfl (Nat.le_of_ble_eq_true rfl) ⟨by decide, by decide⟩ ⟨by decide, by decide⟩ (c_X9_goAhead hst w1 w1N w1S w1S2 hap hapa hna hn h12 hpl hru hrv hok hz (m := wi w) (r10 hc12).1 (r10 hc12).2) (fun A2 hQ2 => ?_)
      obtain ⟨Mg, Sg, scg, hMg, hNg, hSg, hS2g, hsg, hFg⟩ := hQ2
      have hokb : okF (fS (becF S1 S) P) nw nb r := (bec_eq h12 h6).symm.ok hok
      obtain ⟨nbg, rg, heg, hokg⟩ := ga_eq (ru := ru) (ru' := ru) hrv hrc (bec_eq (S := S1) (P := P) (O := S) h12 h6) hokb (wi w)
      have heg2 : eqF nw nbg (fS Sg P) (gaF ru nw nb (wi w) (fS S P)) := by rw [hFg]; exact heg
      have hokg2 : okF (fS Sg P) nw nbg rg := by rw [hFg]; exact hokg
      refine J_aload_n dX9_leaderAfter_42 rfl rfl ?_
      refine J_aload_n dX9_leaderAfter_43 rfl rfl ?_
      refine J_getf dX9_leaderAfter_44 fl_X9_44 (hMg.at 0 rfl) rfl ?_
      refine J_iconst (v := 0) dX9_leaderAfter_47 (by decide) ?_
      refine J_callVr (As := [_, _]) dX9_leaderAfter_48 ml_X9_111 cal_X9_at im_X9_at se_X9_at (hMg.at 0 rfl) rfl rfl rfl (Nat.le_of_ble_eq_true rfl) ⟨by decide, by decide⟩ ⟨by decide, by decide⟩ (c_X9_at (S := Sg) (bs := ba) hst hMg hNg hS2g hn h12 hokg2.bd (lsF_ok (fS Sg P) nw) (r := 0) rfl hnw0) ?_
      refine J_ireturn dX9_leaderAfter_51 rfl rfl (by decide) (by decide) ?_
      have e1 : (aLead ru nw nb (fS S P) w) = (0, nI ((lsF (gaF ru nw nb (wi w) (fS S P)) nw).getD 0 0)) := by unfold aLead; rw [if_pos hc12, if_neg (show ¬ (fS S P).1 0 = 0 from h28)]
      unfold ahA
      rw [e1]
      exact ⟨by rw [heg2.ls], rfl, _, _, ((mS.s0 mS.rf).trans scg.mS), (scg.1 0 (by decide)), hMg, hNg, hSg, hS2g, (s1.trans hsg)⟩
    · refine J_aload_n dX9_leaderAfter_31 rfl rfl ?_
      refine J_iconst (v := 2) dX9_leaderAfter_32 (by decide) ?_
      refine J_callVw (As := [_]) dX9_leaderAfter_33 ml_X9_393 cal_X9_no im_X9_no se_X9_no (w1.at 0 rfl) rfl rfl rfl (Nat.le_of_ble_eq_true rfl) ⟨by decide, by decide⟩ ⟨by decide, by decide⟩ (c_X9_no hst w1 _) (fun A3 hQ3 => ?_)
      skip
      refine J_ireturn dX9_leaderAfter_36 rfl rfl (by decide) (by decide) ?_
      have e1 : (aLead ru nw nb (fS S P) w) = (2, 0) := by unfold aLead; rw [if_pos hc12, if_pos (show (fS S P).1 0 = 0 from h28)]
      unfold ahA
      rw [e1]
      exact ⟨rfl, rfl, _, _, (mS.s0 (mS.s0 mS.rf)), rfl, hQ3.1, (w1N.mf hQ3.2 (m := 9) rfl hap.p), (w1S.mf hQ3.2 (m := 14) rfl hap.s), (w1S2.mf hQ3.2 (m := 14) rfl hapa.s), (s1.trans hQ3.2.toR)⟩
  · refine J_aload_n dX9_leaderAfter_15 rfl rfl ?_
    refine J_iconst (v := 1) dX9_leaderAfter_16 (by decide) ?_
    refine J_callVw (As := [_]) dX9_leaderAfter_17 ml_X9_393 cal_X9_no im_X9_no se_X9_no (w1.at 0 rfl) rfl rfl rfl (Nat.le_of_ble_eq_true rfl) ⟨by decide, by decide⟩ ⟨by decide, by decide⟩ (c_X9_no hst w1 _) (fun A4 hQ4 => ?_)
    skip
    refine J_ireturn dX9_leaderAfter_20 rfl rfl (by decide) (by decide) ?_
    have e1 : (aLead ru nw nb (fS S P) w) = (1, 0) := by unfold aLead; rw [if_neg hc12]
    unfold ahA
    rw [e1]
    exact ⟨rfl, rfl, _, _, (mS.s0 (mS.s0 mS.rf)), rfl, hQ4.1, (w1N.mf hQ4.2 (m := 9) rfl hap.p), (w1S.mf hQ4.2 (m := 14) rfl hap.s), (w1S2.mf hQ4.2 (m := 14) rfl hapa.s), (s1.trans hQ4.2.toR)⟩
set_option maxHeartbeats 1000000 in
theorem c_X9_pointsAfter (hst : l.stackTraces = false) (hM : xx_w bm (layM bp vL bn ba bm M) A) (hN : xx_w bp (layN nl bp P) A) (hS : xx_w bn (layS bn S) A) (hap : apR bm bp bn) (hok : okF (fS S P) nw nb r) (hS2 : xx_w ba (layS ba S1) A) (hapa : apR bm bp ba) (hna : bn + 14 ≤ ba ∨ ba + 14 ≤ bn) (hz : ∀ i, i < 12 → S.2 9 i = 0 ∨ S.2 9 i = 1) {nr : Nat} (hpl : plV P nr) (hru : ∀ S i j, i < nw → j < nw → outR S P i j nr 0 = ru (fS S P) i j) (hrv : ∀ F i j, ru F i j = 0 ∨ ru F i j = 1 ∨ ru F i j = 2) (hrc : ∀ nb F F' i j, eqF nw nb F F' → i < nw → j < nw → ru F i j = ru F' i j) (w v : Int32) : xx_C G l yX9_pointsAfter mX9_pointsAfter 9 213 0 0 [.ref bm, .int w, .int v] A n (ahA bm bp bn ba n vL nl M P S A (aPtA ru nw nb (fS S P) w v)) := by
  have hn : P.1 0 = nI nw := hok.1.1
  have h12 := hok.1.2
  have hb : S.1 1 = nI nb := hok.2.1.1
  have h6 := hok.2.1.2
  refine J_C hst (by decide +kernel) rfl rfl rfl (Nat.le_of_ble_eq_true rfl) ?_
  show xx_J _ _ _ _ _ _ _ _ 0 [(0, _), (1, _), (2, _)] [] _ _ _ _
  refine J_aload_n dX9_pointsAfter_0 rfl rfl ?_
  refine J_iconst (v := 0) dX9_pointsAfter_1 (by decide) ?_
  refine J_putf dX9_pointsAfter_2 fp_X9_62 (fun _ => ⟨rfl, rfl⟩) (hM.at 0 rfl) (Nat.le_of_ble_eq_true rfl) ?_
  refine J_genA (wM_s0_0 hM _) ((xx_rf.rf (bm := bm) (bs := ba)).put (by omega) (by omega) _) (fun A1 w1 s1 o1 => ?_)
  have w1N := hN.mo o1 (m := 9) rfl hap.p (Or.inl rfl)
  have w1S := hS.mo o1 (m := 14) rfl hap.s (Or.inl rfl)
  have w1S2 := hS2.mo o1 (m := 14) rfl hapa.s (Or.inl rfl)
  refine J_aload_n dX9_pointsAfter_5 rfl rfl ?_
  refine J_iload_n dX9_pointsAfter_6 rfl rfl ?_
  refine J_callVr (As := [_]) dX9_pointsAfter_7 ml_X9_403 cal_X9_isOne im_X9_isOne se_X9_isOne (w1.at 0 rfl) rfl rfl rfl (Nat.le_of_ble_eq_true rfl) ⟨by decide, by decide⟩ ⟨by decide, by decide⟩ (c_X9_isOne hst w1 w1N hn h12 _) ?_
  refine J_ifb_ne (tgt := 19) dX9_pointsAfter_10 rfl (fun h10 => ?_) (fun h10 => ?_)
  · have kh10 : (okW (fS S P) w) := h10
    obtain ⟨ex10, ei10⟩ := kh10.i hn h12
    refine J_iload_n dX9_pointsAfter_19 rfl rfl ?_
    refine J_iconst (v := 1) dX9_pointsAfter_20 (by decide) ?_
    refine J_bipush (v := 10) dX9_pointsAfter_21 (by decide) ?_
    refine J_callSr (As := [_, _, _]) dX9_pointsAfter_23 ml_X9_68 cal_X9_isIn sm_X9_isIn rfl rfl (Nat.le_of_ble_eq_true rfl) ⟨by decide, by decide⟩ ⟨by decide, by decide⟩ (c_X9_isIn hst _ _ _) ?_
    refine J_ifb_ne (tgt := 35) dX9_pointsAfter_26 rfl (fun h26 => ?_) (fun h26 => ?_)
    · refine J_aload_n dX9_pointsAfter_35 rfl rfl ?_
      refine J_iload_n dX9_pointsAfter_36 rfl rfl ?_
      refine J_callVw (As := [_]) dX9_pointsAfter_37 ml_X9_419 cal_X9_goAhead im_X9_goAhead se_X9_goAhead (w1.at 0 rfl) rfl rfl rfl (Nat.le_of_ble_eq_true rfl) ⟨by decide, by decide⟩ ⟨by decide, by decide⟩ (c_X9_goAhead hst w1 w1N w1S w1S2 hap hapa hna hn h12 hpl hru hrv hok hz (m := wi v) (r10 h26).1 (r10 h26).2) (fun A2 hQ2 => ?_)
      obtain ⟨Mg, Sg, scg, hMg, hNg, hSg, hS2g, hsg, hFg⟩ := hQ2
      have hokb : okF (fS (becF S1 S) P) nw nb r := (bec_eq h12 h6).symm.ok hok
      obtain ⟨nbg, rg, heg, hokg⟩ := ga_eq (ru := ru) (ru' := ru) hrv hrc (bec_eq (S := S1) (P := P) (O := S) h12 h6) hokb (wi v)
      have heg2 : eqF nw nbg (fS Sg P) (gaF ru nw nb (wi v) (fS S P)) := by rw [hFg]; exact heg
      have hokg2 : okF (fS Sg P) nw nbg rg := by rw [hFg]; exact hokg
      refine J_aload_n dX9_pointsAfter_40 rfl rfl ?_
      refine J_getf dX9_pointsAfter_41 fl_X9_44 (hMg.at 0 rfl) rfl ?_
      refine J_getf dX9_pointsAfter_44 fl_X9_76 (hS2g.at 0 rfl) rfl ?_
      refine J_iload_n dX9_pointsAfter_47 rfl rfl ?_
      refine J_ialdN (wi w) dX9_pointsAfter_48 (hS2g.at 1 rfl) ex10 (by omega) (by decide) ?_
      refine J_ireturn dX9_pointsAfter_49 rfl rfl (by decide) (by decide) ?_
      have e1 : (aPtA ru nw nb (fS S P) w v) = (0, (gaF ru nw nb (wi v) (fS S P)).2 2 (1 * 12 + wi w)) := by unfold aPtA; rw [if_pos kh10, if_pos h26]
      unfold ahA
      rw [e1]
      exact ⟨by rw [← heg2.2.2.1 1 (wi w) (by decide) ei10, fS_c (by omega)]; rfl, rfl, _, _, ((mS.s0 mS.rf).trans scg.mS), (scg.1 0 (by decide)), hMg, hNg, hSg, hS2g, (s1.trans hsg)⟩
    · refine J_aload_n dX9_pointsAfter_29 rfl rfl ?_
      refine J_iconst (v := 2) dX9_pointsAfter_30 (by decide) ?_
      refine J_callVw (As := [_]) dX9_pointsAfter_31 ml_X9_393 cal_X9_no im_X9_no se_X9_no (w1.at 0 rfl) rfl rfl rfl (Nat.le_of_ble_eq_true rfl) ⟨by decide, by decide⟩ ⟨by decide, by decide⟩ (c_X9_no hst w1 _) (fun A3 hQ3 => ?_)
      skip
      refine J_ireturn dX9_pointsAfter_34 rfl rfl (by decide) (by decide) ?_
      have e1 : (aPtA ru nw nb (fS S P) w v) = (2, 0) := by unfold aPtA; rw [if_pos kh10, if_neg h26]
      unfold ahA
      rw [e1]
      exact ⟨rfl, rfl, _, _, (mS.s0 (mS.s0 mS.rf)), rfl, hQ3.1, (w1N.mf hQ3.2 (m := 9) rfl hap.p), (w1S.mf hQ3.2 (m := 14) rfl hap.s), (w1S2.mf hQ3.2 (m := 14) rfl hapa.s), (s1.trans hQ3.2.toR)⟩
  · have kh10 : ¬ (okW (fS S P) w) := h10
    refine J_aload_n dX9_pointsAfter_13 rfl rfl ?_
    refine J_iconst (v := 1) dX9_pointsAfter_14 (by decide) ?_
    refine J_callVw (As := [_]) dX9_pointsAfter_15 ml_X9_393 cal_X9_no im_X9_no se_X9_no (w1.at 0 rfl) rfl rfl rfl (Nat.le_of_ble_eq_true rfl) ⟨by decide, by decide⟩ ⟨by decide, by decide⟩ (c_X9_no hst w1 _) (fun A4 hQ4 => ?_)
    skip
    refine J_ireturn dX9_pointsAfter_18 rfl rfl (by decide) (by decide) ?_
    have e1 : (aPtA ru nw nb (fS S P) w v) = (1, 0) := by unfold aPtA; rw [if_neg kh10]
    unfold ahA
    rw [e1]
    exact ⟨rfl, rfl, _, _, (mS.s0 (mS.s0 mS.rf)), rfl, hQ4.1, (w1N.mf hQ4.2 (m := 9) rfl hap.p), (w1S.mf hQ4.2 (m := 14) rfl hap.s), (w1S2.mf hQ4.2 (m := 14) rfl hapa.s), (s1.trans hQ4.2.toR)⟩
/-- trim: what it answers, and the tape behind it -/
def aTrim (len : Nat) (w : Int32) : Ans := if 0 ≤ w ∧ w ≤ nI len then (0, w) else (1, 0)
def nTrim (len : Nat) (w : Int32) : Nat := if 0 ≤ w ∧ w ≤ nI len then wi w else len
theorem trim_i {w : Int32} (h20 : len ≤ 2000) (h : 0 ≤ w ∧ w ≤ nI len) : w = nI (wi w) ∧ wi w ≤ len := by
  have e0 : (0 : Int32).toInt = 0 := rfl
  rw [Int32.le_iff_toInt_le, Int32.le_iff_toInt_le, e0, i_n (by omega)] at h
  have hw : (wi w : Int) = w.toInt := by
    show ((w.toInt.toNat : Nat) : Int) = _
    omega
  refine ⟨?_, by omega⟩
  apply Int32.toInt_inj.mp
  rw [i_n (by omega)]
  exact hw.symm
theorem c_X9_trim (hst : l.stackTraces = false) (hM : xx_w bm (layM bp vL bn ba bm M) A) (hlen : M.1 2 = nI len) (h20 : len ≤ 2000) (w : Int32) : xx_C G l yX9_trim mX9_trim 1 22 0 0 [.ref bm, .int w] A n (xx_wr (some (.int (aTrim len w).2)) n (fun A' => ∃ M', (∀ q, ¬ (q = 0 ∨ q = 2) → M'.1 q = M.1 q) ∧ (∀ q, ¬ (43 ≤ q ∧ q ≤ 47) → M'.2 q = M.2 q) ∧ M'.1 0 = (aTrim len w).1 ∧ M'.1 2 = nI (nTrim len w) ∧ xx_w bm (layM bp vL bn ba bm M') A' ∧ xx_mf bm A A')) := by
  refine J_C hst (by decide +kernel) rfl rfl rfl (Nat.le_of_ble_eq_true rfl) ?_
  show xx_J _ _ _ _ _ _ _ _ 0 [(0, _), (1, _)] [] _ _ _ _
  refine J_aload_n dX9_trim_0 rfl rfl ?_
  refine J_iconst (v := 0) dX9_trim_1 (by decide) ?_
  refine J_putf dX9_trim_2 fp_X9_62 (fun _ => ⟨rfl, rfl⟩) (hM.at 0 rfl) (Nat.le_of_ble_eq_true rfl) ?_
  refine J_genA (wM_s0_0 hM _) ((xx_mf.rf (bm := bm)).put (by omega) (by omega) _) (fun A1 w1 s1 o1 => ?_)
  refine J_iload_n dX9_trim_5 rfl rfl ?_
  refine J_iconst (v := 0) dX9_trim_6 (by decide) ?_
  refine J_aload_n dX9_trim_7 rfl rfl ?_
  refine J_getf dX9_trim_8 fl_X9_259 (w1.at 0 rfl) rfl ?_
  refine J_callSr (As := [_, _, _]) dX9_trim_11 ml_X9_68 cal_X9_isIn sm_X9_isIn rfl rfl (Nat.le_of_ble_eq_true rfl) ⟨by decide, by decide⟩ ⟨by decide, by decide⟩ (c_X9_isIn hst _ _ _) ?_
  refine J_ifb_ne (tgt := 23) dX9_trim_14 rfl (fun h14 => ?_) (fun h14 => ?_)
  · have g14 : 0 ≤ w ∧ w ≤ nI len := by rw [← hlen]; exact h14
    refine J_aload_n dX9_trim_23 rfl rfl ?_
    refine J_iload_n dX9_trim_24 rfl rfl ?_
    refine J_putf dX9_trim_25 fp_X9_259 (fun _ => ⟨rfl, rfl⟩) (w1.at 0 rfl) (Nat.le_of_ble_eq_true rfl) ?_
    refine J_genA (wM_s0_2 w1 _) (s1.put (by omega) (by omega) _) (fun A2 w2 s2 o2 => ?_)
    refine J_iload_n dX9_trim_28 rfl rfl ?_
    refine J_ireturn dX9_trim_29 rfl rfl (by decide) (by decide) ?_
    have e1 : aTrim len w = (0, w) := if_pos g14
    have e2 : nTrim len w = wi w := if_pos g14
    rw [e1, e2]
    exact ⟨rfl, rfl, s_up (s_up M 0 0) 2 w, fun q hq => by show (s_up (s_up M 0 0) 2 w).1 q = _; rw [s_up_n (by omega), s_up_n (by omega)], fun q _ => rfl, rfl, (trim_i h20 g14).1, w2, s2⟩
  · have g14 : ¬ (0 ≤ w ∧ w ≤ nI len) := by rw [← hlen]; exact h14
    refine J_aload_n dX9_trim_17 rfl rfl ?_
    refine J_iconst (v := 1) dX9_trim_18 (by decide) ?_
    refine J_callVw (As := [_]) dX9_trim_19 ml_X9_393 cal_X9_no im_X9_no se_X9_no (w1.at 0 rfl) rfl rfl rfl (Nat.le_of_ble_eq_true rfl) ⟨by decide, by decide⟩ ⟨by decide, by decide⟩ (c_X9_no hst w1 _) (fun A3 hQ3 => ?_)
    skip
    refine J_ireturn dX9_trim_22 rfl rfl (by decide) (by decide) ?_
    have e1 : aTrim len w = (1, 0) := if_neg g14
    have e2 : nTrim len w = len := if_neg g14
    rw [e1, e2]
    exact ⟨rfl, rfl, s_up (s_up M 0 0) 0 1, fun q hq => by show (s_up (s_up M 0 0) 0 1).1 q = _; rw [s_up_n (by omega), s_up_n (by omega)], fun q _ => rfl, rfl, hlen, hQ3.1, (s1.trans hQ3.2)⟩
end XSQ
