/-! ROUNDS AHEAD; THE REFERENCE: goAhead -/
section XSA
variable {G : xx_G} {l : Launch} {A A' : xx_H} {n : Nat} {bm bp bs bn ba : Nat} {vL nl : Nat → Int64} {M M' M1 P S S1 : xS} {F F' : xS} {nw nb r : Nat}
def canB (F : xS) (nw nb : Nat) : Bool := decide (bx_sum (opn (F.2 6)) nb = 0 ∧ F.1 1 < 20 ∧ ¬ bx_sum (fun w => F.2 2 (8 * 12 + w)) nw < 2)
noncomputable def roundF (F : xS) (nw : Nat) : xS := startRoundF F (pX (npF F nw) (rsF F nw)) (p1F F nw) (p2F F nw) (npF F nw)
noncomputable def gaP (ru : xS → Nat → Nat → Int32) (nw : Nat) : Nat → xS → Nat → xS × Nat
  | 0, F, nb => (F, nb)
  | d + 1, F, nb => if canB F nw nb = true then gaP ru nw d (tlP ru (npF F nw) 0 (roundF F nw) 0).1 (npF F nw) else (F, nb)
theorem gaP_s {ru : xS → Nat → Nat → Int32} {t k : Nat} (h : k < t) : gaP ru nw (t - k) F nb = if canB F nw nb = true then gaP ru nw (t - (k + 1)) (tlP ru (npF F nw) 0 (roundF F nw) 0).1 (npF F nw) else (F, nb) := by
  rw [show t - k = (t - (k + 1)) + 1 by omega]
  rfl
theorem canB_i : canB F nw nb = true ↔ bx_sum (opn (F.2 6)) nb = 0 ∧ F.1 1 < 20 ∧ ¬ bx_sum (fun w => F.2 2 (8 * 12 + w)) nw < 2 := by
  unfold canB; rw [decide_eq_true_iff]
theorem opn_congr (h : ∀ q, q < nb → F.2 6 q = F'.2 6 q) : bx_sum (opn (F.2 6)) nb = bx_sum (opn (F'.2 6)) nb := bx_congr nb fun q hq => by unfold opn; rw [h q hq]
theorem eqF.can (h : eqF nw nb F F') : canB F nw nb = canB F' nw nb := by
  unfold canB
  rw [opn_congr fun q hq => (h.2.2.2.2 q hq).2.2, h.1.2.1, h.sum (by decide)]
theorem prs_ok (h12 : nw ≤ 12) : prV (p1F F nw) (p2F F nw) (npF F nw) nw ∧ (rsF F nw = -1 ∨ ∃ w, w < nw ∧ rsF F nw = nI w) := by
  have hls := lsF_ok F nw
  have hk12 : fd_k F (lsF F nw) nw ≤ 12 := Nat.le_trans (rs_le _) (Nat.le_trans lup_len h12)
  refine ⟨⟨by unfold npF; omega, fun q hq => ?_⟩, ?_⟩
  · obtain ⟨a1, a2, a3⟩ := fd_prop hls h12 hq
    exact ⟨a1, a2, (fR_pts a3).2⟩
  · by_cases e : rsF F nw = -1
    · exact Or.inl e
    · obtain ⟨e1, e2⟩ := rsr_ok hls h12 e
      exact Or.inr ⟨_, e2, e1⟩
theorem okF.rnd (h : okF F nw nb r) (hc : canB F nw nb = true) : opN F nb = 0 ∧ r < 20 ∧ 0 < nw ∧ okF (roundF F nw) nw (npF F nw) (r + 1) := by
  obtain ⟨h1, h2, h3⟩ := canB_i.mp hc
  have ho : opN F nb = 0 := by
    rw [opN_sum, i_eq, i_0, i_n (by have := opN_le (F := F) nb; have := h.2.1.2; omega)] at h1
    omega
  have hr : r < 20 := by
    have hr2 := h.2.2.1.2
    rw [h.2.2.1.1, i_lt, i_n (by omega), i_20] at h2
    omega
  have h0 : 0 < nw := by
    rcases Nat.eq_zero_or_pos nw with e | e
    · subst e; exact absurd (by decide : (0 : Int32) < 2) h3
    · exact e
  obtain ⟨p1, p2⟩ := prs_ok (F := F) h.1.2
  exact ⟨ho, hr, h0, h.round ho hr p1 p2⟩
theorem okF.tla {ru : xS → Nat → Nat → Int32} (hru : ∀ F i j, ru F i j = 0 ∨ ru F i j = 1 ∨ ru F i j = 2) (h : okF F nw nb r) : okF (tlP ru nb 0 F 0).1 nw nb r ∧ opN (tlP ru nb 0 F 0).1 nb = 0 :=
  okF.tl hru nb 0 F 0 (by omega) (fun q hq => absurd hq (Nat.not_lt_zero q)) h
theorem okF.ga {ru : xS → Nat → Nat → Int32} (hru : ∀ F i j, ru F i j = 0 ∨ ru F i j = 1 ∨ ru F i j = 2) : ∀ m F nb r, okF F nw nb r → ∃ r', okF (gaP ru nw m F nb).1 nw (gaP ru nw m F nb).2 r' := by
  intro m
  induction m with
  | zero => intro F nb r h; exact ⟨r, h⟩
  | succ m ih =>
    intro F nb r h
    simp only [gaP]
    split
    · rename_i hc
      exact ih _ _ _ ((h.rnd hc).2.2.2.tla hru).1
    · exact ⟨r, h⟩
theorem eqF.ga {ru ru' : xS → Nat → Nat → Int32} (hrv : ∀ F i j, ru F i j = 0 ∨ ru F i j = 1 ∨ ru F i j = 2) (hru : ∀ nb F F' i j, eqF nw nb F F' → i < nw → j < nw → ru F i j = ru' F' i j) : ∀ m F F' nb r, eqF nw nb F F' → okF F nw nb r → (gaP ru nw m F nb).2 = (gaP ru' nw m F' nb).2 ∧ eqF nw (gaP ru nw m F nb).2 (gaP ru nw m F nb).1 (gaP ru' nw m F' nb).1 := by
  intro m
  induction m with
  | zero => intro F F' nb r h _; exact ⟨rfl, h⟩
  | succ m ih =>
    intro F F' nb r h k
    simp only [gaP]
    rw [← h.can]
    split
    · rename_i hc
      obtain ⟨h1, h2, h3, h4⟩ := k.rnd hc
      obtain ⟨e1, e2, e3, e4, -⟩ := h.pairs h3
      obtain ⟨p1, p2⟩ := prs_ok (F := F) k.1.2
      have er : eqF nw (npF F nw) (roundF F nw) (roundF F' nw) := by
        unfold roundF
        rw [← e1, ← e2, ← e3, ← e4]
        exact h.round k.1.2 p1 p2
      have et := eqF.tl (ru := ru) (ru' := ru') k.1.2 (hru (npF F nw)) (npF F nw) 0 _ _ 0 (by omega) er h4.2.2.2.2.2.2.1
      rw [← e1]
      exact ih _ _ _ _ et.1 (h4.tla hrv).1
    · exact ⟨rfl, h⟩
theorem cpa_lt {f g : Nat → Int32} {z : Int32} {n i : Nat} (hz : z.toNatClampNeg = n) (hi : i < n) : cpa f g z i = f i := by
  unfold cpa va_cpy
  rw [hz]
  have e0 : (0 : Int32).toNatClampNeg = 0 := rfl
  simp [e0, hi]
theorem bec_eq {O : xS} (h12 : nw ≤ 12) (h6 : nb ≤ 6) : eqF nw nb (fS (becF S O) P) (fS O P) := by
  refine ⟨⟨rfl, rfl, rfl, rfl⟩, fun _ _ => Or.inl rfl, fun c w hc hw => ?_, fun i j hi hj => ?_, fun q hq => ⟨?_, ?_, ?_⟩⟩
  · rw [fS_c (by omega), fS_c (by omega)]
    unfold cntS
    split <;> first | rfl | exact cpa_lt (n := 12) rfl (by omega) | (show (if (cpa _ _ _ w) = _ then (1 : Int32) else 0) = _; rw [cpa_lt (n := 12) rfl (by omega)])
  · exact cpa_lt (n := 144) rfl (by omega)
  · exact cpa_lt (n := 6) rfl (by omega)
  · exact cpa_lt (n := 6) rfl (by omega)
  · exact cpa_lt (n := 6) rfl (by omega)
set_option maxHeartbeats 4000000 in
theorem c_X9_goAhead (hst : l.stackTraces = false) (hM : xx_w bm (layM bp vL bn ba bm M) A) (hN : xx_w bp (layN nl bp P) A) (hS : xx_w bn (layS bn S) A) (hS2 : xx_w ba (layS ba S1) A) (hapn : apR bm bp bn) (hap : apR bm bp ba) (hna : bn + 14 ≤ ba ∨ ba + 14 ≤ bn) {nw : Nat} (hn : P.1 0 = nI nw) (h12 : nw ≤ 12) {nr : Nat} (hpl : plV P nr) {ru : xS → Nat → Nat → Int32} (hru : ∀ S i j, i < nw → j < nw → outR S P i j nr 0 = ru (fS S P) i j) (hrv : ∀ F i j, ru F i j = 0 ∨ ru F i j = 1 ∨ ru F i j = 2) {nb r : Nat} (hok : okF (fS S P) nw nb r) (hz : ∀ i, i < 12 → S.2 9 i = 0 ∨ S.2 9 i = 1) {m : Nat} {y : Int32} (hy : y = nI m) (hm : m ≤ 10) : xx_C G l yX9_goAhead mX9_goAhead 8 191 0 0 [.ref bm, .int y] A n (xx_wr none n (fun A' => ∃ M' S', scr M M' ∧ xx_w bm (layM bp vL bn ba bm M') A' ∧ xx_w bp (layN nl bp P) A' ∧ xx_w bn (layS bn S) A' ∧ xx_w ba (layS ba S') A' ∧ xx_rf bm ba A A' ∧ fS S' P = (gaP ru nw m (tlP ru nb 0 (fS (becF S1 S) P) 0).1 nb).1)) := by
  obtain ⟨hap1, hap2, hap3⟩ := id hap
  obtain ⟨hapn1, hapn2, hapn3⟩ := id hapn
  have hokb : okF (fS (becF S1 S) P) nw nb r := (bec_eq h12 hok.2.1.2).symm.ok hok
  refine J_C hst (by decide +kernel) rfl rfl rfl (Nat.le_of_ble_eq_true rfl) ?_
  show xx_J _ _ _ _ _ _ _ _ 0 [(0, _), (1, _)] [] _ _ _ _
  refine J_aload_n dX9_goAhead_0 rfl rfl ?_
  refine J_getf dX9_goAhead_1 fl_X9_44 (hM.at 0 rfl) rfl ?_
  refine J_aload_n dX9_goAhead_4 rfl rfl ?_
  refine J_getf dX9_goAhead_5 fl_X9_40 (hM.at 0 rfl) rfl ?_
  refine J_callVw (As := [_]) dX9_goAhead_8 ml_X9_207 cal_X8_become im_X8_become se_X8_become (hS2.at 0 rfl) rfl rfl rfl (Nat.le_of_ble_eq_true rfl) ⟨by decide, by decide⟩ ⟨by decide, by decide⟩ (c_X8_become hst hS2 hS (by omega) hz) (fun A1 hQ1 => ?_)
  have hMb := layM_sS hM hQ1.2 hap
  have hNb := hN.s2 hQ1.2 (m := 9) rfl (by omega)
  have hSb := hS.s2 hQ1.2 (m := 14) rfl (by omega)
  refine J_aload_n dX9_goAhead_11 rfl rfl ?_
  refine J_aload_n dX9_goAhead_12 rfl rfl ?_
  refine J_getf dX9_goAhead_13 fl_X9_44 (hMb.at 0 rfl) rfl ?_
  refine J_callVw (As := [_]) dX9_goAhead_16 ml_X9_210 cal_X9_tellAll im_X9_tellAll se_X9_tellAll (hMb.at 0 rfl) rfl rfl rfl (Nat.le_of_ble_eq_true rfl) ⟨by decide, by decide⟩ ⟨by decide, by decide⟩ (c_X9_tellAll (S := becF S1 S) (bs := ba) hst hMb hNb hQ1.1 hap h12 hpl hru hokb.2.1.1 hokb.2.1.2 hokb.2.2.2.2.2.2.1) (fun A2 hQ2 => ?_)
  obtain ⟨Ma, Sa, sca, hMa, hNa, hSa, hsa, hFa, -⟩ := hQ2
  have hSna := hSb.rs hsa (m := 14) rfl hna hapn.s
  refine J_pop dX9_goAhead_19 rfl ?_
  refine J_iconst (v := 0) dX9_goAhead_20 (by decide) ?_
  refine J_istore_n (L' := [(2, _), (0, _), (1, _)]) dX9_goAhead_21 rfl (by decide) rfl ?_
  have loop : ∀ k, k ≤ m → ∀ (x : Int32) (A1 : xx_H) (M1 Z1 : xS) (b1 r1 : Nat), (x = nI k) → (xx_w bm (layM bp vL bn ba bm M1) A1) → (xx_w bp (layN nl bp P) A1) → (xx_w bn (layS bn S) A1) → (xx_w ba (layS ba Z1) A1) → (xx_rf bm ba A A1) → (scr M M1) → (okF (fS Z1 P) nw b1 r1) → (gaP ru nw (m - k) (fS Z1 P) b1 = (gaP ru nw m (tlP ru nb 0 (fS (becF S1 S) P) 0).1 nb)) → xx_J G l mX9_goAhead 8 191 0 0 (xx_wr none n (fun A' => ∃ M' S', scr M M' ∧ xx_w bm (layM bp vL bn ba bm M') A' ∧ xx_w bp (layN nl bp P) A' ∧ xx_w bn (layS bn S) A' ∧ xx_w ba (layS ba S') A' ∧ xx_rf bm ba A A' ∧ fS S' P = (gaP ru nw m (tlP ru nb 0 (fS (becF S1 S) P) 0).1 nb).1)) 22 [(2, .int x), (0, .ref bm), (1, .int y)] [] A1 n 0 0 := by
    refine xx_dn ?_ ?_
    · intro x  A1  M1 Z1  b1 r1  hx hM1 hN1 hSn1 hS1 hs1 hsc hok1 hv
      have ex : x.toInt = m := by rw [hx]; exact i_n (by omega)
      have ey : y.toInt = m := by rw [hy]; exact i_n (by omega)
      refine J_iload_n dX9_goAhead_22 rfl rfl ?_
      refine J_iload_n dX9_goAhead_23 rfl rfl ?_
      refine J_icmp_ge (tgt := 61) dX9_goAhead_24 rfl (fun h24 => ?_) (fun h24 => ?_)
      · refine J_return dX9_goAhead_61 rfl (by decide) (by decide) ?_
        exact ⟨rfl, rfl, M1, Z1, hsc, hM1, hN1, hSn1, hS1, hs1, by rw [← hv, Nat.sub_self]; rfl⟩
      · first | (exfalso; simp only [i_lt, i_le, i_eq, i_0, i_1, i_2, i_3, i_4, i_5, i_6, i_8, i_9, i_10, i_12, i_16, i_20, i_m1, i_400, i_2000] at h24; omega) | (exfalso; simp only [s_up, a_up, va_up, i_lt, i_le, i_eq, i_0, i_1, i_2, i_3, i_4, i_5, i_6, i_8, i_9, i_10, i_12, i_16, i_20, i_m1, i_400, i_2000, ↓reduceIte, Nat.reduceEqDiff] at h24; omega)
    · intro k hik ih x  A1  M1 Z1  b1 r1  hx hM1 hN1 hSn1 hS1 hs1 hsc hok1 hv
      have ex : x.toInt = k := by rw [hx]; exact i_n (by omega)
      have ey : y.toInt = m := by rw [hy]; exact i_n (by omega)
      refine J_iload_n dX9_goAhead_22 rfl rfl ?_
      refine J_iload_n dX9_goAhead_23 rfl rfl ?_
      refine J_icmp_ge (tgt := 61) dX9_goAhead_24 rfl (fun h24 => ?_) (fun h24 => ?_)
      · first | (exfalso; simp only [i_lt, i_le, i_eq, i_0, i_1, i_2, i_3, i_4, i_5, i_6, i_8, i_9, i_10, i_12, i_16, i_20, i_m1, i_400, i_2000] at h24; omega) | (exfalso; simp only [s_up, a_up, va_up, i_lt, i_le, i_eq, i_0, i_1, i_2, i_3, i_4, i_5, i_6, i_8, i_9, i_10, i_12, i_16, i_20, i_m1, i_400, i_2000, ↓reduceIte, Nat.reduceEqDiff] at h24; omega)
      · refine J_aload_n dX9_goAhead_27 rfl rfl ?_
        refine J_aload_n dX9_goAhead_28 rfl rfl ?_
        refine J_getf dX9_goAhead_29 fl_X9_44 (hM1.at 0 rfl) rfl ?_
        refine J_callVr (As := [_]) dX9_goAhead_32 ml_X9_213 cal_X9_canPair im_X9_canPair se_X9_canPair (hM1.at 0 rfl) rfl rfl rfl (Nat.le_of_ble_eq_true rfl) ⟨by decide, by decide⟩ ⟨by decide, by decide⟩ (c_X9_canPair (S := Z1) (bs := ba) hst hM1 hN1 hS1 hn h12 hok1.2.1.1 hok1.2.1.2) ?_
        refine J_ifb_eq (tgt := 61) dX9_goAhead_35 rfl (fun h35 => ?_) (fun h35 => ?_)
        · have hcan : ¬ canB (fS Z1 P) nw b1 = true := fun z => h35 (canB_i.mp z)
          refine J_return dX9_goAhead_61 rfl (by decide) (by decide) ?_
          exact ⟨rfl, rfl, M1, Z1, hsc, hM1, hN1, hSn1, hS1, hs1, by rw [← hv, gaP_s hik, if_neg hcan]⟩
        · have hcan : canB (fS Z1 P) nw b1 = true := canB_i.mpr h35
          refine J_aload_n dX9_goAhead_38 rfl rfl ?_
          refine J_aload_n dX9_goAhead_39 rfl rfl ?_
          refine J_getf dX9_goAhead_40 fl_X9_44 (hM1.at 0 rfl) rfl ?_
          refine J_callVw (As := [_]) dX9_goAhead_43 ml_X9_217 cal_X9_pair im_X9_pair se_X9_pair (hM1.at 0 rfl) rfl rfl rfl (Nat.le_of_ble_eq_true rfl) ⟨by decide, by decide⟩ ⟨by decide, by decide⟩ (c_X9_pair (S := Z1) (bs := ba) hst hM1 hN1 hS1 hap hn h12 hok1.bd (lsF_ok (fS Z1 P) nw)) (fun A53 hQ53 => ?_)
          obtain ⟨Mc, Sc, scc, hMc, hNc, hSc, hfc, hFc, -⟩ := hQ53
          have hSnc := hSn1.rs hfc (m := 14) rfl hna hapn.s
          have hFc2 : fS Sc P = roundF (fS Z1 P) nw := hFc
          have hokc : okF (fS Sc P) nw (npF (fS Z1 P) nw) (r1 + 1) := by rw [hFc2]; exact (hok1.rnd hcan).2.2.2
          refine J_aload_n dX9_goAhead_46 rfl rfl ?_
          refine J_aload_n dX9_goAhead_47 rfl rfl ?_
          refine J_getf dX9_goAhead_48 fl_X9_44 (hMc.at 0 rfl) rfl ?_
          refine J_callVw (As := [_]) dX9_goAhead_51 ml_X9_210 cal_X9_tellAll im_X9_tellAll se_X9_tellAll (hMc.at 0 rfl) rfl rfl rfl (Nat.le_of_ble_eq_true rfl) ⟨by decide, by decide⟩ ⟨by decide, by decide⟩ (c_X9_tellAll (S := Sc) (bs := ba) hst hMc hNc hSc hap h12 hpl hru hokc.2.1.1 hokc.2.1.2 hokc.2.2.2.2.2.2.1) (fun A54 hQ54 => ?_)
          obtain ⟨Me, Se, sce, hMe, hNe, hSe, hse, hFe, -⟩ := hQ54
          have hSne := hSnc.rs hse (m := 14) rfl hna hapn.s
          refine J_pop dX9_goAhead_54 rfl ?_
          refine J_iinc (v := _ + 1) (L' := [(2, _), (0, _), (1, _)]) dX9_goAhead_55 rfl rfl (by decide) rfl ?_
          refine J_goto (tgt := 22) dX9_goAhead_58 rfl ?_
          refine xx_J.pick [0, 1, 2] rfl ?_
          exact ih _ _ _ _ _ _ (by rw [hx]; exact nI_1 k) hMe hNe hSne hSe ((hs1.trans hfc).trans hse) ((hsc.trans scc).trans sce) (by rw [hFe]; exact (hokc.tla hrv).1) (by rw [← hv, gaP_s hik, if_pos hcan, hFe, hFc2])
  refine xx_J.pick [0, 1, 2] rfl ?_
  exact loop 0 (by omega) _ _ _ _ _ _ rfl hMa hNa hSna hSa (((xx_rf.rf (bm := bm) (bs := ba)).trans hQ1.2.toR).trans hsa) sca (by rw [hFa]; exact (hokb.tla hrv).1) (by rw [hFa]; rfl)
end XSA
