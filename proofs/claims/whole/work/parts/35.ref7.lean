/-! THE REFERENCE: pair -/
section XS7
variable {G : xx_G} {l : Launch} {A A' : xx_H} {n : Nat} {bm bp bs bn ba : Nat} {vL nl : Nat → Int64} {M M' M1 P S S1 : xS}
theorem layM_sS (h : xx_w bm (layM bp vL bn ba bm M) A) (hs : xx_same bs (bs + 14) A A') (hap : apR bm bp bs) : xx_w bm (layM bp vL bn ba bm M) A' := h.same hs fun z hz => by
  have hz := layM_z hz
  obtain ⟨-, h2, -⟩ := hap
  omega
abbrev pX (np : Nat) (r : Int32) : xS := (fun q => if q = 2 then r else nI np, fun _ _ => 0)
/-- who meets whom stands in the order -/
theorem fd_prop {F : xS} {ls : List Nat} {nw : Nat} (hls : srt (f_R F nw) nw ls) (h12 : nw ≤ 12) {q : Nat} (hq : q < fd_k F ls nw / 2) : fd_1 F ls nw q < nw ∧ fd_2 F ls nw q < nw ∧ f_R F nw (fd_1 F ls nw q) (fd_2 F ls nw q) = true := by
  have hk12 : fd_k F ls nw ≤ 12 := Nat.le_trans (rs_le _) (Nat.le_trans lup_len h12)
  have hke : fd_k F ls nw = 2 * (fd_k F ls nw / 2) := rs_ev2 _
  obtain ⟨hs9, hpc9⟩ := setAt_ok (met := fd_m F ls nw) hk12 hke q (by omega)
  have hpc : pcn (setAt (fd_m F ls nw) (fd_k F ls nw) (fd_k F ls nw / 2) q) 12 = 2 * (fd_k F ls nw / 2 - (q + 1) + 1) := by omega
  obtain ⟨t1, t2, t3, t4, t5⟩ := prt_spec (met := fd_m F ls nw) hk12 hs9 hpc (by omega)
  have hpw : (lup F ls nw).Pairwise (fun a b => f_R F nw a b = true) := (hls.2.sublist (List.take_sublist _ _)).filter _
  have hlt : ∀ a, a < (lup F ls nw).length → fd_l F ls nw a < nw := fun a ha => by
    have hm : (lup F ls nw)[a] ∈ ls := List.mem_of_mem_take (List.mem_filter.mp (List.getElem_mem ha)).1
    show (lup F ls nw).getD a 0 < nw
    rw [getD_at ha]
    exact List.mem_range.mp (hls.1.mem_iff.mp hm)
  have hR : ∀ a c, a < c → c < (lup F ls nw).length → f_R F nw (fd_l F ls nw a) (fd_l F ls nw c) = true := fun a c hac hc => by
    show f_R F nw ((lup F ls nw).getD a 0) ((lup F ls nw).getD c 0) = true
    rw [getD_at hc, getD_at (by omega)]
    exact List.pairwise_iff_getElem.mp hpw a c (by omega) hc hac
  have hlen : fd_k F ls nw ≤ (lup F ls nw).length := rs_le _
  -- the line without the one who rests goes up
  have hup : ∀ a, a < fd_k F ls nw → ∃ p, p < (lup F ls nw).length ∧ fd_a F ls nw a = fd_l F ls nw p ∧ a ≤ p ∧ p ≤ a + 1 ∧ (∀ c, a < c → c < fd_k F ls nw → ∃ p', p' < (lup F ls nw).length ∧ fd_a F ls nw c = fd_l F ls nw p' ∧ p < p') := by
    intro a ha
    unfold fd_a fd_k rs_l rs_k at *
    by_cases hev : (lup F ls nw).length % 2 = 0
    · simp only [if_pos hev] at *
      exact ⟨a, by omega, rfl, Nat.le_refl _, by omega, fun c hac hc => ⟨c, by omega, rfl, hac⟩⟩
    · simp only [if_neg hev] at *
      by_cases hc1 : a < chs (rst_r F (fd_l F ls nw)) (lup F ls nw).length
      · refine ⟨a, by omega, by rw [if_pos hc1], Nat.le_refl _, by omega, fun c hac hc => ?_⟩
        by_cases hc2 : c < chs (rst_r F (fd_l F ls nw)) (lup F ls nw).length
        · exact ⟨c, by omega, by rw [if_pos hc2], hac⟩
        · exact ⟨c + 1, by omega, by rw [if_neg hc2], by omega⟩
      · refine ⟨a + 1, by omega, by rw [if_neg hc1], by omega, by omega, fun c hac hc => ?_⟩
        exact ⟨c + 1, by omega, by rw [if_neg (by omega)], by omega⟩
  obtain ⟨p, hp1, hp2, -, -, hp3⟩ := hup (low (setAt (fd_m F ls nw) (fd_k F ls nw) (fd_k F ls nw / 2) q)) (by omega)
  obtain ⟨p', hq1, hq2, hq3⟩ := hp3 _ t3 t4
  unfold fd_1 fd_2
  rw [hp2, hq2]
  exact ⟨hlt _ hp1, hlt _ hq1, hR _ _ hq3 hq1⟩
theorem fR_pts {F : xS} {nw a c : Nat} (h : f_R F nw a c = true) : ¬ f_pts F a < f_pts F c ∧ ¬ a = c := by
  refine ⟨fun z => ?_, fun z => ?_⟩
  · unfold f_R ahd at h
    by_cases e : f_pts F a = f_pts F c
    · rw [e, i_lt] at z; omega
    · rw [if_neg e] at h
      have := of_decide_eq_true h
      rw [i_lt] at this z
      omega
  · subst z
    have z2 : f_R F nw a a = false := (ahd_sto _ _ _).2.2 a
    exact Bool.false_ne_true (z2.symm.trans h)
theorem rsr_ok {F : xS} {ls : List Nat} {nw : Nat} (hls : srt (f_R F nw) nw ls) (h12 : nw ≤ 12) (h : ¬ rs_r F (fd_l F ls nw) (lup F ls nw).length = -1) : rs_r F (fd_l F ls nw) (lup F ls nw).length = nI (rs_r F (fd_l F ls nw) (lup F ls nw).length).toNatClampNeg ∧ (rs_r F (fd_l F ls nw) (lup F ls nw).length).toNatClampNeg < nw := by
  unfold rs_r at *
  by_cases hev : (lup F ls nw).length % 2 = 0
  · rw [if_pos hev] at h; exact absurd rfl h
  · simp only [if_neg hev] at *
    have hc := chs_lt (r := rst_r F (fd_l F ls nw)) (lup F ls nw).length (by omega)
    have hlt : fd_l F ls nw (chs (rst_r F (fd_l F ls nw)) (lup F ls nw).length) < nw := by
      have hm : (lup F ls nw)[chs (rst_r F (fd_l F ls nw)) (lup F ls nw).length] ∈ ls := List.mem_of_mem_take (List.mem_filter.mp (List.getElem_mem hc)).1
      show (lup F ls nw).getD _ 0 < nw
      rw [getD_at hc]
      exact List.mem_range.mp (hls.1.mem_iff.mp hm)
    rw [nI_clamp (by omega)]
    exact ⟨rfl, hlt⟩
theorem sb_2 {F F' : xS} (h : F.2 = F'.2) (q i j : Nat) : (startBoutF F q i j).2 = (startBoutF F' q i j).2 := by
  obtain ⟨F1, F2⟩ := F
  obtain ⟨F1', F2'⟩ := F'
  cases h
  have e : redB (F1, F2) i j = redB (F1', F2) i j := by
    rw [Bool.eq_iff_iff, redB_eq, redB_eq]; exact Iff.rfl
  unfold startBoutF sx_r sx_b
  rw [e]
  unfold sx_2
  split <;> rfl
def sxg (r u : Nat) (f : Nat → Int32) : Nat → Int32 := (sx_2 (fun _ => 0, fun _ => f) r u).2 2
theorem sx2_up (X : xS) (r u : Nat) : sx_2 X r u = a_up X 2 (sxg r u (X.2 2)) := by
  refine xs_ext rfl fun z => ?_
  by_cases h : z = 2
  · subst h; rfl
  · unfold sx_2
    simp only [va_up, if_neg h]
/-- one bout, in the reference's order -/
theorem bout_eq {F F7 : xS} {q i j r u : Nat} (hr : r = sx_r F i j) (hu : u = sx_b F i j) (h7 : F7 = if f_at F 1 j < f_at F 1 i then f_add F 7 i 1 else F) : a_up (a_up (sx_2 (a_up (a_up F7 4 (upd (F.2 4) q (nI r))) 5 (upd (F.2 5) q (nI u))) r u) 3 (m_up (F.2 3) i j)) 6 (upd (F.2 6) q (-1)) = startBoutF F q i j := by
  rw [sx2_up]
  unfold startBoutF
  rw [← hr, ← hu, sx2_up]
  have e7 : F7 = a_up F 2 (F7.2 2) := by
    rw [h7]
    split
    · rfl
    · exact (a_up_id (X := F) (i := 2)).symm
  have hx : (sx_1 F q r u i j).2 2 = F.2 2 := by simp [va_up]
  have key : (if f_at F 1 j < f_at F 1 i then f_add (sx_1 F q r u i j) 7 i 1 else sx_1 F q r u i j) = a_up (sx_1 F q r u i j) 2 (F7.2 2) := by
    generalize sx_1 F q r u i j = X at hx
    rw [h7]
    split
    · show a_up X 2 (upd (X.2 2) (7 * 12 + i) (X.2 2 (7 * 12 + i) + 1)) = a_up X 2 (upd (F.2 2) (7 * 12 + i) (F.2 2 (7 * 12 + i) + 1))
      rw [hx]
    · rw [← hx]
      exact (a_up_id (X := X) (i := 2)).symm
  rw [key]
  generalize hg : F7.2 2 = g at e7 ⊢
  subst e7
  have e1 : (a_up (a_up (a_up F 2 g) 4 (upd (F.2 4) q (nI r))) 5 (upd (F.2 5) q (nI u))).2 2 = g := by simp [va_up]
  have e2 : (a_up (sx_1 F q r u i j) 2 g).2 2 = g := by simp [va_up]
  rw [e1, e2]
  generalize sxg r u g = s
  have e3 : sx_1 F q r u i j = a_up (a_up (a_up (a_up F 4 (upd (F.2 4) q (nI r))) 5 (upd (F.2 5) q (nI u))) 6 (upd (F.2 6) q (-1))) 3 (m_up (F.2 3) i j) := rfl
  rw [e3]
  generalize m_up (F.2 3) i j = f3
  refine xs_ext rfl fun z => ?_
  show va_up (va_up (va_up (va_up (va_up (va_up F.2 2 g) 4 _) 5 _) 2 s) 3 f3) 6 _ z = va_up (va_up (va_up (va_up (va_up (va_up F.2 4 _) 5 _) 6 _) 3 f3) 2 g) 2 s z
  generalize upd (F.2 4) q (nI r) = f4
  generalize upd (F.2 5) q (nI u) = f5
  generalize upd (F.2 6) q (-1) = f6
  simp only [va_up]
  by_cases h2 : z = 2
  · subst h2; simp
  by_cases h3 : z = 3
  · subst h3; simp
  by_cases h4 : z = 4
  · subst h4; simp
  by_cases h5 : z = 5
  · subst h5; simp
  by_cases h6 : z = 6
  · subst h6; simp
  · simp only [if_neg h2, if_neg h3, if_neg h4, if_neg h5, if_neg h6]
theorem red7 {F : xS} {k i j : Nat} {d : Int32} (hi : i < 12) (hj : j < 12) (hk : k < 12) : redB (f_add F 7 k d) i j = redB F i j := by
  rw [Bool.eq_iff_iff, redB_eq, redB_eq]
  have e : ∀ c w, c < 10 → w < 12 → ¬ c = 7 → f_at (f_add F 7 k d) c w = f_at F c w := fun c w _ hw hc => by
    show upd (F.2 2) (7 * 12 + k) _ (c * 12 + w) = _
    simp only [upd]
    rw [if_neg (by omega)]
  unfold redA
  rw [e 6 i (by omega) hi (by omega), e 6 j (by omega) hj (by omega), e 9 i (by omega) hi (by omega), e 9 j (by omega) hj (by omega)]
theorem pr_fin {F F1 PS : xS} {ah be : Nat → Nat} {np : Nat} (h2 : F1.2 = (srL (sr_0 F PS) ah be np).2) (h1 : ∀ z, F1.1 z = if z = 1 then F.1 1 else if z = 5 then PS.1 0 else if z = 9 then PS.1 2 else F.1 z) : (PS.1 2 = -1 → s_up F1 1 (F.1 1 + 1) = startRoundF F PS ah be np) ∧ (¬ PS.1 2 = -1 → s_up (f_add (f_add F1 5 (PS.1 2).toNatClampNeg 1) 1 (PS.1 2).toNatClampNeg (F1.2 1 2)) 1 (F.1 1 + 1) = startRoundF F PS ah be np) := by
  have e1 : (srL (sr_0 F PS) ah be np).1 = (sr_0 F PS).1 := srL_s _ _ _ _
  have ints : (va_up F1.1 1 (F.1 1 + 1)) = va_up (srL (sr_0 F PS) ah be np).1 9 (PS.1 2) := by
    funext z
    rw [e1]
    show va_up F1.1 1 (F.1 1 + 1) z = va_up (va_up (va_up F.1 1 (F.1 1 + 1)) 5 (PS.1 0)) 9 (PS.1 2) z
    simp only [va_up]
    rw [h1 z]
    by_cases a : z = 1
    · subst a; rfl
    by_cases c : z = 9
    · subst c; rfl
    by_cases d : z = 5
    · subst d; rfl
    · simp [a, c, d]
  refine ⟨fun hr => ?_, fun hr => ?_⟩
  · unfold startRoundF restF
    rw [if_pos hr]
    exact Prod.ext ints h2
  · unfold startRoundF restF
    rw [if_neg hr]
    refine Prod.ext ints ?_
    have e9 : (s_up (srL (sr_0 F PS) ah be np) 9 (PS.1 2)).2 = F1.2 := h2.symm
    unfold f_add a_up
    rw [e9]
theorem wS_int0 (P : xS) {x : Int32} (w : xx_w bs (layS bs (s_up S 0 x)) A) : ∃ S1, xx_w bs (layS bs S1) A ∧ fS S1 P = s_up (fS S P) 1 x ∧ S1.2 = S.2 ∧ S1.1 0 = x ∧ ∀ z, z ≠ 0 → S1.1 z = S.1 z :=
  ⟨_, w, fS_s0, rfl, rfl, fun z hz => by show va_up S.1 0 x z = _; simp only [va_up]; rw [if_neg hz]⟩
theorem wS_int1 (P : xS) {x : Int32} (w : xx_w bs (layS bs (s_up S 1 x)) A) : ∃ S1, xx_w bs (layS bs S1) A ∧ fS S1 P = s_up (fS S P) 5 x ∧ S1.2 = S.2 ∧ S1.1 1 = x ∧ ∀ z, z ≠ 1 → S1.1 z = S.1 z :=
  ⟨_, w, fS_s1, rfl, rfl, fun z hz => by show va_up S.1 1 x z = _; simp only [va_up]; rw [if_neg hz]⟩
theorem wS_int2 (P : xS) {x : Int32} (w : xx_w bs (layS bs (s_up S 2 x)) A) : ∃ S1, xx_w bs (layS bs S1) A ∧ fS S1 P = s_up (fS S P) 9 x ∧ S1.2 = S.2 ∧ S1.1 2 = x ∧ ∀ z, z ≠ 2 → S1.1 z = S.1 z :=
  ⟨_, w, fS_s2, rfl, rfl, fun z hz => by show va_up S.1 2 x z = _; simp only [va_up]; rw [if_neg hz]⟩
set_option maxHeartbeats 4000000 in
theorem c_X9_pair (hst : l.stackTraces = false) (hM : xx_w bm (layM bp vL bn ba bm M) A) (hN : xx_w bp (layN nl bp P) A) (hS : xx_w bs (layS bs S) A) (hap : apR bm bp bs) {nw : Nat} (hn : P.1 0 = nI nw) (h12 : nw ≤ 12) (hbd : bdP (fS S P) nw) {ls : List Nat} (hls : srt (f_R (fS S P) nw) nw ls)  : xx_C G l yX9_pair mX9_pair 7 165 0 0 [.ref bm, .ref bs] A n (xx_wr none n (fun A' => ∃ M' S', scr M M' ∧ xx_w bm (layM bp vL bn ba bm M') A' ∧ xx_w bp (layN nl bp P) A' ∧ xx_w bs (layS bs S') A' ∧ xx_rf bm bs A A' ∧ fS S' P = startRoundF (fS S P) (pX ((fd_k (fS S P) ls nw) / 2) (rs_r (fS S P) (fd_l (fS S P) ls nw) (lup (fS S P) ls nw).length)) (fd_1 (fS S P) ls nw) (fd_2 (fS S P) ls nw) ((fd_k (fS S P) ls nw) / 2) ∧ S'.2 9 = S.2 9)) := by
  obtain ⟨hap1, hap2, hap3⟩ := id hap
  have hk12 : (fd_k (fS S P) ls nw) ≤ 12 := Nat.le_trans (rs_le _) (Nat.le_trans lup_len h12)
  refine J_C hst (by decide +kernel) rfl rfl rfl (Nat.le_of_ble_eq_true rfl) ?_
  show xx_J _ _ _ _ _ _ _ _ 0 [(0, _), (1, _)] [] _ _ _ _
  refine J_aload_n dX9_pair_0 rfl rfl ?_
  refine J_aload_n dX9_pair_1 rfl rfl ?_
  refine J_callVw (As := [_]) dX9_pair_2 ml_X9_148 cal_X9_pairs im_X9_pairs se_X9_pairs (hM.at 0 rfl) rfl rfl rfl (Nat.le_of_ble_eq_true rfl) ⟨by decide, by decide⟩ ⟨by decide, by decide⟩ (c_X9_pairs hst hM hN hS hap hn h12 hbd hls) (fun A1 hQ1 => ?_)
  obtain ⟨Mp, hsc, hrp, hp, hMp, hsp⟩ := hQ1
  have hNp := hN.mf hsp (m := 9) rfl hap.p
  have hSp := hS.mf hsp (m := 14) rfl hap.s
  refine J_istore_n (L' := [(2, _), (0, _), (1, _)]) dX9_pair_5 rfl (by decide) rfl ?_
  refine J_aload_n dX9_pair_6 rfl rfl ?_
  refine J_iload_n dX9_pair_7 rfl rfl ?_
  refine J_putf dX9_pair_8 fp_X9_151 (fun _ => ⟨rfl, rfl⟩) (hSp.at 0 rfl) (Nat.le_of_ble_eq_true rfl) ?_
  refine J_genA (wS_s0_1 hSp _) (((xx_rf.rf (bm := bm) (bs := bs)).trans hsp.toR).put (by omega) (by omega) _) (fun A2 w2 s2 o2 => ?_)
  have w2M := layM_o hMp o2 (by first | (unfold isM; have := hap.2.1; omega))
  have w2N := hNp.oP o2 hap (by unfold isM; omega)
  obtain ⟨S2, wS2, eS2, iS2, vS2, oS2⟩ := wS_int1 P w2
  refine J_aload_n dX9_pair_11 rfl rfl ?_
  refine J_aload_n dX9_pair_12 rfl rfl ?_
  refine J_getf dX9_pair_13 fl_X9_114 (w2M.at 0 rfl) rfl ?_
  refine J_putf dX9_pair_16 fp_X9_154 (fun _ => ⟨rfl, rfl⟩) (wS2.at 0 rfl) (Nat.le_of_ble_eq_true rfl) ?_
  refine J_genA (wS_s0_2 wS2 _) (s2.put (by omega) (by omega) _) (fun A3 w3 s3 o3 => ?_)
  have w3M := layM_o w2M o3 (by first | (unfold isM; have := hap.2.1; omega))
  have w3N := w2N.oP o3 hap (by unfold isM; omega)
  obtain ⟨S3, wS3, eS3, iS3, vS3, oS3⟩ := wS_int2 P w3
  refine J_iconst (v := 0) dX9_pair_19 (by decide) ?_
  refine J_istore_n (L' := [(3, _), (2, _), (0, _), (1, _)]) dX9_pair_20 rfl (by decide) rfl ?_
  have loop : ∀ i, i ≤ ((fd_k (fS S P) ls nw) / 2) → ∀ (x : Int32) (A1 : xx_H) (S1 : xS), (x = nI i) → (xx_w bm (layM bp vL bn ba bm Mp) A1) → (xx_w bp (layN nl bp P) A1) → (xx_w bs (layS bs S1) A1) → (xx_rf bm bs A A1) → ((fS S1 P).2 = (srL (sr_0 (fS S P) (pX ((fd_k (fS S P) ls nw) / 2) (rs_r (fS S P) (fd_l (fS S P) ls nw) (lup (fS S P) ls nw).length))) (fd_1 (fS S P) ls nw) (fd_2 (fS S P) ls nw) i).2) → (S1.1 0 = S.1 0 ∧ S1.1 1 = nI ((fd_k (fS S P) ls nw) / 2) ∧ S1.1 2 = rs_r (fS S P) (fd_l (fS S P) ls nw) (lup (fS S P) ls nw).length) → (S1.2 1 = S.2 1) → (S1.2 9 = S.2 9) → xx_J G l mX9_pair 7 165 0 0 (xx_wr none n (fun A' => ∃ M' S', scr M M' ∧ xx_w bm (layM bp vL bn ba bm M') A' ∧ xx_w bp (layN nl bp P) A' ∧ xx_w bs (layS bs S') A' ∧ xx_rf bm bs A A' ∧ fS S' P = startRoundF (fS S P) (pX ((fd_k (fS S P) ls nw) / 2) (rs_r (fS S P) (fd_l (fS S P) ls nw) (lup (fS S P) ls nw).length)) (fd_1 (fS S P) ls nw) (fd_2 (fS S P) ls nw) ((fd_k (fS S P) ls nw) / 2) ∧ S'.2 9 = S.2 9)) 21 [(3, .int x), (2, .int (nI ((fd_k (fS S P) ls nw) / 2))), (0, .ref bm), (1, .ref bs)] [] A1 n 0 0 := by
    refine xx_dn ?_ ?_
    · intro x  A1  S1  hx hM1 hN1 hS1 hs1 h2 hi1 hpt hou
      have ex : x.toInt = ((fd_k (fS S P) ls nw) / 2) := by rw [hx]; exact i_n (by omega)
      have enp : (nI ((fd_k (fS S P) ls nw) / 2)).toInt = ((fd_k (fS S P) ls nw) / 2) := i_n (by omega)
      refine J_iload_n dX9_pair_21 rfl rfl ?_
      refine J_iload_n dX9_pair_22 rfl rfl ?_
      refine J_icmp_ge (tgt := 177) dX9_pair_23 rfl (fun h23 => ?_) (fun h23 => ?_)
      · refine J_aload_n dX9_pair_177 rfl rfl ?_
        refine J_getf dX9_pair_178 fl_X9_114 (hM1.at 0 rfl) rfl ?_
        refine J_iconst (v := -1) dX9_pair_181 (by decide) ?_
        refine J_icmp_eq (tgt := 219) dX9_pair_182 rfl (fun h182 => ?_) (fun h182 => ?_)
        · have h182 : (pX ((fd_k (fS S P) ls nw) / 2) (rs_r (fS S P) (fd_l (fS S P) ls nw) (lup (fS S P) ls nw).length)).1 2 = -1 := by
            have z : Mp.1 15 = -1 := h182
            rw [hrp] at z
            exact z
          refine J_aload_n dX9_pair_219 rfl rfl ?_
          refine J_dup dX9_pair_220 rfl ?_
          refine J_getf dX9_pair_221 fl_X9_101 (hS1.at 0 rfl) rfl ?_
          refine J_iconst (v := 1) dX9_pair_224 (by decide) ?_
          refine J_iadd dX9_pair_225 ?_
          refine J_putf dX9_pair_226 fp_X9_101 (fun _ => ⟨rfl, rfl⟩) (hS1.at 0 rfl) (Nat.le_of_ble_eq_true rfl) ?_
          refine J_genA (wS_s0_0 hS1 _) (hs1.put (by omega) (by omega) _) (fun A24 w24 s24 o24 => ?_)
          have w24M := layM_o hM1 o24 (by first | (unfold isM; have := hap.2.1; omega))
          have w24N := hN1.oP o24 hap (by unfold isM; omega)
          obtain ⟨S24, wS24, eS24, iS24, vS24, oS24⟩ := wS_int0 P w24
          refine J_return dX9_pair_229 rfl (by decide) (by decide) ?_
          have hints : ∀ z, (fS S1 P).1 z = if z = 1 then (fS S P).1 1 else if z = 5 then (pX ((fd_k (fS S P) ls nw) / 2) (rs_r (fS S P) (fd_l (fS S P) ls nw) (lup (fS S P) ls nw).length)).1 0 else if z = 9 then (pX ((fd_k (fS S P) ls nw) / 2) (rs_r (fS S P) (fd_l (fS S P) ls nw) (lup (fS S P) ls nw).length)).1 2 else (fS S P).1 z := by
            intro z
            unfold fS
            dsimp only
            split
            · rfl
            · exact hi1.1
            · exact hi1.2.1
            · exact hi1.2.2
            · rename_i n0 n1 n5 n9; rw [if_neg n1, if_neg n5, if_neg n9]
          
          refine ⟨rfl, rfl, Mp, _, hsc, w24M, w24N, wS24, s24, ?_, ?_⟩
          · rw [eS24]
            have ez : S1.1 0 = S.1 0 := hi1.1
            
            refine Eq.trans ?_ ((pr_fin (F := (fS S P)) (F1 := fS S1 P) (PS := (pX ((fd_k (fS S P) ls nw) / 2) (rs_r (fS S P) (fd_l (fS S P) ls nw) (lup (fS S P) ls nw).length))) h2 hints).1 h182)
            rw [ez]
            rfl
          · rw [iS24]; exact hou
        · have hnr0 : ¬ rs_r (fS S P) (fd_l (fS S P) ls nw) (lup (fS S P) ls nw).length = -1 := fun z => h182 (by rw [hrp, z])
          obtain ⟨hres, hresn⟩ := rsr_ok hls h12 hnr0
          refine J_aload_n dX9_pair_185 rfl rfl ?_
          refine J_getf dX9_pair_186 fl_X9_117 (hS1.at 0 rfl) rfl ?_
          refine J_aload_n dX9_pair_189 rfl rfl ?_
          refine J_getf dX9_pair_190 fl_X9_114 (hM1.at 0 rfl) rfl ?_
          refine J_dup2 dX9_pair_193 rfl rfl ?_
          refine J_ialdN ((rs_r (fS S P) (fd_l (fS S P) ls nw) (lup (fS S P) ls nw).length).toNatClampNeg) dX9_pair_194 (hS1.at 5 rfl) (hrp.trans hres) (by omega) (by decide) ?_
          refine J_iconst (v := 1) dX9_pair_195 (by decide) ?_
          refine J_iadd dX9_pair_196 ?_
          refine J_iastN ((rs_r (fS S P) (fd_l (fS S P) ls nw) (lup (fS S P) ls nw).length).toNatClampNeg) dX9_pair_197 (hS1.at 5 rfl) (hrp.trans hres) (by omega) (by decide) ?_
          refine J_genA (wS_a5 hS1 _) (hs1.put (by omega) (by omega) _) (fun A25 w25 s25 o25 => ?_)
          have w25M := layM_o hM1 o25 (by first | (unfold isM; have := hap.2.1; omega))
          have w25N := hN1.oP o25 hap (by unfold isM; omega)
          obtain ⟨S25, wS25, eS25, iS25, oS25⟩ := wS_add5 P w25 (show ((rs_r (fS S P) (fd_l (fS S P) ls nw) (lup (fS S P) ls nw).length).toNatClampNeg) < 12 by omega)
          refine J_aload_n dX9_pair_198 rfl rfl ?_
          refine J_getf dX9_pair_199 fl_X9_76 (wS25.at 0 rfl) rfl ?_
          refine J_aload_n dX9_pair_202 rfl rfl ?_
          refine J_getf dX9_pair_203 fl_X9_114 (w25M.at 0 rfl) rfl ?_
          refine J_dup2 dX9_pair_206 rfl rfl ?_
          refine J_ialdN ((rs_r (fS S P) (fd_l (fS S P) ls nw) (lup (fS S P) ls nw).length).toNatClampNeg) dX9_pair_207 (wS25.at 1 rfl) (hrp.trans hres) (by omega) (by decide) ?_
          refine J_aload_n dX9_pair_208 rfl rfl ?_
          refine J_getf dX9_pair_209 fl_X9_20 (w25M.at 0 rfl) rfl ?_
          refine J_getf dX9_pair_212 fl_X9_180 (w25N.at 0 rfl) rfl ?_
          refine J_iconst (v := 2) dX9_pair_215 (by decide) ?_
          refine J_ialdN 2 dX9_pair_216 (w25N.at 3 rfl) rfl (by decide) (by decide) ?_
          refine J_iadd dX9_pair_217 ?_
          refine J_iastN ((rs_r (fS S P) (fd_l (fS S P) ls nw) (lup (fS S P) ls nw).length).toNatClampNeg) dX9_pair_218 (wS25.at 1 rfl) (hrp.trans hres) (by omega) (by decide) ?_
          refine J_genA (wS_a1 wS25 _) (s25.put (by omega) (by omega) _) (fun A26 w26 s26 o26 => ?_)
          have w26M := layM_o w25M o26 (by first | (unfold isM; have := hap.2.1; omega))
          have w26N := w25N.oP o26 hap (by unfold isM; omega)
          obtain ⟨S26, wS26, eS26, iS26, oS26⟩ := wS_add1 P w26 (show ((rs_r (fS S P) (fd_l (fS S P) ls nw) (lup (fS S P) ls nw).length).toNatClampNeg) < 12 by omega)
          refine J_aload_n dX9_pair_219 rfl rfl ?_
          refine J_dup dX9_pair_220 rfl ?_
          refine J_getf dX9_pair_221 fl_X9_101 (wS26.at 0 rfl) rfl ?_
          refine J_iconst (v := 1) dX9_pair_224 (by decide) ?_
          refine J_iadd dX9_pair_225 ?_
          refine J_putf dX9_pair_226 fp_X9_101 (fun _ => ⟨rfl, rfl⟩) (wS26.at 0 rfl) (Nat.le_of_ble_eq_true rfl) ?_
          refine J_genA (wS_s0_0 wS26 _) (s26.put (by omega) (by omega) _) (fun A27 w27 s27 o27 => ?_)
          have w27M := layM_o w26M o27 (by first | (unfold isM; have := hap.2.1; omega))
          have w27N := w26N.oP o27 hap (by unfold isM; omega)
          have izz : S26.1 0 = S1.1 0 := congrFun (iS26.trans iS25) 0
          have hrt : (rs_r (fS S P) (fd_l (fS S P) ls nw) (lup (fS S P) ls nw).length).toNatClampNeg = (rs_r (fS S P) (fd_l (fS S P) ls nw) (lup (fS S P) ls nw).length).toNatClampNeg := rfl
          obtain ⟨S27, wS27, eS27, iS27, vS27, oS27⟩ := wS_int0 P w27
          refine J_return dX9_pair_229 rfl (by decide) (by decide) ?_
          have hints : ∀ z, (fS S1 P).1 z = if z = 1 then (fS S P).1 1 else if z = 5 then (pX ((fd_k (fS S P) ls nw) / 2) (rs_r (fS S P) (fd_l (fS S P) ls nw) (lup (fS S P) ls nw).length)).1 0 else if z = 9 then (pX ((fd_k (fS S P) ls nw) / 2) (rs_r (fS S P) (fd_l (fS S P) ls nw) (lup (fS S P) ls nw).length)).1 2 else (fS S P).1 z := by
            intro z
            unfold fS
            dsimp only
            split
            · rfl
            · exact hi1.1
            · exact hi1.2.1
            · exact hi1.2.2
            · rename_i n0 n1 n5 n9; rw [if_neg n1, if_neg n5, if_neg n9]
          have hnr : ¬ (pX ((fd_k (fS S P) ls nw) / 2) (rs_r (fS S P) (fd_l (fS S P) ls nw) (lup (fS S P) ls nw).length)).1 2 = -1 := hnr0
          refine ⟨rfl, rfl, Mp, _, hsc, w27M, w27N, wS27, s27, ?_, ?_⟩
          · rw [eS27, eS26, eS25]
            have ez : S1.1 0 = S.1 0 := hi1.1
            
            refine Eq.trans ?_ ((pr_fin (F := (fS S P)) (F1 := fS S1 P) (PS := (pX ((fd_k (fS S P) ls nw) / 2) (rs_r (fS S P) (fd_l (fS S P) ls nw) (lup (fS S P) ls nw).length))) h2 hints).2 hnr)
            rw [izz, ez, hrt]
            rfl
          · rw [iS27]; exact ((oS26 9 (by decide)).trans ((oS25 9 (by decide)))).trans hou
      · first | (exfalso; simp only [i_lt, i_le, i_eq, i_0, i_1, i_2, i_3, i_4, i_5, i_6, i_8, i_9, i_10, i_12, i_16, i_20, i_m1, i_400, i_2000] at h23; omega) | (exfalso; simp only [s_up, a_up, va_up, i_lt, i_le, i_eq, i_0, i_1, i_2, i_3, i_4, i_5, i_6, i_8, i_9, i_10, i_12, i_16, i_20, i_m1, i_400, i_2000, ↓reduceIte, Nat.reduceEqDiff] at h23; omega)
    · intro i hii ih x  A1  S1  hx hM1 hN1 hS1 hs1 h2 hi1 hpt hou
      have ex : x.toInt = i := by rw [hx]; exact i_n (by omega)
      have enp : (nI ((fd_k (fS S P) ls nw) / 2)).toInt = ((fd_k (fS S P) ls nw) / 2) := i_n (by omega)
      obtain ⟨hah, hbe, hfr⟩ := fd_prop hls h12 hii
      have hpz := (fR_pts hfr).1
      have c1 : f_pts (fS S P) ((fd_1 (fS S P) ls nw) i) = S.2 1 ((fd_1 (fS S P) ls nw) i) := fS_c (by omega)
      have c2 : f_pts (fS S P) ((fd_2 (fS S P) ls nw) i) = S.2 1 ((fd_2 (fS S P) ls nw) i) := fS_c (by omega)
      rw [c1, c2, ← hpt] at hpz
      have g1 : f_at (fS S1 P) 1 ((fd_1 (fS S P) ls nw) i) = S1.2 1 ((fd_1 (fS S P) ls nw) i) := fS_c (by omega)
      have g2 : f_at (fS S1 P) 1 ((fd_2 (fS S P) ls nw) i) = S1.2 1 ((fd_2 (fS S P) ls nw) i) := fS_c (by omega)
      refine J_iload_n dX9_pair_21 rfl rfl ?_
      refine J_iload_n dX9_pair_22 rfl rfl ?_
      refine J_icmp_ge (tgt := 177) dX9_pair_23 rfl (fun h23 => ?_) (fun h23 => ?_)
      · first | (exfalso; simp only [i_lt, i_le, i_eq, i_0, i_1, i_2, i_3, i_4, i_5, i_6, i_8, i_9, i_10, i_12, i_16, i_20, i_m1, i_400, i_2000] at h23; omega) | (exfalso; simp only [s_up, a_up, va_up, i_lt, i_le, i_eq, i_0, i_1, i_2, i_3, i_4, i_5, i_6, i_8, i_9, i_10, i_12, i_16, i_20, i_m1, i_400, i_2000, ↓reduceIte, Nat.reduceEqDiff] at h23; omega)
      · refine J_aload_n dX9_pair_26 rfl rfl ?_
        refine J_getf dX9_pair_27 fl_X9_53 (hM1.at 0 rfl) rfl ?_
        refine J_iload_n dX9_pair_30 rfl rfl ?_
        refine J_ialdN i dX9_pair_31 (hM1.at 8 rfl) hx (by omega) (by decide) ?_
        refine J_istore (L' := [(4, _), (3, _), (2, _), (0, _), (1, _)]) dX9_pair_32 (by decide) rfl ?_
        refine J_aload_n dX9_pair_34 rfl rfl ?_
        refine J_getf dX9_pair_35 fl_X9_56 (hM1.at 0 rfl) rfl ?_
        refine J_iload_n dX9_pair_38 rfl rfl ?_
        refine J_ialdN i dX9_pair_39 (hM1.at 9 rfl) hx (by omega) (by decide) ?_
        refine J_istore (L' := [(5, _), (4, _), (3, _), (2, _), (0, _), (1, _)]) dX9_pair_40 (by decide) rfl ?_
        refine J_aload_n dX9_pair_42 rfl rfl ?_
        refine J_getf dX9_pair_43 fl_X9_76 (hS1.at 0 rfl) rfl ?_
        refine J_iload dX9_pair_46 rfl ?_
        refine J_ialdN ((fd_1 (fS S P) ls nw) i) dX9_pair_48 (hS1.at 1 rfl) (hp i hii).1 (by omega) (by decide) ?_
        refine J_aload_n dX9_pair_49 rfl rfl ?_
        refine J_getf dX9_pair_50 fl_X9_76 (hS1.at 0 rfl) rfl ?_
        refine J_iload dX9_pair_53 rfl ?_
        refine J_ialdN ((fd_2 (fS S P) ls nw) i) dX9_pair_55 (hS1.at 1 rfl) (hp i hii).2 (by omega) (by decide) ?_
        refine J_icmp_eq (tgt := 92) dX9_pair_56 rfl (fun h56 => ?_) (fun h56 => ?_)
        · refine J_aload_n dX9_pair_92 rfl rfl ?_
          refine J_aload_n dX9_pair_93 rfl rfl ?_
          refine J_iload dX9_pair_94 rfl ?_
          refine J_iload dX9_pair_96 rfl ?_
          refine J_callVr (As := [_, _, _]) dX9_pair_98 ml_X9_160 cal_X9_isFirstRed im_X9_isFirstRed se_X9_isFirstRed (hM1.at 0 rfl) rfl rfl rfl (Nat.le_of_ble_eq_true rfl) ⟨by decide, by decide⟩ ⟨by decide, by decide⟩ (c_X9_isFirstRed (P := P) hst hS1 (hp i hii).1 (by omega) (hp i hii).2 (by omega)) ?_
          refine J_istore (L' := [(6, _), (5, _), (4, _), (3, _), (2, _), (0, _), (1, _)]) dX9_pair_101 (by decide) rfl ?_
          refine J_aload_n dX9_pair_103 rfl rfl ?_
          refine J_getf dX9_pair_104 fl_X9_163 (hS1.at 0 rfl) rfl ?_
          refine J_iload_n dX9_pair_107 rfl rfl ?_
          refine J_iload dX9_pair_108 rfl ?_
          refine J_ifb_eq (tgt := 118) dX9_pair_110 rfl (fun h110 => ?_) (fun h110 => ?_)
          · have hrd : ¬ redB (fS S1 P) ((fd_1 (fS S P) ls nw) i) ((fd_2 (fS S P) ls nw) i) = true := h110
            refine J_iload dX9_pair_118 rfl ?_
            refine J_iastN i dX9_pair_120 (hS1.at 11 rfl) hx (by omega) (by decide) ?_
            refine J_genA (wS_a11 hS1 _) (hs1.put (by omega) (by omega) _) (fun A54 w54 s54 o54 => ?_)
            have w54M := layM_o hM1 o54 (by first | (unfold isM; have := hap.2.1; omega))
            have w54N := hN1.oP o54 hap (by unfold isM; omega)
            obtain ⟨S54, wS54, eS54, iS54, vS54, oS54⟩ := wS_set11 P w54
            refine J_aload_n dX9_pair_121 rfl rfl ?_
            refine J_getf dX9_pair_122 fl_X9_166 (wS54.at 0 rfl) rfl ?_
            refine J_iload_n dX9_pair_125 rfl rfl ?_
            refine J_iload dX9_pair_126 rfl ?_
            refine J_ifb_eq (tgt := 136) dX9_pair_128 rfl (fun h128 => ?_) (fun h128 => ?_)
            · refine J_iload dX9_pair_136 rfl ?_
              refine J_iastN i dX9_pair_138 (wS54.at 12 rfl) hx (by omega) (by decide) ?_
              refine J_genA (wS_a12 wS54 _) (s54.put (by omega) (by omega) _) (fun A55 w55 s55 o55 => ?_)
              have w55M := layM_o w54M o55 (by first | (unfold isM; have := hap.2.1; omega))
              have w55N := w54N.oP o55 hap (by unfold isM; omega)
              obtain ⟨S55, wS55, eS55, iS55, vS55, oS55⟩ := wS_set12 P w55
              refine J_aload_n dX9_pair_139 rfl rfl ?_
              refine J_aload_n dX9_pair_140 rfl rfl ?_
              refine J_aload_n dX9_pair_141 rfl rfl ?_
              refine J_getf dX9_pair_142 fl_X9_163 (wS55.at 0 rfl) rfl ?_
              refine J_iload_n dX9_pair_145 rfl rfl ?_
              refine J_ialdN i dX9_pair_146 (wS55.at 11 rfl) hx (by omega) (by decide) ?_
              refine J_aload_n dX9_pair_147 rfl rfl ?_
              refine J_getf dX9_pair_148 fl_X9_166 (wS55.at 0 rfl) rfl ?_
              refine J_iload_n dX9_pair_151 rfl rfl ?_
              refine J_ialdN i dX9_pair_152 (wS55.at 12 rfl) hx (by omega) (by decide) ?_
              refine J_callVw (As := [_, _, _]) dX9_pair_153 ml_X9_169 cal_X9_giveBelts im_X9_giveBelts se_X9_giveBelts (w55M.at 0 rfl) rfl rfl rfl (Nat.le_of_ble_eq_true rfl) ⟨by decide, by decide⟩ ⟨by decide, by decide⟩ (c_X9_giveBelts hst wS55 (by rw [oS55 11 (by decide), vS54]; simp only [upd, if_true]; exact (hp i hii).2) (by omega) (by rw [vS55]; simp only [upd, if_true]; exact (hp i hii).1) (by omega)) (fun A56 hQ56 => ?_)
              have hM_56 := layM_sS w55M hQ56.2 hap
              have hN_56 := w55N.s2 hQ56.2 (m := 9) rfl (by omega)
              obtain ⟨S56, wS56, eS56, iS56, oS56⟩ := wS_gb P hQ56.1 (show (fd_2 (fS S P) ls nw) i < 12 by omega) (show (fd_1 (fS S P) ls nw) i < 12 by omega)
              refine J_aload_n dX9_pair_156 rfl rfl ?_
              refine J_iload dX9_pair_157 rfl ?_
              refine J_iload dX9_pair_159 rfl ?_
              refine J_callVw (As := [_, _]) dX9_pair_161 ml_X9_173 cal_X8_meet im_X8_meet se_X8_meet (wS56.at 0 rfl) rfl rfl rfl (Nat.le_of_ble_eq_true rfl) ⟨by decide, by decide⟩ ⟨by decide, by decide⟩ (c_X8_meet hst wS56 (hp i hii).1 (by omega) (hp i hii).2 (by omega)) (fun A57 hQ57 => ?_)
              have hM_57 := layM_sS hM_56 hQ57.2 hap
              have hN_57 := hN_56.s2 hQ57.2 (m := 9) rfl (by omega)
              obtain ⟨S57, wS57, eS57, iS57, vS57, oS57⟩ := wS_set10 P hQ57.1
              refine J_aload_n dX9_pair_164 rfl rfl ?_
              refine J_getf dX9_pair_165 fl_X9_177 (wS57.at 0 rfl) rfl ?_
              refine J_iload_n dX9_pair_168 rfl rfl ?_
              refine J_iconst (v := -1) dX9_pair_169 (by decide) ?_
              refine J_iastN i dX9_pair_170 (wS57.at 13 rfl) hx (by omega) (by decide) ?_
              refine J_genA (wS_a13 wS57 _) (((s55.trans hQ56.2.toR).trans hQ57.2.toR).put (by omega) (by omega) _) (fun A58 w58 s58 o58 => ?_)
              have w58M := layM_o hM_57 o58 (by first | (unfold isM; have := hap.2.1; omega))
              have w58N := hN_57.oP o58 hap (by unfold isM; omega)
              obtain ⟨S58, wS58, eS58, iS58, vS58, oS58⟩ := wS_set13 P w58
              refine J_iinc (v := _ + 1) (L' := [(3, _), (6, _), (5, _), (4, _), (2, _), (0, _), (1, _)]) dX9_pair_171 rfl rfl (by decide) rfl ?_
              refine J_goto (tgt := 21) dX9_pair_174 rfl ?_
              refine xx_J.pick [0, 4, 5, 6] rfl ?_
              have hrd1 : ¬ redB (fS S1 P) ((fd_1 (fS S P) ls nw) i) ((fd_2 (fS S P) ls nw) i) = true := hrd
              have hgt : ¬ S1.2 1 ((fd_2 (fS S P) ls nw) i) < S1.2 1 ((fd_1 (fS S P) ls nw) i) := fun z => by rw [h56, i_lt] at z; omega
              have e7 : (fS S1 P) = if f_at (fS S1 P) 1 ((fd_2 (fS S P) ls nw) i) < f_at (fS S1 P) 1 ((fd_1 (fS S P) ls nw) i) then f_add (fS S1 P) 7 ((fd_1 (fS S P) ls nw) i) 1 else fS S1 P := by rw [g1, g2, if_neg hgt]
              have k11 : S1.2 11 = S1.2 11 := rfl
              have k12 : S54.2 12 = S1.2 12 := (oS54 12 (by decide))
              have k10 : S56.2 10 = S1.2 10 := (oS56 10 (by decide) (by decide)).trans ((oS55 10 (by decide)).trans ((oS54 10 (by decide))))
              have k13 : S57.2 13 = S1.2 13 := (oS57 13 (by decide)).trans ((oS56 13 (by decide) (by decide)).trans ((oS55 13 (by decide)).trans ((oS54 13 (by decide)))))
              have iall : S58.1 = S1.1 := iS58.trans (iS57.trans (iS56.trans (iS55.trans (iS54))))
              have efin : fS S58 P = startBoutF (fS S1 P) i ((fd_1 (fS S P) ls nw) i) ((fd_2 (fS S P) ls nw) i) := by
                rw [← bout_eq (q := i) (r := ((fd_2 (fS S P) ls nw) i)) (u := ((fd_1 (fS S P) ls nw) i)) (by unfold sx_r; rw [if_neg hrd1]) (by unfold sx_b; rw [if_neg hrd1]) e7]
                rw [eS58, eS57, eS56, eS55, eS54, k11, k12, k10, k13, (hp i hii).2, (hp i hii).1]
                rfl
              exact ih _ _ _ (by rw [hx]; exact nI_1 i) w58M w58N wS58 s58 (by rw [efin]; show _ = (startBoutF (srL (sr_0 (fS S P) (pX ((fd_k (fS S P) ls nw) / 2) (rs_r (fS S P) (fd_l (fS S P) ls nw) (lup (fS S P) ls nw).length))) (fd_1 (fS S P) ls nw) (fd_2 (fS S P) ls nw) i) i ((fd_1 (fS S P) ls nw) i) ((fd_2 (fS S P) ls nw) i)).2; exact sb_2 h2 _ _ _) ⟨(congrFun iall 0).trans hi1.1, (congrFun iall 1).trans hi1.2.1, (congrFun iall 2).trans hi1.2.2⟩ (((oS58 1 (by decide)).trans ((oS57 1 (by decide)).trans ((oS56 1 (by decide) (by decide)).trans ((oS55 1 (by decide)).trans ((oS54 1 (by decide))))))).trans hpt) (((oS58 9 (by decide)).trans ((oS57 9 (by decide)).trans ((oS56 9 (by decide) (by decide)).trans ((oS55 9 (by decide)).trans ((oS54 9 (by decide))))))).trans hou)
            · exact absurd h128 h110
          · have hrd : redB (fS S1 P) ((fd_1 (fS S P) ls nw) i) ((fd_2 (fS S P) ls nw) i) = true := h110
            refine J_iload dX9_pair_113 rfl ?_
            refine J_goto (tgt := 120) dX9_pair_115 rfl ?_
            refine J_iastN i dX9_pair_120 (hS1.at 11 rfl) hx (by omega) (by decide) ?_
            refine J_genA (wS_a11 hS1 _) (hs1.put (by omega) (by omega) _) (fun A59 w59 s59 o59 => ?_)
            have w59M := layM_o hM1 o59 (by first | (unfold isM; have := hap.2.1; omega))
            have w59N := hN1.oP o59 hap (by unfold isM; omega)
            obtain ⟨S59, wS59, eS59, iS59, vS59, oS59⟩ := wS_set11 P w59
            refine J_aload_n dX9_pair_121 rfl rfl ?_
            refine J_getf dX9_pair_122 fl_X9_166 (wS59.at 0 rfl) rfl ?_
            refine J_iload_n dX9_pair_125 rfl rfl ?_
            refine J_iload dX9_pair_126 rfl ?_
            refine J_ifb_eq (tgt := 136) dX9_pair_128 rfl (fun h128 => ?_) (fun h128 => ?_)
            · exact absurd h110 h128
            · refine J_iload dX9_pair_131 rfl ?_
              refine J_goto (tgt := 138) dX9_pair_133 rfl ?_
              refine J_iastN i dX9_pair_138 (wS59.at 12 rfl) hx (by omega) (by decide) ?_
              refine J_genA (wS_a12 wS59 _) (s59.put (by omega) (by omega) _) (fun A60 w60 s60 o60 => ?_)
              have w60M := layM_o w59M o60 (by first | (unfold isM; have := hap.2.1; omega))
              have w60N := w59N.oP o60 hap (by unfold isM; omega)
              obtain ⟨S60, wS60, eS60, iS60, vS60, oS60⟩ := wS_set12 P w60
              refine J_aload_n dX9_pair_139 rfl rfl ?_
              refine J_aload_n dX9_pair_140 rfl rfl ?_
              refine J_aload_n dX9_pair_141 rfl rfl ?_
              refine J_getf dX9_pair_142 fl_X9_163 (wS60.at 0 rfl) rfl ?_
              refine J_iload_n dX9_pair_145 rfl rfl ?_
              refine J_ialdN i dX9_pair_146 (wS60.at 11 rfl) hx (by omega) (by decide) ?_
              refine J_aload_n dX9_pair_147 rfl rfl ?_
              refine J_getf dX9_pair_148 fl_X9_166 (wS60.at 0 rfl) rfl ?_
              refine J_iload_n dX9_pair_151 rfl rfl ?_
              refine J_ialdN i dX9_pair_152 (wS60.at 12 rfl) hx (by omega) (by decide) ?_
              refine J_callVw (As := [_, _, _]) dX9_pair_153 ml_X9_169 cal_X9_giveBelts im_X9_giveBelts se_X9_giveBelts (w60M.at 0 rfl) rfl rfl rfl (Nat.le_of_ble_eq_true rfl) ⟨by decide, by decide⟩ ⟨by decide, by decide⟩ (c_X9_giveBelts hst wS60 (by rw [oS60 11 (by decide), vS59]; simp only [upd, if_true]; exact (hp i hii).1) (by omega) (by rw [vS60]; simp only [upd, if_true]; exact (hp i hii).2) (by omega)) (fun A61 hQ61 => ?_)
              have hM_61 := layM_sS w60M hQ61.2 hap
              have hN_61 := w60N.s2 hQ61.2 (m := 9) rfl (by omega)
              obtain ⟨S61, wS61, eS61, iS61, oS61⟩ := wS_gb P hQ61.1 (show (fd_1 (fS S P) ls nw) i < 12 by omega) (show (fd_2 (fS S P) ls nw) i < 12 by omega)
              refine J_aload_n dX9_pair_156 rfl rfl ?_
              refine J_iload dX9_pair_157 rfl ?_
              refine J_iload dX9_pair_159 rfl ?_
              refine J_callVw (As := [_, _]) dX9_pair_161 ml_X9_173 cal_X8_meet im_X8_meet se_X8_meet (wS61.at 0 rfl) rfl rfl rfl (Nat.le_of_ble_eq_true rfl) ⟨by decide, by decide⟩ ⟨by decide, by decide⟩ (c_X8_meet hst wS61 (hp i hii).1 (by omega) (hp i hii).2 (by omega)) (fun A62 hQ62 => ?_)
              have hM_62 := layM_sS hM_61 hQ62.2 hap
              have hN_62 := hN_61.s2 hQ62.2 (m := 9) rfl (by omega)
              obtain ⟨S62, wS62, eS62, iS62, vS62, oS62⟩ := wS_set10 P hQ62.1
              refine J_aload_n dX9_pair_164 rfl rfl ?_
              refine J_getf dX9_pair_165 fl_X9_177 (wS62.at 0 rfl) rfl ?_
              refine J_iload_n dX9_pair_168 rfl rfl ?_
              refine J_iconst (v := -1) dX9_pair_169 (by decide) ?_
              refine J_iastN i dX9_pair_170 (wS62.at 13 rfl) hx (by omega) (by decide) ?_
              refine J_genA (wS_a13 wS62 _) (((s60.trans hQ61.2.toR).trans hQ62.2.toR).put (by omega) (by omega) _) (fun A63 w63 s63 o63 => ?_)
              have w63M := layM_o hM_62 o63 (by first | (unfold isM; have := hap.2.1; omega))
              have w63N := hN_62.oP o63 hap (by unfold isM; omega)
              obtain ⟨S63, wS63, eS63, iS63, vS63, oS63⟩ := wS_set13 P w63
              refine J_iinc (v := _ + 1) (L' := [(3, _), (6, _), (5, _), (4, _), (2, _), (0, _), (1, _)]) dX9_pair_171 rfl rfl (by decide) rfl ?_
              refine J_goto (tgt := 21) dX9_pair_174 rfl ?_
              refine xx_J.pick [0, 4, 5, 6] rfl ?_
              have hrd1 : redB (fS S1 P) ((fd_1 (fS S P) ls nw) i) ((fd_2 (fS S P) ls nw) i) = true := hrd
              have hgt : ¬ S1.2 1 ((fd_2 (fS S P) ls nw) i) < S1.2 1 ((fd_1 (fS S P) ls nw) i) := fun z => by rw [h56, i_lt] at z; omega
              have e7 : (fS S1 P) = if f_at (fS S1 P) 1 ((fd_2 (fS S P) ls nw) i) < f_at (fS S1 P) 1 ((fd_1 (fS S P) ls nw) i) then f_add (fS S1 P) 7 ((fd_1 (fS S P) ls nw) i) 1 else fS S1 P := by rw [g1, g2, if_neg hgt]
              have k11 : S1.2 11 = S1.2 11 := rfl
              have k12 : S59.2 12 = S1.2 12 := (oS59 12 (by decide))
              have k10 : S61.2 10 = S1.2 10 := (oS61 10 (by decide) (by decide)).trans ((oS60 10 (by decide)).trans ((oS59 10 (by decide))))
              have k13 : S62.2 13 = S1.2 13 := (oS62 13 (by decide)).trans ((oS61 13 (by decide) (by decide)).trans ((oS60 13 (by decide)).trans ((oS59 13 (by decide)))))
              have iall : S63.1 = S1.1 := iS63.trans (iS62.trans (iS61.trans (iS60.trans (iS59))))
              have efin : fS S63 P = startBoutF (fS S1 P) i ((fd_1 (fS S P) ls nw) i) ((fd_2 (fS S P) ls nw) i) := by
                rw [← bout_eq (q := i) (r := ((fd_1 (fS S P) ls nw) i)) (u := ((fd_2 (fS S P) ls nw) i)) (by unfold sx_r; rw [if_pos hrd1]) (by unfold sx_b; rw [if_pos hrd1]) e7]
                rw [eS63, eS62, eS61, eS60, eS59, k11, k12, k10, k13, (hp i hii).1, (hp i hii).2]
                rfl
              exact ih _ _ _ (by rw [hx]; exact nI_1 i) w63M w63N wS63 s63 (by rw [efin]; show _ = (startBoutF (srL (sr_0 (fS S P) (pX ((fd_k (fS S P) ls nw) / 2) (rs_r (fS S P) (fd_l (fS S P) ls nw) (lup (fS S P) ls nw).length))) (fd_1 (fS S P) ls nw) (fd_2 (fS S P) ls nw) i) i ((fd_1 (fS S P) ls nw) i) ((fd_2 (fS S P) ls nw) i)).2; exact sb_2 h2 _ _ _) ⟨(congrFun iall 0).trans hi1.1, (congrFun iall 1).trans hi1.2.1, (congrFun iall 2).trans hi1.2.2⟩ (((oS63 1 (by decide)).trans ((oS62 1 (by decide)).trans ((oS61 1 (by decide) (by decide)).trans ((oS60 1 (by decide)).trans ((oS59 1 (by decide))))))).trans hpt) (((oS63 9 (by decide)).trans ((oS62 9 (by decide)).trans ((oS61 9 (by decide) (by decide)).trans ((oS60 9 (by decide)).trans ((oS59 9 (by decide))))))).trans hou)
        · refine J_aload_n dX9_pair_59 rfl rfl ?_
          refine J_getf dX9_pair_60 fl_X9_157 (hS1.at 0 rfl) rfl ?_
          refine J_aload_n dX9_pair_63 rfl rfl ?_
          refine J_getf dX9_pair_64 fl_X9_76 (hS1.at 0 rfl) rfl ?_
          refine J_iload dX9_pair_67 rfl ?_
          refine J_ialdN ((fd_1 (fS S P) ls nw) i) dX9_pair_69 (hS1.at 1 rfl) (hp i hii).1 (by omega) (by decide) ?_
          refine J_aload_n dX9_pair_70 rfl rfl ?_
          refine J_getf dX9_pair_71 fl_X9_76 (hS1.at 0 rfl) rfl ?_
          refine J_iload dX9_pair_74 rfl ?_
          refine J_ialdN ((fd_2 (fS S P) ls nw) i) dX9_pair_76 (hS1.at 1 rfl) (hp i hii).2 (by omega) (by decide) ?_
          refine J_icmp_le (tgt := 85) dX9_pair_77 rfl (fun h77 => ?_) (fun h77 => ?_)
          · exfalso
            simp only [i_lt, i_le, i_eq] at h56 h77 hpz
            omega
          · refine J_iload dX9_pair_80 rfl ?_
            refine J_goto (tgt := 87) dX9_pair_82 rfl ?_
            refine J_dup2 dX9_pair_87 rfl rfl ?_
            refine J_ialdN ((fd_1 (fS S P) ls nw) i) dX9_pair_88 (hS1.at 7 rfl) (hp i hii).1 (by omega) (by decide) ?_
            refine J_iconst (v := 1) dX9_pair_89 (by decide) ?_
            refine J_iadd dX9_pair_90 ?_
            refine J_iastN ((fd_1 (fS S P) ls nw) i) dX9_pair_91 (hS1.at 7 rfl) (hp i hii).1 (by omega) (by decide) ?_
            refine J_genA (wS_a7 hS1 _) (hs1.put (by omega) (by omega) _) (fun A64 w64 s64 o64 => ?_)
            have w64M := layM_o hM1 o64 (by first | (unfold isM; have := hap.2.1; omega))
            have w64N := hN1.oP o64 hap (by unfold isM; omega)
            obtain ⟨S64, wS64, eS64, iS64, oS64⟩ := wS_add7 P w64 (show ((fd_1 (fS S P) ls nw) i) < 12 by omega)
            refine J_aload_n dX9_pair_92 rfl rfl ?_
            refine J_aload_n dX9_pair_93 rfl rfl ?_
            refine J_iload dX9_pair_94 rfl ?_
            refine J_iload dX9_pair_96 rfl ?_
            refine J_callVr (As := [_, _, _]) dX9_pair_98 ml_X9_160 cal_X9_isFirstRed im_X9_isFirstRed se_X9_isFirstRed (w64M.at 0 rfl) rfl rfl rfl (Nat.le_of_ble_eq_true rfl) ⟨by decide, by decide⟩ ⟨by decide, by decide⟩ (c_X9_isFirstRed (P := P) hst wS64 (hp i hii).1 (by omega) (hp i hii).2 (by omega)) ?_
            refine J_istore (L' := [(6, _), (5, _), (4, _), (3, _), (2, _), (0, _), (1, _)]) dX9_pair_101 (by decide) rfl ?_
            refine J_aload_n dX9_pair_103 rfl rfl ?_
            refine J_getf dX9_pair_104 fl_X9_163 (wS64.at 0 rfl) rfl ?_
            refine J_iload_n dX9_pair_107 rfl rfl ?_
            refine J_iload dX9_pair_108 rfl ?_
            refine J_ifb_eq (tgt := 118) dX9_pair_110 rfl (fun h110 => ?_) (fun h110 => ?_)
            · have hrd : ¬ redB (fS S64 P) ((fd_1 (fS S P) ls nw) i) ((fd_2 (fS S P) ls nw) i) = true := h110
              refine J_iload dX9_pair_118 rfl ?_
              refine J_iastN i dX9_pair_120 (wS64.at 11 rfl) hx (by omega) (by decide) ?_
              refine J_genA (wS_a11 wS64 _) (s64.put (by omega) (by omega) _) (fun A65 w65 s65 o65 => ?_)
              have w65M := layM_o w64M o65 (by first | (unfold isM; have := hap.2.1; omega))
              have w65N := w64N.oP o65 hap (by unfold isM; omega)
              obtain ⟨S65, wS65, eS65, iS65, vS65, oS65⟩ := wS_set11 P w65
              refine J_aload_n dX9_pair_121 rfl rfl ?_
              refine J_getf dX9_pair_122 fl_X9_166 (wS65.at 0 rfl) rfl ?_
              refine J_iload_n dX9_pair_125 rfl rfl ?_
              refine J_iload dX9_pair_126 rfl ?_
              refine J_ifb_eq (tgt := 136) dX9_pair_128 rfl (fun h128 => ?_) (fun h128 => ?_)
              · refine J_iload dX9_pair_136 rfl ?_
                refine J_iastN i dX9_pair_138 (wS65.at 12 rfl) hx (by omega) (by decide) ?_
                refine J_genA (wS_a12 wS65 _) (s65.put (by omega) (by omega) _) (fun A66 w66 s66 o66 => ?_)
                have w66M := layM_o w65M o66 (by first | (unfold isM; have := hap.2.1; omega))
                have w66N := w65N.oP o66 hap (by unfold isM; omega)
                obtain ⟨S66, wS66, eS66, iS66, vS66, oS66⟩ := wS_set12 P w66
                refine J_aload_n dX9_pair_139 rfl rfl ?_
                refine J_aload_n dX9_pair_140 rfl rfl ?_
                refine J_aload_n dX9_pair_141 rfl rfl ?_
                refine J_getf dX9_pair_142 fl_X9_163 (wS66.at 0 rfl) rfl ?_
                refine J_iload_n dX9_pair_145 rfl rfl ?_
                refine J_ialdN i dX9_pair_146 (wS66.at 11 rfl) hx (by omega) (by decide) ?_
                refine J_aload_n dX9_pair_147 rfl rfl ?_
                refine J_getf dX9_pair_148 fl_X9_166 (wS66.at 0 rfl) rfl ?_
                refine J_iload_n dX9_pair_151 rfl rfl ?_
                refine J_ialdN i dX9_pair_152 (wS66.at 12 rfl) hx (by omega) (by decide) ?_
                refine J_callVw (As := [_, _, _]) dX9_pair_153 ml_X9_169 cal_X9_giveBelts im_X9_giveBelts se_X9_giveBelts (w66M.at 0 rfl) rfl rfl rfl (Nat.le_of_ble_eq_true rfl) ⟨by decide, by decide⟩ ⟨by decide, by decide⟩ (c_X9_giveBelts hst wS66 (by rw [oS66 11 (by decide), vS65]; simp only [upd, if_true]; exact (hp i hii).2) (by omega) (by rw [vS66]; simp only [upd, if_true]; exact (hp i hii).1) (by omega)) (fun A67 hQ67 => ?_)
                have hM_67 := layM_sS w66M hQ67.2 hap
                have hN_67 := w66N.s2 hQ67.2 (m := 9) rfl (by omega)
                obtain ⟨S67, wS67, eS67, iS67, oS67⟩ := wS_gb P hQ67.1 (show (fd_2 (fS S P) ls nw) i < 12 by omega) (show (fd_1 (fS S P) ls nw) i < 12 by omega)
                refine J_aload_n dX9_pair_156 rfl rfl ?_
                refine J_iload dX9_pair_157 rfl ?_
                refine J_iload dX9_pair_159 rfl ?_
                refine J_callVw (As := [_, _]) dX9_pair_161 ml_X9_173 cal_X8_meet im_X8_meet se_X8_meet (wS67.at 0 rfl) rfl rfl rfl (Nat.le_of_ble_eq_true rfl) ⟨by decide, by decide⟩ ⟨by decide, by decide⟩ (c_X8_meet hst wS67 (hp i hii).1 (by omega) (hp i hii).2 (by omega)) (fun A68 hQ68 => ?_)
                have hM_68 := layM_sS hM_67 hQ68.2 hap
                have hN_68 := hN_67.s2 hQ68.2 (m := 9) rfl (by omega)
                obtain ⟨S68, wS68, eS68, iS68, vS68, oS68⟩ := wS_set10 P hQ68.1
                refine J_aload_n dX9_pair_164 rfl rfl ?_
                refine J_getf dX9_pair_165 fl_X9_177 (wS68.at 0 rfl) rfl ?_
                refine J_iload_n dX9_pair_168 rfl rfl ?_
                refine J_iconst (v := -1) dX9_pair_169 (by decide) ?_
                refine J_iastN i dX9_pair_170 (wS68.at 13 rfl) hx (by omega) (by decide) ?_
                refine J_genA (wS_a13 wS68 _) (((s66.trans hQ67.2.toR).trans hQ68.2.toR).put (by omega) (by omega) _) (fun A69 w69 s69 o69 => ?_)
                have w69M := layM_o hM_68 o69 (by first | (unfold isM; have := hap.2.1; omega))
                have w69N := hN_68.oP o69 hap (by unfold isM; omega)
                obtain ⟨S69, wS69, eS69, iS69, vS69, oS69⟩ := wS_set13 P w69
                refine J_iinc (v := _ + 1) (L' := [(3, _), (6, _), (5, _), (4, _), (2, _), (0, _), (1, _)]) dX9_pair_171 rfl rfl (by decide) rfl ?_
                refine J_goto (tgt := 21) dX9_pair_174 rfl ?_
                refine xx_J.pick [0, 4, 5, 6] rfl ?_
                have hrd1 : ¬ redB (fS S1 P) ((fd_1 (fS S P) ls nw) i) ((fd_2 (fS S P) ls nw) i) = true := by rw [← red7 (F := fS S1 P) (k := (fd_1 (fS S P) ls nw) i) (d := 1) (by omega) (by omega) (by omega), ← eS64]; exact hrd
                have hgt : S1.2 1 ((fd_2 (fS S P) ls nw) i) < S1.2 1 ((fd_1 (fS S P) ls nw) i) := Int32.not_le.mp h77
                have e7 : (f_add (fS S1 P) 7 ((fd_1 (fS S P) ls nw) i) 1) = if f_at (fS S1 P) 1 ((fd_2 (fS S P) ls nw) i) < f_at (fS S1 P) 1 ((fd_1 (fS S P) ls nw) i) then f_add (fS S1 P) 7 ((fd_1 (fS S P) ls nw) i) 1 else fS S1 P := by rw [g1, g2, if_pos hgt]
                have k11 : S64.2 11 = S1.2 11 := (oS64 11 (by decide))
                have k12 : S65.2 12 = S1.2 12 := (oS65 12 (by decide)).trans ((oS64 12 (by decide)))
                have k10 : S67.2 10 = S1.2 10 := (oS67 10 (by decide) (by decide)).trans ((oS66 10 (by decide)).trans ((oS65 10 (by decide)).trans ((oS64 10 (by decide)))))
                have k13 : S68.2 13 = S1.2 13 := (oS68 13 (by decide)).trans ((oS67 13 (by decide) (by decide)).trans ((oS66 13 (by decide)).trans ((oS65 13 (by decide)).trans ((oS64 13 (by decide))))))
                have iall : S69.1 = S1.1 := iS69.trans (iS68.trans (iS67.trans (iS66.trans (iS65.trans (iS64)))))
                have efin : fS S69 P = startBoutF (fS S1 P) i ((fd_1 (fS S P) ls nw) i) ((fd_2 (fS S P) ls nw) i) := by
                  rw [← bout_eq (q := i) (r := ((fd_2 (fS S P) ls nw) i)) (u := ((fd_1 (fS S P) ls nw) i)) (by unfold sx_r; rw [if_neg hrd1]) (by unfold sx_b; rw [if_neg hrd1]) e7]
                  rw [eS69, eS68, eS67, eS66, eS65, eS64, k11, k12, k10, k13, (hp i hii).2, (hp i hii).1]
                  rfl
                exact ih _ _ _ (by rw [hx]; exact nI_1 i) w69M w69N wS69 s69 (by rw [efin]; show _ = (startBoutF (srL (sr_0 (fS S P) (pX ((fd_k (fS S P) ls nw) / 2) (rs_r (fS S P) (fd_l (fS S P) ls nw) (lup (fS S P) ls nw).length))) (fd_1 (fS S P) ls nw) (fd_2 (fS S P) ls nw) i) i ((fd_1 (fS S P) ls nw) i) ((fd_2 (fS S P) ls nw) i)).2; exact sb_2 h2 _ _ _) ⟨(congrFun iall 0).trans hi1.1, (congrFun iall 1).trans hi1.2.1, (congrFun iall 2).trans hi1.2.2⟩ (((oS69 1 (by decide)).trans ((oS68 1 (by decide)).trans ((oS67 1 (by decide) (by decide)).trans ((oS66 1 (by decide)).trans ((oS65 1 (by decide)).trans ((oS64 1 (by decide)))))))).trans hpt) (((oS69 9 (by decide)).trans ((oS68 9 (by decide)).trans ((oS67 9 (by decide) (by decide)).trans ((oS66 9 (by decide)).trans ((oS65 9 (by decide)).trans ((oS64 9 (by decide)))))))).trans hou)
              · exact absurd h128 h110
            · have hrd : redB (fS S64 P) ((fd_1 (fS S P) ls nw) i) ((fd_2 (fS S P) ls nw) i) = true := h110
              refine J_iload dX9_pair_113 rfl ?_
              refine J_goto (tgt := 120) dX9_pair_115 rfl ?_
              refine J_iastN i dX9_pair_120 (wS64.at 11 rfl) hx (by omega) (by decide) ?_
              refine J_genA (wS_a11 wS64 _) (s64.put (by omega) (by omega) _) (fun A70 w70 s70 o70 => ?_)
              have w70M := layM_o w64M o70 (by first | (unfold isM; have := hap.2.1; omega))
              have w70N := w64N.oP o70 hap (by unfold isM; omega)
              obtain ⟨S70, wS70, eS70, iS70, vS70, oS70⟩ := wS_set11 P w70
              refine J_aload_n dX9_pair_121 rfl rfl ?_
              refine J_getf dX9_pair_122 fl_X9_166 (wS70.at 0 rfl) rfl ?_
              refine J_iload_n dX9_pair_125 rfl rfl ?_
              refine J_iload dX9_pair_126 rfl ?_
              refine J_ifb_eq (tgt := 136) dX9_pair_128 rfl (fun h128 => ?_) (fun h128 => ?_)
              · exact absurd h110 h128
              · refine J_iload dX9_pair_131 rfl ?_
                refine J_goto (tgt := 138) dX9_pair_133 rfl ?_
                refine J_iastN i dX9_pair_138 (wS70.at 12 rfl) hx (by omega) (by decide) ?_
                refine J_genA (wS_a12 wS70 _) (s70.put (by omega) (by omega) _) (fun A71 w71 s71 o71 => ?_)
                have w71M := layM_o w70M o71 (by first | (unfold isM; have := hap.2.1; omega))
                have w71N := w70N.oP o71 hap (by unfold isM; omega)
                obtain ⟨S71, wS71, eS71, iS71, vS71, oS71⟩ := wS_set12 P w71
                refine J_aload_n dX9_pair_139 rfl rfl ?_
                refine J_aload_n dX9_pair_140 rfl rfl ?_
                refine J_aload_n dX9_pair_141 rfl rfl ?_
                refine J_getf dX9_pair_142 fl_X9_163 (wS71.at 0 rfl) rfl ?_
                refine J_iload_n dX9_pair_145 rfl rfl ?_
                refine J_ialdN i dX9_pair_146 (wS71.at 11 rfl) hx (by omega) (by decide) ?_
                refine J_aload_n dX9_pair_147 rfl rfl ?_
                refine J_getf dX9_pair_148 fl_X9_166 (wS71.at 0 rfl) rfl ?_
                refine J_iload_n dX9_pair_151 rfl rfl ?_
                refine J_ialdN i dX9_pair_152 (wS71.at 12 rfl) hx (by omega) (by decide) ?_
                refine J_callVw (As := [_, _, _]) dX9_pair_153 ml_X9_169 cal_X9_giveBelts im_X9_giveBelts se_X9_giveBelts (w71M.at 0 rfl) rfl rfl rfl (Nat.le_of_ble_eq_true rfl) ⟨by decide, by decide⟩ ⟨by decide, by decide⟩ (c_X9_giveBelts hst wS71 (by rw [oS71 11 (by decide), vS70]; simp only [upd, if_true]; exact (hp i hii).1) (by omega) (by rw [vS71]; simp only [upd, if_true]; exact (hp i hii).2) (by omega)) (fun A72 hQ72 => ?_)
                have hM_72 := layM_sS w71M hQ72.2 hap
                have hN_72 := w71N.s2 hQ72.2 (m := 9) rfl (by omega)
                obtain ⟨S72, wS72, eS72, iS72, oS72⟩ := wS_gb P hQ72.1 (show (fd_1 (fS S P) ls nw) i < 12 by omega) (show (fd_2 (fS S P) ls nw) i < 12 by omega)
                refine J_aload_n dX9_pair_156 rfl rfl ?_
                refine J_iload dX9_pair_157 rfl ?_
                refine J_iload dX9_pair_159 rfl ?_
                refine J_callVw (As := [_, _]) dX9_pair_161 ml_X9_173 cal_X8_meet im_X8_meet se_X8_meet (wS72.at 0 rfl) rfl rfl rfl (Nat.le_of_ble_eq_true rfl) ⟨by decide, by decide⟩ ⟨by decide, by decide⟩ (c_X8_meet hst wS72 (hp i hii).1 (by omega) (hp i hii).2 (by omega)) (fun A73 hQ73 => ?_)
                have hM_73 := layM_sS hM_72 hQ73.2 hap
                have hN_73 := hN_72.s2 hQ73.2 (m := 9) rfl (by omega)
                obtain ⟨S73, wS73, eS73, iS73, vS73, oS73⟩ := wS_set10 P hQ73.1
                refine J_aload_n dX9_pair_164 rfl rfl ?_
                refine J_getf dX9_pair_165 fl_X9_177 (wS73.at 0 rfl) rfl ?_
                refine J_iload_n dX9_pair_168 rfl rfl ?_
                refine J_iconst (v := -1) dX9_pair_169 (by decide) ?_
                refine J_iastN i dX9_pair_170 (wS73.at 13 rfl) hx (by omega) (by decide) ?_
                refine J_genA (wS_a13 wS73 _) (((s71.trans hQ72.2.toR).trans hQ73.2.toR).put (by omega) (by omega) _) (fun A74 w74 s74 o74 => ?_)
                have w74M := layM_o hM_73 o74 (by first | (unfold isM; have := hap.2.1; omega))
                have w74N := hN_73.oP o74 hap (by unfold isM; omega)
                obtain ⟨S74, wS74, eS74, iS74, vS74, oS74⟩ := wS_set13 P w74
                refine J_iinc (v := _ + 1) (L' := [(3, _), (6, _), (5, _), (4, _), (2, _), (0, _), (1, _)]) dX9_pair_171 rfl rfl (by decide) rfl ?_
                refine J_goto (tgt := 21) dX9_pair_174 rfl ?_
                refine xx_J.pick [0, 4, 5, 6] rfl ?_
                have hrd1 : redB (fS S1 P) ((fd_1 (fS S P) ls nw) i) ((fd_2 (fS S P) ls nw) i) = true := by rw [← red7 (F := fS S1 P) (k := (fd_1 (fS S P) ls nw) i) (d := 1) (by omega) (by omega) (by omega), ← eS64]; exact hrd
                have hgt : S1.2 1 ((fd_2 (fS S P) ls nw) i) < S1.2 1 ((fd_1 (fS S P) ls nw) i) := Int32.not_le.mp h77
                have e7 : (f_add (fS S1 P) 7 ((fd_1 (fS S P) ls nw) i) 1) = if f_at (fS S1 P) 1 ((fd_2 (fS S P) ls nw) i) < f_at (fS S1 P) 1 ((fd_1 (fS S P) ls nw) i) then f_add (fS S1 P) 7 ((fd_1 (fS S P) ls nw) i) 1 else fS S1 P := by rw [g1, g2, if_pos hgt]
                have k11 : S64.2 11 = S1.2 11 := (oS64 11 (by decide))
                have k12 : S70.2 12 = S1.2 12 := (oS70 12 (by decide)).trans ((oS64 12 (by decide)))
                have k10 : S72.2 10 = S1.2 10 := (oS72 10 (by decide) (by decide)).trans ((oS71 10 (by decide)).trans ((oS70 10 (by decide)).trans ((oS64 10 (by decide)))))
                have k13 : S73.2 13 = S1.2 13 := (oS73 13 (by decide)).trans ((oS72 13 (by decide) (by decide)).trans ((oS71 13 (by decide)).trans ((oS70 13 (by decide)).trans ((oS64 13 (by decide))))))
                have iall : S74.1 = S1.1 := iS74.trans (iS73.trans (iS72.trans (iS71.trans (iS70.trans (iS64)))))
                have efin : fS S74 P = startBoutF (fS S1 P) i ((fd_1 (fS S P) ls nw) i) ((fd_2 (fS S P) ls nw) i) := by
                  rw [← bout_eq (q := i) (r := ((fd_1 (fS S P) ls nw) i)) (u := ((fd_2 (fS S P) ls nw) i)) (by unfold sx_r; rw [if_pos hrd1]) (by unfold sx_b; rw [if_pos hrd1]) e7]
                  rw [eS74, eS73, eS72, eS71, eS70, eS64, k11, k12, k10, k13, (hp i hii).1, (hp i hii).2]
                  rfl
                exact ih _ _ _ (by rw [hx]; exact nI_1 i) w74M w74N wS74 s74 (by rw [efin]; show _ = (startBoutF (srL (sr_0 (fS S P) (pX ((fd_k (fS S P) ls nw) / 2) (rs_r (fS S P) (fd_l (fS S P) ls nw) (lup (fS S P) ls nw).length))) (fd_1 (fS S P) ls nw) (fd_2 (fS S P) ls nw) i) i ((fd_1 (fS S P) ls nw) i) ((fd_2 (fS S P) ls nw) i)).2; exact sb_2 h2 _ _ _) ⟨(congrFun iall 0).trans hi1.1, (congrFun iall 1).trans hi1.2.1, (congrFun iall 2).trans hi1.2.2⟩ (((oS74 1 (by decide)).trans ((oS73 1 (by decide)).trans ((oS72 1 (by decide) (by decide)).trans ((oS71 1 (by decide)).trans ((oS70 1 (by decide)).trans ((oS64 1 (by decide)))))))).trans hpt) (((oS74 9 (by decide)).trans ((oS73 9 (by decide)).trans ((oS72 9 (by decide) (by decide)).trans ((oS71 9 (by decide)).trans ((oS70 9 (by decide)).trans ((oS64 9 (by decide)))))))).trans hou)
  refine xx_J.pick [0, 1, 2, 3] rfl ?_
  exact loop 0 (by omega) _ _ _ rfl w3M w3N wS3 s3 (by rw [eS3]; show (fS S2 P).2 = _; rw [eS2]; rfl) ⟨(oS3 0 (by decide)).trans (oS2 0 (by decide)), (oS3 1 (by decide)).trans vS2, vS3.trans hrp⟩ (by rw [iS3, iS2]) (by rw [iS3, iS2])
end XS7
