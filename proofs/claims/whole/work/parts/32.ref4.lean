/-! THE REFERENCE: pairs, pair, tell -/
section XS4
variable {G : xx_G} {l : Launch} {A A' : xx_H} {n : Nat} {bm bp bs bn ba : Nat} {vL nl : Nat → Int64} {M M' M1 P S : xS}
theorem fwO_1 {met : Nat → Nat → Bool} {k : Nat} {fw : Nat → Int32} : fwO met k 1 (upd fw 0 0) := fun t ht p hp => by
  have : t = 0 := by omega
  subst this
  rw [pcn_z] at hp
  have : p = 0 := by omega
  subst this
  rfl
theorem fwO_odd {met : Nat → Nat → Bool} {k i : Nat} {fw : Nat → Int32} (h : fwO met k i fw) (ho : ¬ pcn i 12 % 2 = 0) : fwO met k (i + 1) fw := fun t ht p hp => by
  by_cases e : t = i
  · subst e; omega
  · exact h t (by omega) p hp
theorem fwO_upd {met : Nat → Nat → Bool} {k i p : Nat} {fw : Nat → Int32} (h : fwO met k i fw) (hp : pcn i 12 = 2 * (p + 1)) : fwO met k (i + 1) (upd fw i (nI (mr met k (p + 1) i))) := fun t ht q hq => by
  simp only [upd]
  by_cases e : t = i
  · subst e
    rw [if_pos rfl]
    have : q = p + 1 := by omega
    rw [this]
  · rw [if_neg e]
    exact h t (by omega) q hq
theorem fwO_same {met : Nat → Nat → Bool} {k j i p : Nat} {fw : Nat → Int32} (h : fwO met k j fw) (hp : pcn i 12 = 2 * (p + 1)) : fwO met k j (upd fw i (nI (mr met k (p + 1) i))) := fun t ht q hq => by
  simp only [upd]
  by_cases e : t = i
  · subst e
    rw [if_pos rfl]
    have : q = p + 1 := by omega
    rw [this]
  · rw [if_neg e]
    exact h t (by omega) q hq
theorem pcn_le (s : Nat) : ∀ k, pcn s k ≤ k := by
  intro k
  induction k with
  | zero => exact Nat.le_refl _
  | succ k ih =>
    simp only [pcn]
    split <;> omega
theorem rs_ev2 (k : Nat) : rs_k k = 2 * (rs_k k / 2) := by unfold rs_k; split <;> omega
theorem rs_le (k : Nat) : rs_k k ≤ k := by unfold rs_k; split <;> omega
theorem i_pos {s : Nat} (h : s < 2 ^ 31) : nI s ≤ 0 ↔ s = 0 := by rw [i_le, i_n h, i_0]; omega
def prsP (M S P : xS) (ls : List Nat) (nw bp bn ba bm n : Nat) (vL : Nat → Int64) (A : xx_H) : xx_Q := xx_wr (some (.int (nI ((fd_k (fS S P) ls nw) / 2)))) n (fun A' => ∃ M', scr M M' ∧ M'.1 15 = rs_r (fS S P) (fd_l (fS S P) ls nw) (lup (fS S P) ls nw).length ∧ (∀ q, q < ((fd_k (fS S P) ls nw) / 2) → M'.2 45 q = nI (fd_1 (fS S P) ls nw q) ∧ M'.2 46 q = nI (fd_2 (fS S P) ls nw q)) ∧ xx_w bm (layM bp vL bn ba bm M') A' ∧ xx_mf bm A A')
set_option maxHeartbeats 2000000 in
theorem c_X9_pairs (hst : l.stackTraces = false) (hM : xx_w bm (layM bp vL bn ba bm M) A) (hN : xx_w bp (layN nl bp P) A) (hS : xx_w bs (layS bs S) A) (hap : apR bm bp bs) {nw : Nat} (hn : P.1 0 = nI nw) (h12 : nw ≤ 12) (hbd : bdP (fS S P) nw) {ls : List Nat} (hls : srt (f_R (fS S P) nw) nw ls)  : xx_C G l yX9_pairs mX9_pairs 6 140 0 0 [.ref bm, .ref bs] A n (prsP M S P ls nw bp bn ba bm n vL A) := by
  have hk12 : (fd_k (fS S P) ls nw) ≤ 12 := Nat.le_trans (rs_le _) (Nat.le_trans lup_len h12)
  have hke : (fd_k (fS S P) ls nw) = 2 * ((fd_k (fS S P) ls nw) / 2) := rs_ev2 _
  have h2k := Nat.two_pow_pos (fd_k (fS S P) ls nw)
  refine J_C hst (by decide +kernel) rfl rfl rfl (Nat.le_of_ble_eq_true rfl) ?_
  show xx_J _ _ _ _ _ _ _ _ 0 [(0, _), (1, _)] [] _ _ _ _
  refine J_aload_n dX9_pairs_0 rfl rfl ?_
  refine J_aload_n dX9_pairs_1 rfl rfl ?_
  refine J_callVw (As := [_]) dX9_pairs_2 ml_X9_127 cal_X9_layRow im_X9_layRow se_X9_layRow (hM.at 0 rfl) rfl rfl rfl (Nat.le_of_ble_eq_true rfl) ⟨by decide, by decide⟩ ⟨by decide, by decide⟩ (c_X9_layRow hst hM hN hS hap hn h12 hbd hls) (fun A1 hQ1 => ?_)
  obtain ⟨Ma, sc_1, hka, hla, hM_1, hs_1⟩ := hQ1
  have hN_1 := hN.mf hs_1 (m := 9) rfl hap.p
  have hS_1 := hS.mf hs_1 (m := 14) rfl hap.s
  have hlna := fd_lnk hls.1 hla
  refine J_aload_n dX9_pairs_5 rfl rfl ?_
  refine J_aload_n dX9_pairs_6 rfl rfl ?_
  refine J_callVw (As := [_]) dX9_pairs_7 ml_X9_131 cal_X9_letRest im_X9_letRest se_X9_letRest (hM_1.at 0 rfl) rfl rfl rfl (Nat.le_of_ble_eq_true rfl) ⟨by decide, by decide⟩ ⟨by decide, by decide⟩ (c_X9_letRest hst hM_1 hN_1 hS_1 hap h12 hka (Nat.le_trans lup_len h12) hlna) (fun A2 hQ2 => ?_)
  obtain ⟨Mb, sc_2, hk2, hr2, hl2, hM_2, hs_2⟩ := hQ2
  have hN_2 := hN_1.mf hs_2 (m := 9) rfl hap.p
  have hS_2 := hS_1.mf hs_2 (m := 14) rfl hap.s
  refine J_aload_n dX9_pairs_10 rfl rfl ?_
  refine J_getf dX9_pairs_11 fl_X9_50 (hM_2.at 0 rfl) rfl ?_
  refine J_iconst (v := 0) dX9_pairs_14 (by decide) ?_
  refine J_iconst (v := 0) dX9_pairs_15 (by decide) ?_
  refine J_iastN 0 dX9_pairs_16 (hM_2.at 7 rfl) rfl (by decide) (by decide) ?_
  refine J_genA (wM_a44 hM_2 _) ((((xx_mf.rf (bm := bm)).trans hs_1).trans hs_2).put (by omega) (by omega) _) (fun A3 w3 s3 o3 => ?_)
  have w3N := hN_2.oP o3 hap (by unfold isM; omega)
  have w3S := hS_2.oS o3 hap (by unfold isM; omega)
  refine J_iconst (v := 1) dX9_pairs_17 (by decide) ?_
  refine J_istore_n (L' := [(2, _), (0, _), (1, _)]) dX9_pairs_18 rfl (by decide) rfl ?_
  have loop : ∀ i, i ≤ (2 ^ (fd_k (fS S P) ls nw)) → ∀ (x : Int32) (A1 : xx_H) (M1 : xS), (x = nI i) → (xx_w bm (layM bp vL bn ba bm M1) A1) → (xx_w bp (layN nl bp P) A1) → (xx_w bs (layS bs S) A1) → (xx_mf bm A A1) → (scr M M1) → (M1.1 14 = nI (fd_k (fS S P) ls nw)) → (M1.1 15 = rs_r (fS S P) (fd_l (fS S P) ls nw) (lup (fS S P) ls nw).length) → (lnk (M1.2 43) (fd_a (fS S P) ls nw) (fd_k (fS S P) ls nw) nw) → (fwO (fd_m (fS S P) ls nw) (fd_k (fS S P) ls nw) i (M1.2 44)) → (1 ≤ i) → xx_J G l mX9_pairs 6 140 0 0 (prsP M S P ls nw bp bn ba bm n vL A) 19 [(2, .int x), (0, .ref bm), (1, .ref bs)] [] A1 n 0 0 := by
    refine xx_dn ?_ ?_
    · intro x  A1  M1  hx hM1 hN1 hS1 hs1 hsc hk1 hr1 hl1 hf hi1
      have h4 := pw12 hk12
      have ex : x.toInt = (2 ^ (fd_k (fS S P) ls nw) : Nat) := by rw [hx]; exact i_n (by omega)
      have ek : (nI (2 ^ (fd_k (fS S P) ls nw))).toInt = (2 ^ (fd_k (fS S P) ls nw) : Nat) := i_n (by omega)
      have hf9 : fwO (fd_m (fS S P) ls nw) (fd_k (fS S P) ls nw) (2 ^ (fd_k (fS S P) ls nw)) (M1.2 44) := hf
      refine J_iload_n dX9_pairs_19 rfl rfl ?_
      refine J_iconst (v := 1) dX9_pairs_20 (by decide) ?_
      refine J_aload_n dX9_pairs_21 rfl rfl ?_
      refine J_getf dX9_pairs_22 fl_X9_108 (hM1.at 0 rfl) rfl ?_
      refine J_ishl dX9_pairs_25 ?_
      rw [hk1, is_one (by omega)]
      refine J_icmp_ge (tgt := 51) dX9_pairs_26 rfl (fun h26 => ?_) (fun h26 => ?_)
      · refine J_iconst (v := 1) dX9_pairs_51 (by decide) ?_
        refine J_aload_n dX9_pairs_52 rfl rfl ?_
        refine J_getf dX9_pairs_53 fl_X9_108 (hM1.at 0 rfl) rfl ?_
        refine J_ishl dX9_pairs_56 ?_
        refine J_iconst (v := 1) dX9_pairs_57 (by decide) ?_
        rw [hk1, is_one (by omega)]
        have h58 : nI (2 ^ (fd_k (fS S P) ls nw)) - 1 = nI (setAt (fd_m (fS S P) ls nw) (fd_k (fS S P) ls nw) ((fd_k (fS S P) ls nw) / 2) 0) := by
          show _ = nI (2 ^ _ - 1)
          rw [show (1 : Int32) = nI 1 from rfl, pk_sub (Nat.two_pow_pos _)]
        refine J_isub dX9_pairs_58 ?_
        refine J_istore_n (L' := [(2, _), (0, _), (1, _)]) dX9_pairs_59 rfl (by decide) rfl ?_
        refine J_iconst (v := 0) dX9_pairs_60 (by decide) ?_
        refine J_istore_n (L' := [(3, _), (2, _), (0, _), (1, _)]) dX9_pairs_61 rfl (by decide) rfl ?_
        have loop2 : ∀ i, i ≤ ((fd_k (fS S P) ls nw) / 2) → ∀ (x y : Int32) (A1 : xx_H) (M1 : xS), (x = nI (setAt (fd_m (fS S P) ls nw) (fd_k (fS S P) ls nw) ((fd_k (fS S P) ls nw) / 2) i)) → (y = nI i) → (xx_w bm (layM bp vL bn ba bm M1) A1) → (xx_w bp (layN nl bp P) A1) → (xx_w bs (layS bs S) A1) → (xx_mf bm A A1) → (scr M M1) → (M1.1 14 = nI (fd_k (fS S P) ls nw)) → (M1.1 15 = rs_r (fS S P) (fd_l (fS S P) ls nw) (lup (fS S P) ls nw).length) → (lnk (M1.2 43) (fd_a (fS S P) ls nw) (fd_k (fS S P) ls nw) nw) → (fwO (fd_m (fS S P) ls nw) (fd_k (fS S P) ls nw) (2 ^ (fd_k (fS S P) ls nw)) (M1.2 44)) → (∀ q, q < i → M1.2 45 q = nI (fd_1 (fS S P) ls nw q) ∧ M1.2 46 q = nI (fd_2 (fS S P) ls nw q)) → xx_J G l mX9_pairs 6 140 0 0 (prsP M S P ls nw bp bn ba bm n vL A) 62 [(3, .int y), (2, .int x), (0, .ref bm), (1, .ref bs)] [] A1 n 0 0 := by
          refine xx_dn ?_ ?_
          · intro x y  A1  M1  hx hy hM1 hN1 hS1 hs1 hsc hk1 hr1 hl1 hf hp
            obtain ⟨hs9, hpc9⟩ := setAt_ok (met := (fd_m (fS S P) ls nw)) hk12 hke ((fd_k (fS S P) ls nw) / 2) (Nat.le_refl _)
            have hz9 : setAt (fd_m (fS S P) ls nw) (fd_k (fS S P) ls nw) ((fd_k (fS S P) ls nw) / 2) ((fd_k (fS S P) ls nw) / 2) = 0 := pcn_zero (k := 12) (Nat.lt_of_lt_of_le hs9 (Nat.pow_le_pow_right (by omega) hk12)) (by omega)
            have hx9 : x ≤ 0 := by rw [hx, hz9]; decide
            refine J_iload_n dX9_pairs_62 rfl rfl ?_
            refine J_if_le (tgt := 129) dX9_pairs_63 rfl (fun h63 => ?_) (fun h63 => ?_)
            · refine J_iload_n dX9_pairs_129 rfl rfl ?_
              refine J_ireturn dX9_pairs_130 rfl rfl (by decide) (by decide) ?_
              exact ⟨by rw [hy], rfl, M1, hsc, hr1, hp, hM1, hs1⟩
            · first | exact absurd h63 hx9 | exact absurd hx9 h63
          · intro i hii ih x y  A1  M1  hx hy hM1 hN1 hS1 hs1 hsc hk1 hr1 hl1 hf hp
            obtain ⟨hs9, hpc9⟩ := setAt_ok (met := (fd_m (fS S P) ls nw)) hk12 hke i (by omega)
            have hpc : pcn (setAt (fd_m (fS S P) ls nw) (fd_k (fS S P) ls nw) ((fd_k (fS S P) ls nw) / 2) i) 12 = 2 * (((fd_k (fS S P) ls nw) / 2) - (i + 1) + 1) := by omega
            have h4 := pw12 hk12
            obtain ⟨h0, hq1, hq2, hq3, hq4⟩ := ev_step hk12 hs9 hpc
            have hx9 : ¬ x ≤ 0 := fun z => by rw [hx] at z; exact h0 ((i_pos (by omega)).mp z)
            obtain ⟨t1, t2, t3, t4, t5⟩ := prt_spec (met := (fd_m (fS S P) ls nw)) hk12 hs9 hpc (by omega)
            have hlk : low (setAt (fd_m (fS S P) ls nw) (fd_k (fS S P) ls nw) ((fd_k (fS S P) ls nw) / 2) i) < (fd_k (fS S P) ls nw) := hq2
            have hpk : prt (fd_m (fS S P) ls nw) (fd_k (fS S P) ls nw) (((fd_k (fS S P) ls nw) / 2) - (i + 1)) (setAt (fd_m (fS S P) ls nw) (fd_k (fS S P) ls nw) ((fd_k (fS S P) ls nw) / 2) i) < (fd_k (fS S P) ls nw) := t4
            have hand : nI (setAt (fd_m (fS S P) ls nw) (fd_k (fS S P) ls nw) ((fd_k (fS S P) ls nw) / 2) i) &&& ((((1 : Int32) <<< (nI (low (setAt (fd_m (fS S P) ls nw) (fd_k (fS S P) ls nw) ((fd_k (fS S P) ls nw) / 2) i)) &&& 31)) ^^^ (-1)) &&& (((1 : Int32) <<< (nI (prt (fd_m (fS S P) ls nw) (fd_k (fS S P) ls nw) (((fd_k (fS S P) ls nw) / 2) - (i + 1)) (setAt (fd_m (fS S P) ls nw) (fd_k (fS S P) ls nw) ((fd_k (fS S P) ls nw) / 2) i)) &&& 31)) ^^^ (-1))) = nI (clr (clr (setAt (fd_m (fS S P) ls nw) (fd_k (fS S P) ls nw) ((fd_k (fS S P) ls nw) / 2) i) (low (setAt (fd_m (fS S P) ls nw) (fd_k (fS S P) ls nw) ((fd_k (fS S P) ls nw) / 2) i))) (prt (fd_m (fS S P) ls nw) (fd_k (fS S P) ls nw) (((fd_k (fS S P) ls nw) / 2) - (i + 1)) (setAt (fd_m (fS S P) ls nw) (fd_k (fS S P) ls nw) ((fd_k (fS S P) ls nw) / 2) i))) := by rw [← Int32.and_assoc, is_clr (by omega), is_clr (by omega)]
            have hfs : fwO (fd_m (fS S P) ls nw) (fd_k (fS S P) ls nw) (setAt (fd_m (fS S P) ls nw) (fd_k (fS S P) ls nw) ((fd_k (fS S P) ls nw) / 2) i) (M1.2 44) := fun t ht q hq => hf t (by omega) q hq
            refine J_iload_n dX9_pairs_62 rfl rfl ?_
            refine J_if_le (tgt := 129) dX9_pairs_63 rfl (fun h63 => ?_) (fun h63 => ?_)
            · first | exact absurd h63 hx9 | exact absurd hx9 h63
            · refine J_aload_n dX9_pairs_66 rfl rfl ?_
              refine J_iload_n dX9_pairs_67 rfl rfl ?_
              refine J_callVr (As := [_]) dX9_pairs_68 ml_X9_119 cal_X9_lowest im_X9_lowest se_X9_lowest (hM1.at 0 rfl) rfl rfl rfl (Nat.le_of_ble_eq_true rfl) ⟨by decide, by decide⟩ ⟨by decide, by decide⟩ (c_X9_lowest hst hx (by omega) h0) ?_
              refine J_istore (L' := [(4, _), (3, _), (2, _), (0, _), (1, _)]) dX9_pairs_71 (by decide) rfl ?_
              refine J_aload_n dX9_pairs_73 rfl rfl ?_
              refine J_aload_n dX9_pairs_74 rfl rfl ?_
              refine J_iload_n dX9_pairs_75 rfl rfl ?_
              refine J_callVw (As := [_, _]) dX9_pairs_76 ml_X9_139 cal_X9_partner im_X9_partner se_X9_partner (hM1.at 0 rfl) rfl rfl rfl (Nat.le_of_ble_eq_true rfl) ⟨by decide, by decide⟩ ⟨by decide, by decide⟩ (c_X9_partner hst hM1 hN1 hS1 hap h12 hk1 hk12 hl1 hx hs9 hpc (by omega) hfs) (fun A74 hQ74 => ?_)
              obtain ⟨hM_74, hs_74⟩ := hQ74
              have hN_74 := hN1.mf hs_74 (m := 9) rfl hap.p
              have hS_74 := hS1.mf hs_74 (m := 14) rfl hap.s
              refine J_istore (L' := [(5, _), (4, _), (3, _), (2, _), (0, _), (1, _)]) dX9_pairs_79 (by decide) rfl ?_
              refine J_aload_n dX9_pairs_81 rfl rfl ?_
              refine J_getf dX9_pairs_82 fl_X9_53 (hM_74.at 0 rfl) rfl ?_
              refine J_iload_n dX9_pairs_85 rfl rfl ?_
              refine J_aload_n dX9_pairs_86 rfl rfl ?_
              refine J_getf dX9_pairs_87 fl_X9_47 (hM_74.at 0 rfl) rfl ?_
              refine J_iload dX9_pairs_90 rfl ?_
              refine J_ialdN (low (setAt (fd_m (fS S P) ls nw) (fd_k (fS S P) ls nw) ((fd_k (fS S P) ls nw) / 2) i)) dX9_pairs_92 (hM_74.at 6 rfl) rfl (by omega) (by decide) ?_
              refine J_iastN i dX9_pairs_93 (hM_74.at 8 rfl) hy (by have := hke; omega) (by decide) ?_
              refine J_genA (wM_a45 hM_74 _) ((hs1.trans hs_74).put (by omega) (by omega) _) (fun A75 w75 s75 o75 => ?_)
              have w75N := hN_74.oP o75 hap (by unfold isM; omega)
              have w75S := hS_74.oS o75 hap (by unfold isM; omega)
              refine J_aload_n dX9_pairs_94 rfl rfl ?_
              refine J_getf dX9_pairs_95 fl_X9_56 (w75.at 0 rfl) rfl ?_
              refine J_iload_n dX9_pairs_98 rfl rfl ?_
              refine J_aload_n dX9_pairs_99 rfl rfl ?_
              refine J_getf dX9_pairs_100 fl_X9_47 (w75.at 0 rfl) rfl ?_
              refine J_iload dX9_pairs_103 rfl ?_
              refine J_ialdN (prt (fd_m (fS S P) ls nw) (fd_k (fS S P) ls nw) (((fd_k (fS S P) ls nw) / 2) - (i + 1)) (setAt (fd_m (fS S P) ls nw) (fd_k (fS S P) ls nw) ((fd_k (fS S P) ls nw) / 2) i)) dX9_pairs_105 (w75.at 6 rfl) rfl (by omega) (by decide) ?_
              refine J_iastN i dX9_pairs_106 (w75.at 9 rfl) hy (by have := hke; omega) (by decide) ?_
              refine J_genA (wM_a46 w75 _) (s75.put (by omega) (by omega) _) (fun A76 w76 s76 o76 => ?_)
              have w76N := w75N.oP o76 hap (by unfold isM; omega)
              have w76S := w75S.oS o76 hap (by unfold isM; omega)
              refine J_iinc (v := _ + 1) (L' := [(3, _), (5, _), (4, _), (2, _), (0, _), (1, _)]) dX9_pairs_107 rfl rfl (by decide) rfl ?_
              refine J_iload_n dX9_pairs_110 rfl rfl ?_
              refine J_iconst (v := 1) dX9_pairs_111 (by decide) ?_
              refine J_iload dX9_pairs_112 rfl ?_
              refine J_ishl dX9_pairs_114 ?_
              refine J_iconst (v := -1) dX9_pairs_115 (by decide) ?_
              refine J_ixor dX9_pairs_116 ?_
              refine J_iconst (v := 1) dX9_pairs_117 (by decide) ?_
              refine J_iload dX9_pairs_118 rfl ?_
              refine J_ishl dX9_pairs_120 ?_
              refine J_iconst (v := -1) dX9_pairs_121 (by decide) ?_
              refine J_ixor dX9_pairs_122 ?_
              refine J_iand dX9_pairs_123 ?_
              refine J_iand dX9_pairs_124 ?_
              rw [hx, hand]
              refine J_istore_n (L' := [(2, _), (3, _), (5, _), (4, _), (0, _), (1, _)]) dX9_pairs_125 rfl (by decide) rfl ?_
              refine J_goto (tgt := 62) dX9_pairs_126 rfl ?_
              refine xx_J.pick [1, 0, 4, 5] rfl ?_
              exact ih _ _ _ _ rfl (by rw [hy]; exact nI_1 i) w76 w76N w76S s76 (((hsc.a (by decide)).a (by decide)).a (by decide)) hk1 hr1 hl1 (fwO_same hf hpc) (fun q hq => by
                by_cases e : q = i
                · subst e
                  exact ⟨(by show upd (M1.2 45) q _ q = _; simp only [upd, if_true]; exact (hl1 _ hlk).1), (by show upd (M1.2 46) q _ q = _; simp only [upd, if_true]; exact (hl1 _ hpk).1)⟩
                · have z := hp q (by omega)
                  exact ⟨(by show upd (M1.2 45) i _ q = _; simp only [upd, if_neg e]; exact z.1), (by show upd (M1.2 46) i _ q = _; simp only [upd, if_neg e]; exact z.2)⟩)
        refine xx_J.pick [0, 1, 2, 3] rfl ?_
        exact loop2 0 (by omega) _ _ _ _ h58 rfl hM1 hN1 hS1 hs1 hsc hk1 hr1 hl1 hf9 (fun q hq => absurd hq (Nat.not_lt_zero q))
      · first | (exfalso; simp only [i_lt, i_le, i_eq, i_0, i_1, i_2, i_3, i_4, i_5, i_6, i_8, i_9, i_10, i_12, i_16, i_20, i_m1, i_400, i_2000] at h26; omega) | (exfalso; simp only [s_up, a_up, va_up, i_lt, i_le, i_eq, i_0, i_1, i_2, i_3, i_4, i_5, i_6, i_8, i_9, i_10, i_12, i_16, i_20, i_m1, i_400, i_2000, ↓reduceIte, Nat.reduceEqDiff] at h26; omega)
    · intro i hii ih x  A1  M1  hx hM1 hN1 hS1 hs1 hsc hk1 hr1 hl1 hf hi1
      have h4 := pw12 hk12
      have ex : x.toInt = i := by rw [hx]; exact i_n (by omega)
      have ek : (nI (2 ^ (fd_k (fS S P) ls nw))).toInt = (2 ^ (fd_k (fS S P) ls nw) : Nat) := i_n (by omega)
      refine J_iload_n dX9_pairs_19 rfl rfl ?_
      refine J_iconst (v := 1) dX9_pairs_20 (by decide) ?_
      refine J_aload_n dX9_pairs_21 rfl rfl ?_
      refine J_getf dX9_pairs_22 fl_X9_108 (hM1.at 0 rfl) rfl ?_
      refine J_ishl dX9_pairs_25 ?_
      rw [hk1, is_one (by omega)]
      refine J_icmp_ge (tgt := 51) dX9_pairs_26 rfl (fun h26 => ?_) (fun h26 => ?_)
      · first | (exfalso; simp only [i_lt, i_le, i_eq, i_0, i_1, i_2, i_3, i_4, i_5, i_6, i_8, i_9, i_10, i_12, i_16, i_20, i_m1, i_400, i_2000] at h26; omega) | (exfalso; simp only [s_up, a_up, va_up, i_lt, i_le, i_eq, i_0, i_1, i_2, i_3, i_4, i_5, i_6, i_8, i_9, i_10, i_12, i_16, i_20, i_m1, i_400, i_2000, ↓reduceIte, Nat.reduceEqDiff] at h26; omega)
      · refine J_iload_n dX9_pairs_29 rfl rfl ?_
        refine J_callSr (As := [_]) dX9_pairs_30 ml_X9_134 cal_J6_bitCount_0f7a4 sm_J6_bitCount_0f7a4 rfl rfl (Nat.le_of_ble_eq_true rfl) ⟨by decide, by decide⟩ ⟨by decide, by decide⟩ (c_J6_bitCount_0f7a4 hst hx (by omega)) ?_
        refine J_iconst (v := 2) dX9_pairs_33 (by decide) ?_
        refine J_irem dX9_pairs_34 (by decide) ?_
        change xx_J _ _ _ _ _ _ _ _ _ _ [.int (nI (pcn i 12) - nI (pcn i 12) / 2 * 2)] _ _ _ _
        rw [rem2 _ (pcn_le i 12)]
        refine J_if_ne (tgt := 45) dX9_pairs_35 rfl (fun h35 => ?_) (fun h35 => ?_)
        · have hod : ¬ pcn i 12 % 2 = 0 := fun z => h35 (by rw [z]; rfl)
          refine J_iinc (v := _ + 1) (L' := [(2, _), (0, _), (1, _)]) dX9_pairs_45 rfl rfl (by decide) rfl ?_
          refine J_goto (tgt := 19) dX9_pairs_48 rfl ?_
          refine xx_J.pick [0, 1, 2] rfl ?_
          exact ih _ _ _ (by rw [hx]; exact nI_1 i) hM1 hN1 hS1 hs1 hsc hk1 hr1 hl1 (fwO_odd hf hod) (by omega)
        · have hev : pcn i 12 % 2 = 0 := by
            rw [i_eq, i_n (by omega), i_0] at h35
            omega
          have hp0 : ¬ pcn i 12 = 0 := fun z => by
            have := pcn_zero (k := 12) (s := i) (Nat.lt_of_lt_of_le hii (Nat.pow_le_pow_right (by omega) hk12)) z
            omega
          have hpc : pcn i 12 = 2 * (pcn i 12 / 2 - 1 + 1) := by omega
          refine J_aload_n dX9_pairs_38 rfl rfl ?_
          refine J_aload_n dX9_pairs_39 rfl rfl ?_
          refine J_iload_n dX9_pairs_40 rfl rfl ?_
          refine J_callVw (As := [_, _]) dX9_pairs_41 ml_X9_139 cal_X9_partner im_X9_partner se_X9_partner (hM1.at 0 rfl) rfl rfl rfl (Nat.le_of_ble_eq_true rfl) ⟨by decide, by decide⟩ ⟨by decide, by decide⟩ (c_X9_partner hst hM1 hN1 hS1 hap h12 hk1 hk12 hl1 hx hii hpc (by have := pcn_le i 12; omega) hf) (fun A54 hQ54 => ?_)
          obtain ⟨hM_54, hs_54⟩ := hQ54
          have hN_54 := hN1.mf hs_54 (m := 9) rfl hap.p
          have hS_54 := hS1.mf hs_54 (m := 14) rfl hap.s
          refine J_pop dX9_pairs_44 rfl ?_
          refine J_iinc (v := _ + 1) (L' := [(2, _), (0, _), (1, _)]) dX9_pairs_45 rfl rfl (by decide) rfl ?_
          refine J_goto (tgt := 19) dX9_pairs_48 rfl ?_
          refine xx_J.pick [0, 1, 2] rfl ?_
          exact ih _ _ _ (by rw [hx]; exact nI_1 i) hM_54 hN_54 hS_54 (hs1.trans hs_54) (hsc.a (by decide)) hk1 hr1 hl1 (fwO_upd hf hpc) (by omega)
  refine xx_J.pick [0, 1, 2] rfl ?_
  exact loop 1 (by omega) _ _ _ rfl w3 w3N w3S s3 ((sc_1.trans sc_2).a (by decide)) hk2 hr2 hl2 fwO_1 (Nat.le_refl _)
end XS4
