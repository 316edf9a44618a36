/-! THE REFERENCE: read -/
section XSK
variable {G : xx_G} {l : Launch} {A A' : xx_H} {n : Nat} {bm bp bs bn ba : Nat} {vL nl : Nat → Int64} {M M' M1 P P' S : xS} {T : xS} {len i j k q s e t d nt tok v m : Nat} {tk : Nat → Nat}
theorem fr_i {r t : Int32} {f : Nat → Int32} (hq : ¬ (q = 3 ∨ q = 9 ∨ q = 10 ∨ q = 20 ∨ q = 21)) : (paM (lnB (s_up M1 21 0) r t f) k d).1 q = M1.1 q := by
  show va_up (va_up (va_up (va_up (va_up M1.1 21 0) 21 r) 20 t) 9 (nI k)) 10 (nI d) q = _
  simp only [va_up]
  rw [if_neg (by omega), if_neg (by omega), if_neg (by omega), if_neg (by omega), if_neg (by omega)]
theorem fr_a {r t : Int32} {f : Nat → Int32} (hq : ¬ q = 13) : (paM (lnB (s_up M1 21 0) r t f) k d).2 q = M1.2 q := by
  show va_up M1.2 13 f q = _
  simp only [va_up]
  rw [if_neg hq]
theorem fr_3 {x : Int32} (hq : ¬ q = 3) : (s_up M 3 x).1 q = M.1 q := by
  show va_up M.1 3 x q = _
  simp only [va_up]
  rw [if_neg hq]
/-- what read leaves -/
def rdmQ (T : xS) (len bm bp b0 bn ba n : Nat) (M P : xS) (A : xx_H) : xx_Q := xx_wr (some (.int (rdV T len).1)) n (fun A' => ∃ M' vL' P' nl', xx_w bm (layM b0 vL' bn ba bm M') A' ∧ xx_w bp (layN nl' bp P') A' ∧ xx_pf bm bp A A' ∧ M'.1 3 = (if (rdV T len).1 = 0 then M.1 3 else (rdV T len).2) ∧ (∀ q, ¬ (q = 3 ∨ q = 9 ∨ q = 10 ∨ q = 20 ∨ q = 21) → M'.1 q = M.1 q) ∧ (∀ k, ¬ (k = 11 ∨ k = 12 ∨ k = 13) → M'.2 k = M.2 k) ∧ ((rdV T len).1 = 0 → (bokW (scG T len) (tkN T len) 401 0 [] []).1 = true ∧ plJ T len (chkT T len (bokW (scG T len) (tkN T len) 401 0 [] []).2.2.1) false P' nl' ∧ P'.1 10 = (rsP P 0 (bokW (scG T len) (tkN T len) 401 0 [] []).2.2.2).1 10 ∧ ∀ r, 4 ≤ r → P'.2 r = (rsP P 0 (bokW (scG T len) (tkN T len) 401 0 [] []).2.2.2).2 r))
set_option maxHeartbeats 2000000 in
theorem c_X9_read (hst : l.stackTraces = false) (hb48 : bm + 48 ≤ bp) {b0 : Nat} (htp : tpR M T len) (hM : xx_w bm (layM b0 vL bn ba bm M) A) (hN : xx_w bp (layN nl bp P) A) (h10 : P.1 10 = 0) (h0 : P.1 0 = 0) (h4 : P.1 4 = 0) (hw0 : P.2 3 0 = 2) (hw1 : P.2 3 1 = 1) (hw2 : P.2 3 2 = 2) : xx_C G l yX9_read mX9_read 58 1937 0 0 [.ref bm, .ref bp] A n (rdmQ T len bm bp b0 bn ba n M P A) := by
  refine J_C hst (by decide +kernel) rfl rfl rfl (Nat.le_of_ble_eq_true rfl) ?_
  show xx_J _ _ _ _ _ _ _ _ 0 [(0, _), (1, _)] [] _ _ _ _
  refine J_aload_n dX9_read_0 rfl rfl ?_
  refine J_callVw (As := []) dX9_read_1 ml_X9_383 cal_X9_cutIntoTokens im_X9_cutIntoTokens se_X9_cutIntoTokens (hM.at 0 rfl) rfl rfl rfl (Nat.le_of_ble_eq_true rfl) ⟨by omega, by show 8 + (4 + 11) + _ ≤ _; omega⟩ ⟨by decide, by decide⟩ (c_X9_cutIntoTokens hst hM htp) (fun A1 hQ1 => ?_)
  obtain ⟨nt, M1, v1, ⟨hnt0, hnt, hne, hlast⟩, htk, hts, hMc, hmf⟩ := hQ1
  have hNc := hN.mf hmf (m := 9) rfl (fun i hi => by unfold isM; omega)
  have htv : tkV (scG T len) nt (s_up M1 21 0) := ⟨hnt, fun q hq => ⟨(htk q hq).1, scG_lt q⟩⟩
  have hnx : nxt (scG T len) nt := fun k hk a c => by
    by_cases z : k + 1 < nt
    · exact z
    · rw [show nt - 1 = k by omega] at hlast; exact (hlast.elim a c).elim
  have hval : ∀ q, q < nt → scG T len q = 36 → v1 q = (tkN T len q).toInt64 := fun q hq => (htk q hq).2.2.2.1
  have hkt : (bokW (scG T len) (tkN T len) 401 0 [] []).2.1 < nt := bok_lt hnx 401 0 [] [] hnt0
  refine J_aload_n dX9_read_4 rfl rfl ?_
  refine J_iconst (v := 0) dX9_read_5 (by decide) ?_
  refine J_putf dX9_read_6 fp_X9_305 (fun _ => ⟨rfl, rfl⟩) (hMc.at 0 rfl) (Nat.le_of_ble_eq_true rfl) ?_
  refine J_genA (wM_s0_9 hMc _) ((((xx_pf.rf (bm := bm) (bp := bp))).trans hmf.toP).put (by omega) (by omega) _) (fun A2 w2 s2 o2 => ?_)
  have w2N := hNc.o2 o2 (m := 9) rfl (by omega)
  refine J_aload_n dX9_read_9 rfl rfl ?_
  refine J_iconst (v := 0) dX9_read_10 (by decide) ?_
  refine J_putf dX9_read_11 fp_X9_311 (fun _ => ⟨rfl, rfl⟩) (w2.at 0 rfl) (Nat.le_of_ble_eq_true rfl) ?_
  refine J_genA (wM_s0_10 w2 _) (s2.put (by omega) (by omega) _) (fun A3 w3 s3 o3 => ?_)
  have w3N := w2N.o2 o3 (m := 9) rfl (by omega)
  refine J_aload_n dX9_read_14 rfl rfl ?_
  refine J_iconst (v := 0) dX9_read_15 (by decide) ?_
  refine J_putf dX9_read_16 fp_X9_366 (fun _ => ⟨rfl, rfl⟩) (w3.at 0 rfl) (Nat.le_of_ble_eq_true rfl) ?_
  refine J_genA (wM_s0_21 w3 _) (s3.put (by omega) (by omega) _) (fun A4 w4 s4 o4 => ?_)
  have w4N := w3N.o2 o4 (m := 9) rfl (by omega)
  have uM : xx_w bm (layM b0 v1 bn ba bm (paM (s_up M1 21 0) 0 0)) A4 := by rw [← pm_21]; exact w4
  refine J_aload_n dX9_read_19 rfl rfl ?_
  refine J_aload_n dX9_read_20 rfl rfl ?_
  refine J_callVw (As := [_]) dX9_read_21 ml_X9_386 cal_X9_isBook im_X9_isBook se_X9_isBook (uM.at 0 rfl) rfl rfl rfl (Nat.le_of_ble_eq_true rfl) ⟨by omega, by show 8 + (2 + 11) + _ ≤ _; omega⟩ ⟨by decide, by decide⟩ (c_X9_isBook hst hb48 hnt hnx hval htv uM w4N h10 hnt0 rfl) (fun A5 hQ5 => ?_)
  obtain ⟨d_5, r_5, t_5, f_5, P_5, hf_5, hM_5, hN_5, hs_5⟩ := hQ5
  refine J_ifb_ne (tgt := 42) dX9_read_24 rfl (fun h24 => ?_) (fun h24 => ?_)
  · obtain ⟨rfl, rfl, rfl, rfl⟩ := hf_5 h24
    refine J_iconst (v := 0) dX9_read_42 (by decide) ?_
    refine J_istore_n (L' := [(2, _), (0, _), (1, _)]) dX9_read_43 rfl (by decide) rfl ?_
    have e1 : rdV T len = (chkT T len (bokW (scG T len) (tkN T len) 401 0 [] []).2.2.1).2.2.2.2 := by unfold rdV; rw [if_pos h24]
    have hrg := rsP_g (bokW (scG T len) (tkN T len) 401 0 [] []).2.2.2 (P := P) (rr := 0)
    obtain ⟨hsr, hgr, -⟩ := bok_its (num := tkN T len) hnx 401 0 [] [] hnt0 (Nat.le_refl 0) rfl h24
    have hml : ∀ q, q < (bokW (scG T len) (tkN T len) 401 0 [] []).2.1 → mnL (M1.2 13) (bokW (scG T len) (tkN T len) 401 0 [] []).2.2.1 q = nI (lkp q (bokW (scG T len) (tkN T len) 401 0 [] []).2.2.1) := fun q hq => mnL_i _ hsr (fun q _ h => (htk q (by omega)).2.2.1) q (Nat.zero_le q) hq
    have loop : ∀ f, ∀ (A1 : xx_H) (i : Nat) (x : Int32) (P1 : xS) (nl1 : Nat → Int64) (rest : List (Nat × Nat)) (s : Told) (p : Bool), x = nI i → i + f = (bokW (scG T len) (tkN T len) 401 0 [] []).2.1 → xx_w bm (layM b0 v1 bn ba bm (paM (lnB (s_up M1 21 0) (nI (0 + (bokW (scG T len) (tkN T len) 401 0 [] []).2.2.2.length)) t_5 (mnL ((s_up M1 21 0).2 13) (bokW (scG T len) (tkN T len) 401 0 [] []).2.2.1)) (bokW (scG T len) (tkN T len) 401 0 [] []).2.1 0)) A1 → xx_w bp (layN nl1 bp P1) A1 → xx_pf bm bp A A1 → srT i (bokW (scG T len) (tkN T len) 401 0 [] []).2.1 rest → grm (scG T len) p rest → plJ T len s p P1 nl1 → rest.foldl (chX T len) s = chkT T len (bokW (scG T len) (tkN T len) 401 0 [] []).2.2.1 → (P1.1 10 = (rsP P 0 (bokW (scG T len) (tkN T len) 401 0 [] []).2.2.2).1 10 ∧ ∀ r, 4 ≤ r → P1.2 r = (rsP P 0 (bokW (scG T len) (tkN T len) 401 0 [] []).2.2.2).2 r) → (∀ q, i ≤ q → lkp q (bokW (scG T len) (tkN T len) 401 0 [] []).2.2.1 = lkp q rest) → xx_J G l mX9_read 58 1937 0 0 (rdmQ T len bm bp b0 bn ba n M P A) 44 [(2, .int x), (0, .ref bm), (1, .ref bp)] [] A1 n 0 0 := by
      intro f
      induction f with
      | zero =>
        intro A1 i x P1 nl1 rest s p hx hif hM1 hN1 hs1 hr hg hp hfo hfr hlk
        have hi : i = (bokW (scG T len) (tkN T len) 401 0 [] []).2.1 := by omega
        have ex : x.toInt = (bokW (scG T len) (tkN T len) 401 0 [] []).2.1 := by rw [hx, hi]; exact i_n (by omega)
        have ek : (nI (bokW (scG T len) (tkN T len) 401 0 [] []).2.1).toInt = (bokW (scG T len) (tkN T len) 401 0 [] []).2.1 := i_n (by omega)
        obtain ⟨rfl, rfl⟩ := plJ_e (hi ▸ hr) hg
        have hfo2 : s = chkT T len (bokW (scG T len) (tkN T len) 401 0 [] []).2.2.1 := hfo
        refine J_iload_n dX9_read_44 rfl rfl ?_
        refine J_aload_n dX9_read_45 rfl rfl ?_
        refine J_getf dX9_read_46 fl_X9_305 (hM1.at 0 rfl) rfl ?_
        refine J_icmp_ge (tgt := 84) dX9_read_49 rfl (fun h49 => ?_) (fun h49 => ?_)
        · refine J_iconst (v := 0) dX9_read_84 (by decide) ?_
          refine J_ireturn dX9_read_85 rfl rfl (by decide) (by decide) ?_
          unfold rdmQ
          have e2 : (rdV T len).1 = 0 := by rw [e1, ← hfo2]; exact hp.2.2.2.2.2.2.2
          rw [e2]
          refine ⟨rfl, rfl, _, v1, P1, nl1, hM1, hN1, hs1, ?_, fun q hq => ?_, fun k hk => ?_, fun _ => ⟨h24, hfo2 ▸ hp, hfr⟩⟩
          · rw [if_pos rfl]
            show M1.1 3 = M.1 3
            rw [hts.1]
          · rw [fr_i hq, hts.1]
          · rw [fr_a (by omega), hts.2 k hk]
        · exact absurd (show nI (bokW (scG T len) (tkN T len) 401 0 [] []).2.1 ≤ x by rw [i_le]; omega) h49
      | succ f ih =>
        intro A1 i x P1 nl1 rest s p hx hif hM1 hN1 hs1 hr hg hp hfo hfr hlk
        have hi : i < (bokW (scG T len) (tkN T len) 401 0 [] []).2.1 := by omega
        have ex : x.toInt = i := by rw [hx]; exact i_n (by omega)
        have ek : (nI (bokW (scG T len) (tkN T len) 401 0 [] []).2.1).toInt = (bokW (scG T len) (tkN T len) 401 0 [] []).2.1 := i_n (by omega)
        have hit := htk i (by omega)
        obtain ⟨x1, x2, x3, x4⟩ := plJ_i (y := v1 i) hp hr hi hg (fun z => by rw [hit.2.2.2.1 z, Int32.toInt32_toInt64]; rfl) (fun z => hit.2.2.2.2 (Or.inr z))
        have hmn : mnL (M1.2 13) (bokW (scG T len) (tkN T len) 401 0 [] []).2.2.1 i = nI (lkp i rest) := by rw [hml i hi, hlk i (Nat.le_refl i)]
        refine J_iload_n dX9_read_44 rfl rfl ?_
        refine J_aload_n dX9_read_45 rfl rfl ?_
        refine J_getf dX9_read_46 fl_X9_305 (hM1.at 0 rfl) rfl ?_
        refine J_icmp_ge (tgt := 84) dX9_read_49 rfl (fun h49 => ?_) (fun h49 => ?_)
        · exact absurd h49 (show ¬ nI (bokW (scG T len) (tkN T len) 401 0 [] []).2.1 ≤ x by rw [i_le]; omega)
        · refine J_aload_n dX9_read_52 rfl rfl ?_
          refine J_aload_n dX9_read_53 rfl rfl ?_
          refine J_iload_n dX9_read_54 rfl rfl ?_
          refine J_callVw (As := [_, _]) dX9_read_55 ml_X9_389 cal_X9_errorOf im_X9_errorOf se_X9_errorOf (hM1.at 0 rfl) rfl rfl rfl (Nat.le_of_ble_eq_true rfl) ⟨by omega, by show 8 + (4 + 11) + _ ≤ _; omega⟩ ⟨by decide, by decide⟩ (c_X9_errorOf (m := lkp i rest) (nw := nwJ s p) hst hb48 hM1 hN1 hp.1 hp.2.1 hx (by omega) hmn x1 x2) (fun A81 hQ81 => ?_)
          have hM_81 := layM_sP hM1 hQ81.2 hb48
          refine J_istore_n (L' := [(3, _), (2, _), (0, _), (1, _)]) dX9_read_58 rfl (by decide) rfl ?_
          refine J_iload_n dX9_read_59 rfl rfl ?_
          refine J_if_ne (tgt := 66) dX9_read_60 rfl (fun h60 => ?_) (fun h60 => ?_)
          · refine J_aload_n dX9_read_66 rfl rfl ?_
            refine J_aload_n dX9_read_67 rfl rfl ?_
            refine J_getf dX9_read_68 fl_X9_27 (hM_81.at 0 rfl) rfl ?_
            refine J_iload_n dX9_read_71 rfl rfl ?_
            refine J_ialdN i dX9_read_72 (hM_81.at 3 rfl) hx (by omega) (by decide) ?_
            refine J_putf dX9_read_73 fp_X9_13 (fun _ => ⟨rfl, rfl⟩) (hM_81.at 0 rfl) (Nat.le_of_ble_eq_true rfl) ?_
            refine J_genA (wM_s0_3 hM_81 _) ((hs1.trans hQ81.2.toP).put (by omega) (by omega) _) (fun A82 w82 s82 o82 => ?_)
            have w82N := hQ81.1.o2 o82 (m := 9) rfl (by omega)
            refine J_iload_n dX9_read_76 rfl rfl ?_
            refine J_ireturn dX9_read_77 rfl rfl (by decide) (by decide) ?_
            unfold rdmQ
            have e2 : rdV T len = (edE (lkp i rest) (nwJ s p) P1 nl1 (v1 i), posT T len i) := by rw [e1, ← hfo]; exact x4 h60
            rw [e2]
            refine ⟨rfl, rfl, _, v1, _, _, w82, w82N, s82, ?_, fun q hq => ?_, fun k hk => ?_, fun z => absurd z h60⟩
            · rw [if_neg h60]
              exact hit.2.1
            · rw [fr_3 (by omega), fr_i hq, hts.1]
            · show va_up M1.2 13 (mnL ((s_up M1 21 0).2 13) (bokW (scG T len) (tkN T len) 401 0 [] []).2.2.1) k = _
              simp only [va_up]
              rw [if_neg (by omega)]
              exact hts.2 k hk
          · refine J_goto (tgt := 78) dX9_read_63 rfl ?_
            refine J_iinc (v := _ + 1) (L' := [(2, _), (3, _), (0, _), (1, _)]) dX9_read_78 rfl rfl (by decide) rfl ?_
            refine J_goto (tgt := 44) dX9_read_81 rfl ?_
            obtain ⟨s2, p2, r2, y1, y2, y3, y4, y5⟩ := x3 h60
            refine xx_J.pick [0, 2, 3] rfl ?_
            refine ih _ (i + 1) _ _ _ r2 s2 p2 (by rw [hx]; exact nI_1 i) (by omega) hM_81 hQ81.1 (hs1.trans hQ81.2.toP) y1 y2 y3 (by rw [← y4]; exact hfo) ?_ (fun q hq => (hlk q (by omega)).trans (y5 q hq))
            exact ⟨edP_f.1.trans hfr.1, fun r hr => (edP_f.2 r hr).trans (hfr.2 r hr)⟩
    exact loop (bokW (scG T len) (tkN T len) 401 0 [] []).2.1 _ 0 _ _ _ (bokW (scG T len) (tkN T len) 401 0 [] []).2.2.1 told0 false rfl (Nat.zero_add _) hM_5 hN_5 (s4.trans hs_5) hsr hgr (plJ_0 ((hrg.1 0 (by decide)).trans h0) ((hrg.1 4 (by decide)).trans h4) (by rw [hrg.2 3 (by decide)]; exact hw0) (by rw [hrg.2 3 (by decide)]; exact hw1) (by rw [hrg.2 3 (by decide)]; exact hw2)) rfl ⟨rfl, fun _ _ => rfl⟩ (fun _ _ => rfl)
  · refine J_aload_n dX9_read_27 rfl rfl ?_
    refine J_aload_n dX9_read_28 rfl rfl ?_
    refine J_getf dX9_read_29 fl_X9_27 (hM_5.at 0 rfl) rfl ?_
    refine J_aload_n dX9_read_32 rfl rfl ?_
    refine J_getf dX9_read_33 fl_X9_305 (hM_5.at 0 rfl) rfl ?_
    refine J_ialdN (bokW (scG T len) (tkN T len) 401 0 [] []).2.1 dX9_read_36 (hM_5.at 3 rfl) rfl (by omega) (by decide) ?_
    refine J_putf dX9_read_37 fp_X9_13 (fun _ => ⟨rfl, rfl⟩) (hM_5.at 0 rfl) (Nat.le_of_ble_eq_true rfl) ?_
    refine J_genA (wM_s0_3 hM_5 _) ((s4.trans hs_5).put (by omega) (by omega) _) (fun A6 w6 s6 o6 => ?_)
    have w6N := hN_5.o2 o6 (m := 9) rfl (by omega)
    refine J_iconst (v := 1) dX9_read_40 (by decide) ?_
    refine J_ireturn dX9_read_41 rfl rfl (by decide) (by decide) ?_
    have e1 : rdV T len = (1, posT T len (bokW (scG T len) (tkN T len) 401 0 [] []).2.1) := by unfold rdV; rw [if_neg h24]
    unfold rdmQ
    rw [e1]
    refine ⟨rfl, rfl, _, v1, _, nl, w6, w6N, s6, ?_, fun q hq => ?_, fun k hk => ?_, fun z => absurd (show (1 : Int32) = 0 from z) (by decide)⟩
    · rw [if_neg (show ¬ (1 : Int32) = 0 by decide)]
      exact (htk _ hkt).2.1
    · rw [fr_3 (by omega), fr_i hq, hts.1]
    · show va_up M1.2 13 f_5 k = _
      simp only [va_up]
      rw [if_neg (by omega)]
      exact hts.2 k hk
end XSK
