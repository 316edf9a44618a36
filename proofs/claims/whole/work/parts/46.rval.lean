/-! THE REFERENCE: isOfTwo, isSingle, isValue -/
section XSG
variable {G : xx_G} {l : Launch} {A A' : xx_H} {n : Nat} {bm bp bs bn ba : Nat} {vL nl : Nat → Int64} {M M' M1 P S : xS} {T : xS} {len i j k q s e t d nt tok v m : Nat} {tk : Nat → Nat}
theorem dpM_f {c : Prop} [Decidable c] (h : ¬ c) : dpM M c = M := if_neg h
theorem clM_f {c : Prop} [Decidable c] (h : ¬ c) : clM M c = M := if_neg h
set_option maxHeartbeats 2000000 in
theorem c_X9_isOfTwo (hst : l.stackTraces = false) (hb48 : bm + 48 ≤ bp) (h401 : tok ≤ 401) (hnx : nxt tk tok) (hd8 : d ≤ 8) {b0 : Nat} {ps : Nat → Res} {f0 g0 : Nat} (hs : d < 8 → prP G l bm bp b0 bn ba vL nl tk tok yX9_isSum mX9_isSum f0 g0 (d + 1) ps) (oks : pOK tok ps) {fr lo : Nat} (hf9 : 12 ≤ fr) (hg9 : 400 ≤ lo) (hf0 : f0 + 1 ≤ fr) (hg0 : g0 + 22 ≤ lo) (htv : tkV tk tok M) (hM : xx_w bm (layM b0 vL bn ba bm (paM M k d)) A) (hN : xx_w bp (layN nl bp P) A) (hm : P.1 10 = nI m) (hmk : m ≤ k) (hk : k < tok) (h18 : tk k = 18 ∨ tk k = 19) {x : Int32} (hx : x = nI (kdR (tk k))) : xx_C G l yX9_isOfTwo mX9_isOfTwo fr lo 0 0 [.ref bm, .ref bp, .int x] A n (prQ bm bp b0 bn ba n vL nl M P d (choW tk d ps k) A) := by
  have hyy : trO (if tk k = 18 then 12 else 13) 0 = x := by
    rw [hx]
    rcases h18 with z | z <;> (rw [z]; rfl)
  have hzz : trW (if tk k = 18 then 12 else 13) 0 = 0 := by
    rcases h18 with z | z <;> (rw [z]; rfl)
  refine J_C hst (by decide +kernel) rfl rfl rfl (Nat.le_of_ble_eq_true rfl) ?_
  show xx_J _ _ _ _ _ _ _ _ 0 [(0, _), (1, _), (2, _)] [] _ _ _ _
  refine J_aload_n dX9_isOfTwo_0 rfl rfl ?_
  refine J_dup dX9_isOfTwo_1 rfl ?_
  refine J_getf dX9_isOfTwo_2 fl_X9_305 (hM.at 0 rfl) rfl ?_
  refine J_iconst (v := 1) dX9_isOfTwo_5 (by decide) ?_
  refine J_iadd dX9_isOfTwo_6 ?_
  refine J_putf dX9_isOfTwo_7 fp_X9_305 (fun _ => ⟨rfl, rfl⟩) (hM.at 0 rfl) (Nat.le_of_ble_eq_true rfl) ?_
  refine J_genA (wM_s0_9 hM _) ((xx_pf.rf (bm := bm) (bp := bp)).put (by omega) (by omega) _) (fun A1 w1 s1 o1 => ?_)
  have w1N := hN.o2 o1 (m := 9) rfl (by omega)
  have u1 := w1
  rw [pa_up (M := M) (k := k) (d := d) (k2 := k + 1) (x := (paM M k d).1 9 + 1) (nI_1 _)] at u1
  have nx1 : ¬ tk k = 37 ∧ ¬ tk k = 38 := (by omega : ¬ tk k = 37 ∧ ¬ tk k = 38)
  have hk1 : k + 1 < tok := hnx _ hk nx1.1 nx1.2
  refine J_aload_n dX9_isOfTwo_10 rfl rfl ?_
  refine J_bipush (v := 40) dX9_isOfTwo_11 (by decide) ?_
  refine J_callVw (As := [_]) dX9_isOfTwo_13 ml_X9_328 cal_X9_deeper im_X9_deeper se_X9_deeper (u1.at 0 rfl) rfl rfl rfl (Nat.le_of_ble_eq_true rfl) ⟨by omega, by show 8 + (2 + 11) + _ ≤ _; omega⟩ ⟨by decide, by decide⟩ (c_X9_deeper (v := 20) (k := (k + 1)) hst u1 rfl (by decide) htv.pa rfl hk1 hd8 rfl) (fun A2 hQ2 => ?_)
  have hM_2 := hQ2.1
  have hN_2 := w1N.mf hQ2.2 (m := 9) rfl (fun i hi => by unfold isM; omega)
  have hs_2 : xx_pf bm bp _ _ := hQ2.2.toP
  refine J_ifb_eq (tgt := 53) dX9_isOfTwo_16 rfl (fun h16 => ?_) (fun h16 => ?_)
  · rw [dpM_f h16] at hM_2
    refine J_iconst (v := 0) dX9_isOfTwo_53 (by decide) ?_
    refine J_ireturn dX9_isOfTwo_54 rfl rfl (by decide) (by decide) ?_
    have e1 : (choW tk d ps k) = (false, (k + 1), []) := by
      first
        | (simp [choW, bnd, eat, dpt, emt, h16]; done)
        | (simp [choW, bnd, eat, dpt, emt, h16]; exact Prod.ext (by simp_all) rfl)
    rw [e1]
    exact ⟨rfl, rfl, _, _, fun z => (Bool.false_ne_true z).elim, hM_2, hN_2, (s1.trans hs_2)⟩
  · rw [dpM_pt h16] at hM_2
    have ah16 := h16.1
    have bh16 := h16.2
    have kh16 : (k + 1) + 1 < tok := hnx _ hk1 (by rw [bh16]; decide) (by rw [bh16]; decide)
    refine J_aload_n dX9_isOfTwo_19 rfl rfl ?_
    refine J_aload_n dX9_isOfTwo_20 rfl rfl ?_
    refine J_callVw (As := [_]) dX9_isOfTwo_21 ml_X9_340 cal_X9_isSum im_X9_isSum se_X9_isSum (hM_2.at 0 rfl) rfl rfl rfl (Nat.le_of_ble_eq_true rfl) ⟨by omega, by show 8 + (3 + 11) + _ ≤ _; omega⟩ ⟨by decide, by decide⟩ ((hs (by omega)) _ _ _ _ ((k + 1) + 1) m htv hM_2 hN_2 hm (by omega) kh16) (fun A3 hQ3 => ?_)
    obtain ⟨d_3, P_3, hf_3, hM_3, hN_3, hs_3⟩ := hQ3
    refine J_ifb_eq (tgt := 53) dX9_isOfTwo_24 rfl (fun h24 => ?_) (fun h24 => ?_)
    · refine J_iconst (v := 0) dX9_isOfTwo_53 (by decide) ?_
      refine J_ireturn dX9_isOfTwo_54 rfl rfl (by decide) (by decide) ?_
      have e1 : (choW tk d ps k) = (false, (ps ((k + 1) + 1)).2.1, (ps ((k + 1) + 1)).2.2) := by
        first
          | (simp [choW, bnd, eat, dpt, emt, ah16, bh16, h24]; done)
          | (simp [choW, bnd, eat, dpt, emt, ah16, bh16, h24]; exact Prod.ext (by simp_all) rfl)
      rw [e1]
      exact ⟨rfl, rfl, _, _, fun z => (Bool.false_ne_true z).elim, hM_3, hN_3, ((s1.trans hs_2).trans hs_3)⟩
    · obtain ⟨hd_3, rfl⟩ := hf_3 h24
      rw [hd_3] at hM_3
      have g3 := oks ((k + 1) + 1) kh16
      have m3 := emP_10 (ps ((k + 1) + 1)).2.2 _ hm
      refine J_aload_n dX9_isOfTwo_27 rfl rfl ?_
      refine J_bipush (v := 44) dX9_isOfTwo_28 (by decide) ?_
      refine J_callVw (As := [_]) dX9_isOfTwo_30 ml_X9_308 cal_X9_eat im_X9_eat se_X9_eat (hM_3.at 0 rfl) rfl rfl rfl (Nat.le_of_ble_eq_true rfl) ⟨by omega, by show 8 + (2 + 11) + _ ≤ _; omega⟩ ⟨by decide, by decide⟩ (c_X9_eat (v := 25) (k := (ps ((k + 1) + 1)).2.1) hst hM_3 rfl (by decide) htv.pa rfl g3.2.1) (fun A4 hQ4 => ?_)
      have hM_4 := hQ4.1
      have hN_4 := hN_3.mf hQ4.2 (m := 9) rfl (fun i hi => by unfold isM; omega)
      have hs_4 : xx_pf bm bp _ _ := hQ4.2.toP
      refine J_ifb_eq (tgt := 53) dX9_isOfTwo_33 rfl (fun h33 => ?_) (fun h33 => ?_)
      · rw [eaM_f h33] at hM_4
        refine J_iconst (v := 0) dX9_isOfTwo_53 (by decide) ?_
        refine J_ireturn dX9_isOfTwo_54 rfl rfl (by decide) (by decide) ?_
        have e1 : (choW tk d ps k) = (false, (ps ((k + 1) + 1)).2.1, (ps ((k + 1) + 1)).2.2) := by
          first
            | (simp [choW, bnd, eat, dpt, emt, ah16, bh16, h24, h33]; done)
            | (simp [choW, bnd, eat, dpt, emt, ah16, bh16, h24, h33]; exact Prod.ext (by simp_all) rfl)
        rw [e1]
        exact ⟨rfl, rfl, _, _, fun z => (Bool.false_ne_true z).elim, hM_4, hN_4, (((s1.trans hs_2).trans hs_3).trans hs_4)⟩
      · rw [eaM_pt h33] at hM_4
        have kh33 : (ps ((k + 1) + 1)).2.1 + 1 < tok := hnx _ g3.2.1 (by rw [h33]; decide) (by rw [h33]; decide)
        refine J_aload_n dX9_isOfTwo_36 rfl rfl ?_
        refine J_aload_n dX9_isOfTwo_37 rfl rfl ?_
        refine J_callVw (As := [_]) dX9_isOfTwo_38 ml_X9_340 cal_X9_isSum im_X9_isSum se_X9_isSum (hM_4.at 0 rfl) rfl rfl rfl (Nat.le_of_ble_eq_true rfl) ⟨by omega, by show 8 + (3 + 11) + _ ≤ _; omega⟩ ⟨by decide, by decide⟩ ((hs (by omega)) _ _ _ _ ((ps ((k + 1) + 1)).2.1 + 1) (m + (ps ((k + 1) + 1)).2.2.length) htv hM_4 hN_4 m3 (by omega) kh33) (fun A5 hQ5 => ?_)
        obtain ⟨d_5, P_5, hf_5, hM_5, hN_5, hs_5⟩ := hQ5
        refine J_ifb_eq (tgt := 53) dX9_isOfTwo_41 rfl (fun h41 => ?_) (fun h41 => ?_)
        · refine J_iconst (v := 0) dX9_isOfTwo_53 (by decide) ?_
          refine J_ireturn dX9_isOfTwo_54 rfl rfl (by decide) (by decide) ?_
          have e1 : (choW tk d ps k) = (false, (ps ((ps ((k + 1) + 1)).2.1 + 1)).2.1, (ps ((k + 1) + 1)).2.2 ++ (ps ((ps ((k + 1) + 1)).2.1 + 1)).2.2) := by
            first
              | (simp [choW, bnd, eat, dpt, emt, ah16, bh16, h24, h33, h41]; done)
              | (simp [choW, bnd, eat, dpt, emt, ah16, bh16, h24, h33, h41]; exact Prod.ext (by simp_all) rfl)
          rw [e1]
          exact ⟨rfl, rfl, _, _, fun z => (Bool.false_ne_true z).elim, hM_5, hN_5, ((((s1.trans hs_2).trans hs_3).trans hs_4).trans hs_5)⟩
        · obtain ⟨hd_5, rfl⟩ := hf_5 h41
          rw [hd_5] at hM_5
          have g5 := oks ((ps ((k + 1) + 1)).2.1 + 1) kh33
          have m5 := emP_10 (ps ((ps ((k + 1) + 1)).2.1 + 1)).2.2 _ m3
          refine J_aload_n dX9_isOfTwo_44 rfl rfl ?_
          refine J_bipush (v := 41) dX9_isOfTwo_45 (by decide) ?_
          refine J_callVw (As := [_]) dX9_isOfTwo_47 ml_X9_334 cal_X9_closes im_X9_closes se_X9_closes (hM_5.at 0 rfl) rfl rfl rfl (Nat.le_of_ble_eq_true rfl) ⟨by omega, by show 8 + (2 + 11) + _ ≤ _; omega⟩ ⟨by decide, by decide⟩ (c_X9_closes (v := 21) (k := (ps ((ps ((k + 1) + 1)).2.1 + 1)).2.1) hst hM_5 rfl (by decide) htv.pa rfl g5.2.1) (fun A6 hQ6 => ?_)
          have hM_6 := hQ6.1
          have hN_6 := hN_5.mf hQ6.2 (m := 9) rfl (fun i hi => by unfold isM; omega)
          have hs_6 : xx_pf bm bp _ _ := hQ6.2.toP
          refine J_ifb_ne (tgt := 55) dX9_isOfTwo_50 rfl (fun h50 => ?_) (fun h50 => ?_)
          · rw [clM_pt h50] at hM_6
            have kh50 : (ps ((ps ((k + 1) + 1)).2.1 + 1)).2.1 + 1 < tok := hnx _ g5.2.1 (by rw [h50]; decide) (by rw [h50]; decide)
            refine J_aload_n dX9_isOfTwo_55 rfl rfl ?_
            refine J_aload_n dX9_isOfTwo_56 rfl rfl ?_
            refine J_iload_n dX9_isOfTwo_57 rfl rfl ?_
            refine J_iconst (v := 0) dX9_isOfTwo_58 (by decide) ?_
            refine J_callVw (As := [_, _, _]) dX9_isOfTwo_59 ml_X9_321 cal_X9_put im_X9_put se_X9_put (hM_6.at 0 rfl) rfl rfl rfl (Nat.le_of_ble_eq_true rfl) ⟨by omega, by show 8 + (4 + 11) + _ ≤ _; omega⟩ ⟨by decide, by decide⟩ (c_X9_put (k := ((m + (ps ((k + 1) + 1)).2.2.length) + (ps ((ps ((k + 1) + 1)).2.1 + 1)).2.2.length)) hst hM_6 hN_6 _ _ m5 (by omega)) (fun A7 hQ7 => ?_)
            have hN_7 := hQ7.1
            have hM_7 := layM_sP hM_6 hQ7.2 hb48
            have hs_7 : xx_pf bm bp _ _ := hQ7.2.toP
            rw [put_em m5 (by omega) (op := (if tk k = 18 then 12 else 13)) (x := 0) hyy hzz] at hN_7
            have m7 := emP_10 [(((if tk k = 18 then 12 else 13) : Int32), (0 : Int32))] _ m5
            refine J_iconst (v := 1) dX9_isOfTwo_62 (by decide) ?_
            refine J_ireturn dX9_isOfTwo_63 rfl rfl (by decide) (by decide) ?_
            have e1 : (choW tk d ps k) = (true, ((ps ((ps ((k + 1) + 1)).2.1 + 1)).2.1 + 1), (ps ((k + 1) + 1)).2.2 ++ (ps ((ps ((k + 1) + 1)).2.1 + 1)).2.2 ++ [(((if tk k = 18 then 12 else 13) : Int32), (0 : Int32))]) := by
              first
                | (simp [choW, bnd, eat, dpt, emt, ah16, bh16, h24, h33, h41, h50]; done)
                | (simp [choW, bnd, eat, dpt, emt, ah16, bh16, h24, h33, h41, h50]; exact Prod.ext (by simp_all) rfl)
            rw [e1]
            exact ⟨rfl, rfl, d, _, fun _ => ⟨rfl, by simp only [emP_app]⟩, hM_7, hN_7, ((((((s1.trans hs_2).trans hs_3).trans hs_4).trans hs_5).trans hs_6).trans hs_7)⟩
          · rw [clM_f h50] at hM_6
            refine J_iconst (v := 0) dX9_isOfTwo_53 (by decide) ?_
            refine J_ireturn dX9_isOfTwo_54 rfl rfl (by decide) (by decide) ?_
            have e1 : (choW tk d ps k) = (false, (ps ((ps ((k + 1) + 1)).2.1 + 1)).2.1, (ps ((k + 1) + 1)).2.2 ++ (ps ((ps ((k + 1) + 1)).2.1 + 1)).2.2) := by
              first
                | (simp [choW, bnd, eat, dpt, emt, ah16, bh16, h24, h33, h41, h50]; done)
                | (simp [choW, bnd, eat, dpt, emt, ah16, bh16, h24, h33, h41, h50]; exact Prod.ext (by simp_all) rfl)
            rw [e1]
            exact ⟨rfl, rfl, _, _, fun z => (Bool.false_ne_true z).elim, hM_6, hN_6, (((((s1.trans hs_2).trans hs_3).trans hs_4).trans hs_5).trans hs_6)⟩
set_option maxHeartbeats 2000000 in
theorem c_X9_isSingle (hst : l.stackTraces = false) (hb48 : bm + 48 ≤ bp) (h401 : tok ≤ 401) (hnx : nxt tk tok) (hd8 : d ≤ 8) {b0 : Nat} {q1 qt qc : Nat → Res} {f0 g0 f1 g1 f2 g2 : Nat} (h1 : d < 8 → prP G l bm bp b0 bn ba vL nl tk tok yX9_isSingle mX9_isSingle f0 g0 (d + 1) q1) (ok1 : pOK tok q1) (ht : d < 8 → prP G l bm bp b0 bn ba vL nl tk tok yX9_isTest mX9_isTest f1 g1 (d + 1) qt) (okt : pOK tok qt) (hcm : prP G l bm bp b0 bn ba vL nl tk tok yX9_isCompare mX9_isCompare f2 g2 d qc) {fr lo : Nat} (hf9 : 12 ≤ fr) (hg9 : 400 ≤ lo) (hf0 : f0 + 1 ≤ fr) (hg0 : g0 + 21 ≤ lo) (hf1 : f1 + 1 ≤ fr) (hg1 : g1 + 21 ≤ lo) (hf2 : f2 + 1 ≤ fr) (hg2 : g2 + 23 ≤ lo) : prP G l bm bp b0 bn ba vL nl tk tok yX9_isSingle mX9_isSingle fr lo d (sngW tk d q1 qt qc) := by
  intro A n M P k m htv hM hN hm hmk hk
  refine J_C hst (by decide +kernel) rfl rfl rfl (Nat.le_of_ble_eq_true rfl) ?_
  show xx_J _ _ _ _ _ _ _ _ 0 [(0, _), (1, _)] [] _ _ _ _
  refine J_aload_n dX9_isSingle_0 rfl rfl ?_
  refine J_getf dX9_isSingle_1 fl_X9_24 (hM.at 0 rfl) rfl ?_
  refine J_aload_n dX9_isSingle_4 rfl rfl ?_
  refine J_getf dX9_isSingle_5 fl_X9_305 (hM.at 0 rfl) rfl ?_
  refine J_ialdN k dX9_isSingle_8 (hM.at 2 rfl) rfl (by omega) (by decide) ?_
  refine J_bipush (v := 15) dX9_isSingle_9 (by decide) ?_
  refine J_icmp_ne (tgt := 53) dX9_isSingle_11 rfl (fun h11 => ?_) (fun h11 => ?_)
  · have th11 : ¬ tk k = 15 := fun z => h11 ((htv.eq hk (v := 15) (by decide)).mpr z)
    refine J_aload_n dX9_isSingle_53 rfl rfl ?_
    refine J_getf dX9_isSingle_54 fl_X9_24 (hM.at 0 rfl) rfl ?_
    refine J_aload_n dX9_isSingle_57 rfl rfl ?_
    refine J_getf dX9_isSingle_58 fl_X9_305 (hM.at 0 rfl) rfl ?_
    refine J_ialdN k dX9_isSingle_61 (hM.at 2 rfl) rfl (by omega) (by decide) ?_
    refine J_bipush (v := 91) dX9_isSingle_62 (by decide) ?_
    refine J_icmp_ne (tgt := 99) dX9_isSingle_64 rfl (fun h64 => ?_) (fun h64 => ?_)
    · have th64 : ¬ tk k = 22 := fun z => h64 ((htv.eq hk (v := 22) (by decide)).mpr z)
      refine J_aload_n dX9_isSingle_99 rfl rfl ?_
      refine J_getf dX9_isSingle_100 fl_X9_24 (hM.at 0 rfl) rfl ?_
      refine J_aload_n dX9_isSingle_103 rfl rfl ?_
      refine J_getf dX9_isSingle_104 fl_X9_305 (hM.at 0 rfl) rfl ?_
      refine J_ialdN k dX9_isSingle_107 (hM.at 2 rfl) rfl (by omega) (by decide) ?_
      refine J_bipush (v := 12) dX9_isSingle_108 (by decide) ?_
      refine J_icmp_eq (tgt := 119) dX9_isSingle_110 rfl (fun h110 => ?_) (fun h110 => ?_)
      · have th110 : tk k = 12 := (htv.eq hk (v := 12) (by decide)).mp h110
        refine J_aload_n dX9_isSingle_119 rfl rfl ?_
        refine J_aload_n dX9_isSingle_120 rfl rfl ?_
        refine J_bipush (v := 12) dX9_isSingle_121 (by decide) ?_
        refine J_iconst (v := 0) dX9_isSingle_123 (by decide) ?_
        refine J_callVw (As := [_, _, _]) dX9_isSingle_124 ml_X9_321 cal_X9_put im_X9_put se_X9_put (hM.at 0 rfl) rfl rfl rfl (Nat.le_of_ble_eq_true rfl) ⟨by omega, by show 8 + (4 + 11) + _ ≤ _; omega⟩ ⟨by decide, by decide⟩ (c_X9_put (k := m) hst hM hN _ _ hm (by omega)) (fun A1 hQ1 => ?_)
        have hN_1 := hQ1.1
        have hM_1 := layM_sP hM hQ1.2 hb48
        have hs_1 : xx_pf bm bp _ _ := hQ1.2.toP
        rw [put_em hm (by omega) (op := 5) (x := 0) (y := 12) (z := 0) rfl rfl] at hN_1
        have m1 := emP_10 [((5 : Int32), (0 : Int32))] _ hm
        refine J_aload_n dX9_isSingle_127 rfl rfl ?_
        refine J_bipush (v := 12) dX9_isSingle_128 (by decide) ?_
        refine J_callVw (As := [_]) dX9_isSingle_130 ml_X9_308 cal_X9_eat im_X9_eat se_X9_eat (hM_1.at 0 rfl) rfl rfl rfl (Nat.le_of_ble_eq_true rfl) ⟨by omega, by show 8 + (2 + 11) + _ ≤ _; omega⟩ ⟨by decide, by decide⟩ (c_X9_eat (v := 12) (k := k) hst hM_1 rfl (by decide) htv.pa rfl hk) (fun A2 hQ2 => ?_)
        have hM_2 := hQ2.1
        have hN_2 := hN_1.mf hQ2.2 (m := 9) rfl (fun i hi => by unfold isM; omega)
        have hs_2 : xx_pf bm bp _ _ := hQ2.2.toP
        refine J_ireturn dX9_isSingle_133 rfl nar_b (by decide) (by decide) ?_
        have e1 : (sngW tk d q1 qt qc k) = (true, k + 1, [(5, 0)]) := by unfold sngW; rw [if_neg th11, if_neg th64, if_pos th110]
        rw [e1]
        rw [eaM_pt th110] at hM_2
        exact ⟨by rw [xx_bt th110]; rfl, rfl, d, _, fun _ => ⟨rfl, rfl⟩, hM_2, hN_2, (((xx_pf.rf (bm := bm) (bp := bp)).trans hs_1).trans hs_2)⟩
      · have th110 : ¬ tk k = 12 := fun z => h110 ((htv.eq hk (v := 12) (by decide)).mpr z)
        refine J_aload_n dX9_isSingle_113 rfl rfl ?_
        refine J_aload_n dX9_isSingle_114 rfl rfl ?_
        refine J_callVw (As := [_]) dX9_isSingle_115 ml_X9_337 cal_X9_isCompare im_X9_isCompare se_X9_isCompare (hM.at 0 rfl) rfl rfl rfl (Nat.le_of_ble_eq_true rfl) ⟨by omega, by show 8 + (4 + 11) + _ ≤ _; omega⟩ ⟨by decide, by decide⟩ (hcm _ _ _ _ k m htv hM hN hm (by omega) hk) (fun A3 hQ3 => ?_)
        obtain ⟨d_3, P_3, hf_3, hM_3, hN_3, hs_3⟩ := hQ3
        refine J_ireturn dX9_isSingle_118 rfl nar_b (by decide) (by decide) ?_
        have e1 : (sngW tk d q1 qt qc k) = qc k := by unfold sngW; rw [if_neg th11, if_neg th64, if_neg th110]
        rw [e1]
        exact ⟨rfl, rfl, d_3, P_3, hf_3, hM_3, hN_3, ((xx_pf.rf (bm := bm) (bp := bp)).trans hs_3)⟩
    · have th64 : tk k = 22 := (htv.eq hk (v := 22) (by decide)).mp h64
      refine J_aload_n dX9_isSingle_67 rfl rfl ?_
      refine J_bipush (v := 91) dX9_isSingle_68 (by decide) ?_
      refine J_callVw (As := [_]) dX9_isSingle_70 ml_X9_328 cal_X9_deeper im_X9_deeper se_X9_deeper (hM.at 0 rfl) rfl rfl rfl (Nat.le_of_ble_eq_true rfl) ⟨by omega, by show 8 + (2 + 11) + _ ≤ _; omega⟩ ⟨by decide, by decide⟩ (c_X9_deeper (v := 22) (k := k) hst hM rfl (by decide) htv.pa rfl hk hd8 rfl) (fun A4 hQ4 => ?_)
      have hM_4 := hQ4.1
      have hN_4 := hN.mf hQ4.2 (m := 9) rfl (fun i hi => by unfold isM; omega)
      have hs_4 : xx_pf bm bp _ _ := hQ4.2.toP
      refine J_ifb_eq (tgt := 97) dX9_isSingle_73 rfl (fun h73 => ?_) (fun h73 => ?_)
      · rw [dpM_f h73] at hM_4
        have uh73 : ¬ d < 8 := fun z => h73 ⟨z, th64⟩
        refine J_iconst (v := 0) dX9_isSingle_97 (by decide) ?_
        refine J_ireturn dX9_isSingle_98 rfl rfl (by decide) (by decide) ?_
        have e1 : (sngW tk d q1 qt qc k) = (false, k, []) := by
          first
            | (simp [sngW, notW, parW, bnd, eat, dpt, emt, th11, th64, h73, uh73]; done)
            | (simp [sngW, notW, parW, bnd, eat, dpt, emt, th11, th64, h73, uh73]; exact Prod.ext (by simp_all) rfl)
        rw [e1]
        exact ⟨rfl, rfl, _, _, fun z => (Bool.false_ne_true z).elim, hM_4, hN_4, ((xx_pf.rf (bm := bm) (bp := bp)).trans hs_4)⟩
      · rw [dpM_pt h73] at hM_4
        have ah73 := h73.1
        have bh73 := h73.2
        have kh73 : k + 1 < tok := hnx _ hk (by rw [bh73]; decide) (by rw [bh73]; decide)
        refine J_aload_n dX9_isSingle_76 rfl rfl ?_
        refine J_aload_n dX9_isSingle_77 rfl rfl ?_
        refine J_callVw (As := [_]) dX9_isSingle_78 ml_X9_331 cal_X9_isTest im_X9_isTest se_X9_isTest (hM_4.at 0 rfl) rfl rfl rfl (Nat.le_of_ble_eq_true rfl) ⟨by omega, by show 8 + (2 + 11) + _ ≤ _; omega⟩ ⟨by decide, by decide⟩ ((ht (by omega)) _ _ _ _ (k + 1) m htv hM_4 hN_4 hm (by omega) kh73) (fun A5 hQ5 => ?_)
        obtain ⟨d_5, P_5, hf_5, hM_5, hN_5, hs_5⟩ := hQ5
        refine J_ifb_eq (tgt := 97) dX9_isSingle_81 rfl (fun h81 => ?_) (fun h81 => ?_)
        · refine J_iconst (v := 0) dX9_isSingle_97 (by decide) ?_
          refine J_ireturn dX9_isSingle_98 rfl rfl (by decide) (by decide) ?_
          have e1 : (sngW tk d q1 qt qc k) = (false, (qt (k + 1)).2.1, (qt (k + 1)).2.2) := by
            first
              | (simp [sngW, notW, parW, bnd, eat, dpt, emt, th11, th64, ah73, bh73, h81]; done)
              | (simp [sngW, notW, parW, bnd, eat, dpt, emt, th11, th64, ah73, bh73, h81]; exact Prod.ext (by simp_all) rfl)
          rw [e1]
          exact ⟨rfl, rfl, _, _, fun z => (Bool.false_ne_true z).elim, hM_5, hN_5, (((xx_pf.rf (bm := bm) (bp := bp)).trans hs_4).trans hs_5)⟩
        · obtain ⟨hd_5, rfl⟩ := hf_5 h81
          rw [hd_5] at hM_5
          have g5 := okt (k + 1) kh73
          have m5 := emP_10 (qt (k + 1)).2.2 _ hm
          refine J_aload_n dX9_isSingle_84 rfl rfl ?_
          refine J_bipush (v := 93) dX9_isSingle_85 (by decide) ?_
          refine J_callVw (As := [_]) dX9_isSingle_87 ml_X9_334 cal_X9_closes im_X9_closes se_X9_closes (hM_5.at 0 rfl) rfl rfl rfl (Nat.le_of_ble_eq_true rfl) ⟨by omega, by show 8 + (2 + 11) + _ ≤ _; omega⟩ ⟨by decide, by decide⟩ (c_X9_closes (v := 23) (k := (qt (k + 1)).2.1) hst hM_5 rfl (by decide) htv.pa rfl g5.2.1) (fun A6 hQ6 => ?_)
          have hM_6 := hQ6.1
          have hN_6 := hN_5.mf hQ6.2 (m := 9) rfl (fun i hi => by unfold isM; omega)
          have hs_6 : xx_pf bm bp _ _ := hQ6.2.toP
          refine J_ifb_eq (tgt := 97) dX9_isSingle_90 rfl (fun h90 => ?_) (fun h90 => ?_)
          · rw [clM_f h90] at hM_6
            refine J_iconst (v := 0) dX9_isSingle_97 (by decide) ?_
            refine J_ireturn dX9_isSingle_98 rfl rfl (by decide) (by decide) ?_
            have e1 : (sngW tk d q1 qt qc k) = (false, (qt (k + 1)).2.1, (qt (k + 1)).2.2) := by
              first
                | (simp [sngW, notW, parW, bnd, eat, dpt, emt, th11, th64, ah73, bh73, h81, h90]; done)
                | (simp [sngW, notW, parW, bnd, eat, dpt, emt, th11, th64, ah73, bh73, h81, h90]; exact Prod.ext (by simp_all) rfl)
            rw [e1]
            exact ⟨rfl, rfl, _, _, fun z => (Bool.false_ne_true z).elim, hM_6, hN_6, ((((xx_pf.rf (bm := bm) (bp := bp)).trans hs_4).trans hs_5).trans hs_6)⟩
          · rw [clM_pt h90] at hM_6
            have kh90 : (qt (k + 1)).2.1 + 1 < tok := hnx _ g5.2.1 (by rw [h90]; decide) (by rw [h90]; decide)
            refine J_iconst (v := 1) dX9_isSingle_93 (by decide) ?_
            refine J_goto (tgt := 98) dX9_isSingle_94 rfl ?_
            refine J_ireturn dX9_isSingle_98 rfl rfl (by decide) (by decide) ?_
            have e1 : (sngW tk d q1 qt qc k) = (true, ((qt (k + 1)).2.1 + 1), (qt (k + 1)).2.2) := by
              first
                | (simp [sngW, notW, parW, bnd, eat, dpt, emt, th11, th64, ah73, bh73, h81, h90]; done)
                | (simp [sngW, notW, parW, bnd, eat, dpt, emt, th11, th64, ah73, bh73, h81, h90]; exact Prod.ext (by simp_all) rfl)
            rw [e1]
            exact ⟨rfl, rfl, d, _, fun _ => ⟨rfl, by simp only [emP_app]⟩, hM_6, hN_6, ((((xx_pf.rf (bm := bm) (bp := bp)).trans hs_4).trans hs_5).trans hs_6)⟩
  · have th11 : tk k = 15 := (htv.eq hk (v := 15) (by decide)).mp h11
    refine J_aload_n dX9_isSingle_14 rfl rfl ?_
    refine J_bipush (v := 15) dX9_isSingle_15 (by decide) ?_
    refine J_callVw (As := [_]) dX9_isSingle_17 ml_X9_328 cal_X9_deeper im_X9_deeper se_X9_deeper (hM.at 0 rfl) rfl rfl rfl (Nat.le_of_ble_eq_true rfl) ⟨by omega, by show 8 + (2 + 11) + _ ≤ _; omega⟩ ⟨by decide, by decide⟩ (c_X9_deeper (v := 15) (k := k) hst hM rfl (by decide) htv.pa rfl hk hd8 rfl) (fun A7 hQ7 => ?_)
    have hM_7 := hQ7.1
    have hN_7 := hN.mf hQ7.2 (m := 9) rfl (fun i hi => by unfold isM; omega)
    have hs_7 : xx_pf bm bp _ _ := hQ7.2.toP
    refine J_ifb_eq (tgt := 31) dX9_isSingle_20 rfl (fun h20 => ?_) (fun h20 => ?_)
    · rw [dpM_f h20] at hM_7
      have uh20 : ¬ d < 8 := fun z => h20 ⟨z, th11⟩
      refine J_iconst (v := 0) dX9_isSingle_31 (by decide) ?_
      refine J_ireturn dX9_isSingle_32 rfl rfl (by decide) (by decide) ?_
      have e1 : (sngW tk d q1 qt qc k) = (false, k, []) := by
        first
          | (simp [sngW, notW, parW, bnd, eat, dpt, emt, th11, h20, uh20]; done)
          | (simp [sngW, notW, parW, bnd, eat, dpt, emt, th11, h20, uh20]; exact Prod.ext (by simp_all) rfl)
      rw [e1]
      exact ⟨rfl, rfl, _, _, fun z => (Bool.false_ne_true z).elim, hM_7, hN_7, ((xx_pf.rf (bm := bm) (bp := bp)).trans hs_7)⟩
    · rw [dpM_pt h20] at hM_7
      have ah20 := h20.1
      have bh20 := h20.2
      have kh20 : k + 1 < tok := hnx _ hk (by rw [bh20]; decide) (by rw [bh20]; decide)
      refine J_aload_n dX9_isSingle_23 rfl rfl ?_
      refine J_aload_n dX9_isSingle_24 rfl rfl ?_
      refine J_callVw (As := [_]) dX9_isSingle_25 ml_X9_325 cal_X9_isSingle im_X9_isSingle se_X9_isSingle (hM_7.at 0 rfl) rfl rfl rfl (Nat.le_of_ble_eq_true rfl) ⟨by omega, by show 8 + (2 + 11) + _ ≤ _; omega⟩ ⟨by decide, by decide⟩ ((h1 (by omega)) _ _ _ _ (k + 1) m htv hM_7 hN_7 hm (by omega) kh20) (fun A8 hQ8 => ?_)
      obtain ⟨d_8, P_8, hf_8, hM_8, hN_8, hs_8⟩ := hQ8
      refine J_ifb_ne (tgt := 33) dX9_isSingle_28 rfl (fun h28 => ?_) (fun h28 => ?_)
      · obtain ⟨hd_8, rfl⟩ := hf_8 h28
        rw [hd_8] at hM_8
        have g8 := ok1 (k + 1) kh20
        have m8 := emP_10 (q1 (k + 1)).2.2 _ hm
        refine J_aload_n dX9_isSingle_33 rfl rfl ?_
        refine J_dup dX9_isSingle_34 rfl ?_
        refine J_getf dX9_isSingle_35 fl_X9_311 (hM_8.at 0 rfl) rfl ?_
        refine J_iconst (v := 1) dX9_isSingle_38 (by decide) ?_
        refine J_isub dX9_isSingle_39 ?_
        refine J_putf dX9_isSingle_40 fp_X9_311 (fun _ => ⟨rfl, rfl⟩) (hM_8.at 0 rfl) (Nat.le_of_ble_eq_true rfl) ?_
        refine J_genA (wM_s0_10 hM_8 _) ((((xx_pf.rf (bm := bm) (bp := bp)).trans hs_7).trans hs_8).put (by omega) (by omega) _) (fun A9 w9 s9 o9 => ?_)
        have w9N := hN_8.o2 o9 (m := 9) rfl (by omega)
        have u9 := w9
        rw [pd_up (M := M) (k := (q1 (k + 1)).2.1) (d := (d + 1)) (d2 := d) (x := (paM M (q1 (k + 1)).2.1 (d + 1)).1 10 - 1) (by show nI (d + 1) - 1 = nI d; rw [show (1 : Int32) = nI 1 from rfl, pk_sub (by omega), Nat.add_sub_cancel])] at u9
        refine J_aload_n dX9_isSingle_43 rfl rfl ?_
        refine J_aload_n dX9_isSingle_44 rfl rfl ?_
        refine J_bipush (v := 15) dX9_isSingle_45 (by decide) ?_
        refine J_iconst (v := 0) dX9_isSingle_47 (by decide) ?_
        refine J_callVw (As := [_, _, _]) dX9_isSingle_48 ml_X9_321 cal_X9_put im_X9_put se_X9_put (u9.at 0 rfl) rfl rfl rfl (Nat.le_of_ble_eq_true rfl) ⟨by omega, by show 8 + (4 + 11) + _ ≤ _; omega⟩ ⟨by decide, by decide⟩ (c_X9_put (k := (m + (q1 (k + 1)).2.2.length)) hst u9 w9N _ _ m8 (by omega)) (fun A10 hQ10 => ?_)
        have hN_10 := hQ10.1
        have hM_10 := layM_sP u9 hQ10.2 hb48
        have hs_10 : xx_pf bm bp _ _ := hQ10.2.toP
        rw [put_em m8 (by omega) (op := 7) (x := 0) (y := 15) (z := 0) rfl rfl] at hN_10
        have m10 := emP_10 [((7 : Int32), (0 : Int32))] _ m8
        refine J_iconst (v := 1) dX9_isSingle_51 (by decide) ?_
        refine J_ireturn dX9_isSingle_52 rfl rfl (by decide) (by decide) ?_
        have e1 : (sngW tk d q1 qt qc k) = (true, (q1 (k + 1)).2.1, (q1 (k + 1)).2.2 ++ [((7 : Int32), (0 : Int32))]) := by
          first
            | (simp [sngW, notW, parW, bnd, eat, dpt, emt, th11, ah20, bh20, h28]; done)
            | (simp [sngW, notW, parW, bnd, eat, dpt, emt, th11, ah20, bh20, h28]; exact Prod.ext (by simp_all) rfl)
        rw [e1]
        exact ⟨rfl, rfl, d, _, fun _ => ⟨rfl, by simp only [emP_app]⟩, hM_10, hN_10, (s9.trans hs_10)⟩
      · refine J_iconst (v := 0) dX9_isSingle_31 (by decide) ?_
        refine J_ireturn dX9_isSingle_32 rfl rfl (by decide) (by decide) ?_
        have e1 : (sngW tk d q1 qt qc k) = (false, (q1 (k + 1)).2.1, (q1 (k + 1)).2.2) := by
          first
            | (simp [sngW, notW, parW, bnd, eat, dpt, emt, th11, ah20, bh20, h28]; done)
            | (simp [sngW, notW, parW, bnd, eat, dpt, emt, th11, ah20, bh20, h28]; exact Prod.ext (by simp_all) rfl)
        rw [e1]
        exact ⟨rfl, rfl, _, _, fun z => (Bool.false_ne_true z).elim, hM_8, hN_8, (((xx_pf.rf (bm := bm) (bp := bp)).trans hs_7).trans hs_8)⟩
end XSG
