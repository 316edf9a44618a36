/-! THE REFERENCE: isOfTwo, isSingle, isValue -/
section XSG
variable {G : xx_G} {l : Launch} {A A' : xx_H} {n : Nat} {bm bp bs bn ba : Nat} {vL nl : Nat → Int64} {M M' M1 P S : xS} {T : xS} {len i j k q s e t d nt tok v m : Nat} {tk : Nat → Nat}
theorem dpM_f {c : Prop} [Decidable c] (h : ¬ c) : dpM M c = M := if_neg h
theorem clM_f {c : Prop} [Decidable c] (h : ¬ c) : clM M c = M := if_neg h
set_option maxHeartbeats 2000000 in
theorem c_X9_isOfTwo (hst : l.stackTraces = false) (hb48 : bm + 48 ≤ bp) (h401 : tok ≤ 401) (hnx : nxt tk tok) (hd8 : d ≤ 8) {b0 : Nat} {ps : Nat → Res} {f0 g0 : Nat} (hs : d < 8 → prP G l bm bp b0 bn ba vL nl tk tok yX9_isSum mX9_isSum f0 g0 (d + 1) ps) (oks : pOK tok ps) {fr lo : Nat} (hf9 : 12 ≤ fr) (hg9 : 400 ≤ lo) (hf0 : f0 + 1 ≤ fr) (hg0 : g0 + 22 ≤ lo) (htv : tkV tk tok M) (hM : xx_w bm (layM b0 vL bn ba bm (paM M k d)) A) (hN : xx_w bp (layN nl bp P) A) (hm : P.1 10 = nI m) (hmk : m ≤ k) (hk : k < tok) (h18 : tk k = 18 ∨ tk k = 19) {x : Int32} (hx : x = nI (kdR (tk k))) : xx_C G l yX9_isOfTwo mX9_isOfTwo fr lo 0 0 [.ref bm, .ref bp, .int x] A n (prQ bm bp b0 bn ba n vL nl M P d (choW tk d ps k) A) := by
  have hyy : trO (if tk k = 18 then 12 else 13) 0 = x := by
    rw [hx]
    rcases h18 with z | z <;> (rw [z]; rfl)
  have hzz : trW (if tk k = 18 then 12 else 13) 0 = 0 := by
    rcases h18 with z | z <;> (rw [z]; rfl)
  refine J_C hst (by decide +kernel) rfl rfl rfl (Nat.le_of_ble_eq_true rfl) ?_
  show xx_J _ _ _ _ _ _ _ _ 0 [(0, _), (1, _), (2, _)] [] _ _ _ _
  refine J_aload_n dX9_isOfTwo_0 rfl rfl ?_
  refine J_dup dX9_isOfTwo_1 rfl ?_
  refine J_getf dX9_isOfTwo_2 fl_X9_305 (hM.at 0 rfl) rfl ?_
  refine J_iconst (v := 1) dX9_isOfTwo_5 (by decide) ?_
  refine J_iadd dX9_isOfTwo_6 ?_
  refine J_putf dX9_isOfTwo_7 fp_X9_305 (fun _ => ⟨rfl, rfl⟩) (hM.at 0 rfl) (Nat.le_of_ble_eq_true rfl) ?_
  refine J_genA (wM_s0_9 hM _) ((xx_pf.rf (bm := bm) (bp := bp)).put (by omega) (by omega) _) (fun A1 w1 s1 o1 => ?_)
  have w1N := hN.o2 o1 (m := 9) rfl (by omega)
  have u1 := w1
  rw [pa_up (M := M) (k := k) (d := d) (k2 := k + 1) (x := (paM M k d).1 9 + 1) (nI_1 _)] at u1
  have nx1 : ¬ tk k = 37 ∧ ¬ tk k = 38 := (by omega : ¬ tk k = 37 ∧ ¬ tk k = 38)
  have hk1 : k + 1 < tok := hnx _ hk nx1.1 nx1.2
  refine J_aload_n dX9_isOfTwo_10 rfl rfl ?_
  refine J_bipush (v := 40) dX9_isOfTwo_11 (by decide) ?_
  refine J_callVw (As := [_]) dX9_isOfTwo_13 ml_X9_328 cal_X9_deeper im_X9_deeper se_X9_deeper (u1.at 0 rfl) rfl rfl rfl (Nat.le_of_ble_eq_true rfl) ⟨by omega, by show 8 + (2 + 11) + _ ≤ _; omega⟩ ⟨by decide, by decide⟩ (c_X9_deeper (v := 20) (k := (k + 1)) hst u1 rfl (by decide) htv.pa rfl hk1 hd8 rfl) (fun A2 hQ2 => ?_)
  have hM_2 := hQ2.1
  have hN_2 := w1N.mf hQ2.2 (m := 9) rfl (fun i hi => by unfold isM; omega)
  have hs_2 : xx_pf bm bp _ _ := hQ2.2.toP
  refine J_ifb_eq (tgt := 53) dX9_isOfTwo_16 rfl (fun h16 => ?_) (fun h16 => ?_)
  · rw [dpM_f h16] at hM_2
    refine J_iconst (v := 0) dX9_isOfTwo_53 (by decide) ?_
    refine J_ireturn dX9_isOfTwo_54 rfl rfl (by decide) (by decide) ?_
    have e1 : (choW tk d ps k) = (false, (k + 1), []) := by
      first
        | (simp [choW, bnd, eat, dpt, emt, h16]; done)
        | (simp [choW, bnd, eat, dpt, emt, h16]; exact Prod.ext (by simp_all) rfl)
    rw [e1]
    exact ⟨rfl, rfl, _, _, fun z => (Bool.false_ne_true z).elim, hM_2, hN_2, (s1.trans hs_2)⟩
  · rw [dpM_pt h16] at hM_2
    have ah16 := h16.1
    have bh16 := h16.2
    have kh16 : (k + 1) + 1 < tok := hnx _ hk1 (by rw [bh16]; decide) (by rw [bh16]; decide)
    refine J_aload_n dX9_isOfTwo_19 rfl rfl ?_
    refine J_aload_n dX9_isOfTwo_20 rfl rfl ?_
    refine J_callVw (As := [_]) dX9_isOfTwo_21 ml_X9_340 cal_X9_isSum im_X9_isSum se_X9_isSum (hM_2.at 0 rfl) rfl rfl rfl (Nat.le_of_ble_eq_true rfl) ⟨by omega, by show 8 + (3 + 11) + _ ≤ _; omega⟩ ⟨by decide, by decide⟩ ((hs (by omega)) _ _ _ _ ((k + 1) + 1) m htv hM_2 hN_2 hm (by omega) kh16) (fun A3 hQ3 => ?_)
    obtain ⟨d_3, P_3, hf_3, hM_3, hN_3, hs_3⟩ := hQ3
    refine J_ifb_eq (tgt := 53) dX9_isOfTwo_24 rfl (fun h24 => ?_) (fun h24 => ?_)
    · refine J_iconst (v := 0) dX9_isOfTwo_53 (by decide) ?_
      refine J_ireturn dX9_isOfTwo_54 rfl rfl (by decide) (by decide) ?_
      have e1 : (choW tk d ps k) = (false, (ps ((k + 1) + 1)).2.1, (ps ((k + 1) + 1)).2.2) := by
        first
          | (simp [choW, bnd, eat, dpt, emt, ah16, bh16, h24]; done)
          | (simp [choW, bnd, eat, dpt, emt, ah16, bh16, h24]; exact Prod.ext (by simp_all) rfl)
      rw [e1]
      exact ⟨rfl, rfl, _, _, fun z => (Bool.false_ne_true z).elim, hM_3, hN_3, ((s1.trans hs_2).trans hs_3)⟩
    · obtain ⟨hd_3, rfl⟩ := hf_3 h24
      rw [hd_3] at hM_3
      have g3 := oks ((k + 1) + 1) kh16
      have m3 := emP_10 (ps ((k + 1) + 1)).2.2 _ hm
      refine J_aload_n dX9_isOfTwo_27 rfl rfl ?_
      refine J_bipush (v := 44) dX9_isOfTwo_28 (by decide) ?_
      refine J_callVw (As := [_]) dX9_isOfTwo_30 ml_X9_308 cal_X9_eat im_X9_eat se_X9_eat (hM_3.at 0 rfl) rfl rfl rfl (Nat.le_of_ble_eq_true rfl) ⟨by omega, by show 8 + (2 + 11) + _ ≤ _; omega⟩ ⟨by decide, by decide⟩ (c_X9_eat (v := 25) (k := (ps ((k + 1) + 1)).2.1) hst hM_3 rfl (by decide) htv.pa rfl g3.2.1) (fun A4 hQ4 => ?_)
      have hM_4 := hQ4.1
      have hN_4 := hN_3.mf hQ4.2 (m := 9) rfl (fun i hi => by unfold isM; omega)
      have hs_4 : xx_pf bm bp _ _ := hQ4.2.toP
      refine J_ifb_eq (tgt := 53) dX9_isOfTwo_33 rfl (fun h33 => ?_) (fun h33 => ?_)
      · rw [eaM_f h33] at hM_4
        refine J_iconst (v := 0) dX9_isOfTwo_53 (by decide) ?_
        refine J_ireturn dX9_isOfTwo_54 rfl rfl (by decide) (by decide) ?_
        have e1 : (choW tk d ps k) = (false, (ps ((k + 1) + 1)).2.1, (ps ((k + 1) + 1)).2.2) := by
          first
            | (simp [choW, bnd, eat, dpt, emt, ah16, bh16, h24, h33]; done)
            | (simp [choW, bnd, eat, dpt, emt, ah16, bh16, h24, h33]; exact Prod.ext (by simp_all) rfl)
        rw [e1]
        exact ⟨rfl, rfl, _, _, fun z => (Bool.false_ne_true z).elim, hM_4, hN_4, (((s1.trans hs_2).trans hs_3).trans hs_4)⟩
      · rw [eaM_pt h33] at hM_4
        have kh33 : (ps ((k + 1) + 1)).2.1 + 1 < tok := hnx _ g3.2.1 (by rw [h33]; decide) (by rw [h33]; decide)
        refine J_aload_n dX9_isOfTwo_36 rfl rfl ?_
        refine J_aload_n dX9_isOfTwo_37 rfl rfl ?_
        refine J_callVw (As := [_]) dX9_isOfTwo_38 ml_X9_340 cal_X9_isSum im_X9_isSum se_X9_isSum (hM_4.at 0 rfl) rfl rfl rfl (Nat.le_of_ble_eq_true rfl) ⟨by omega, by show 8 + (3 + 11) + _ ≤ _; omega⟩ ⟨by decide, by decide⟩ ((hs (by omega)) _ _ _ _ ((ps ((k + 1) + 1)).2.1 + 1) (m + (ps ((k + 1) + 1)).2.2.length) htv hM_4 hN_4 m3 (by omega) kh33) (fun A5 hQ5 => ?_)
        obtain ⟨d_5, P_5, hf_5, hM_5, hN_5, hs_5⟩ := hQ5
        refine J_ifb_eq (tgt := 53) dX9_isOfTwo_41 rfl (fun h41 => ?_) (fun h41 => ?_)
        · refine J_iconst (v := 0) dX9_isOfTwo_53 (by decide) ?_
          refine J_ireturn dX9_isOfTwo_54 rfl rfl (by decide) (by decide) ?_
          have e1 : (choW tk d ps k) = (false, (ps ((ps ((k + 1) + 1)).2.1 + 1)).2.1, (ps ((k + 1) + 1)).2.2 ++ (ps ((ps ((k + 1) + 1)).2.1 + 1)).2.2) := by
            first
              | (simp [choW, bnd, eat, dpt, emt, ah16, bh16, h24, h33, h41]; done)
              | (simp [choW, bnd, eat, dpt, emt, ah16, bh16, h24, h33, h41]; exact Prod.ext (by simp_all) rfl)
          rw [e1]
          exact ⟨rfl, rfl, _, _, fun z => (Bool.false_ne_true z).elim, hM_5, hN_5, ((((s1.trans hs_2).trans hs_3).trans hs_4).trans hs_5)⟩
        · obtain ⟨hd_5, rfl⟩ := hf_5 h41
          rw [hd_5] at hM_5
          have g5 := oks ((ps ((k + 1) + 1)).2.1 + 1) kh33
          have m5 := emP_10 (ps ((ps ((k + 1) + 1)).2.1 + 1)).2.2 _ m3
          refine J_aload_n dX9_isOfTwo_44 rfl rfl ?_
          refine J_bipush (v := 41) dX9_isOfTwo_45 (by decide) ?_
          refine J_callVw (As := [_]) dX9_isOfTwo_47 ml_X9_334 cal_X9_closes im_X9_closes se_X9_closes (hM_5.at 0 rfl) rfl rfl rfl (Nat.le_of_ble_eq_true rfl) ⟨by omega, by show 8 + (2 + 11) + _ ≤ _; omega⟩ ⟨by decide, by decide⟩ (c_X9_closes (v := 21) (k := (ps ((ps ((k + 1) + 1)).2.1 + 1)).2.1) hst hM_5 rfl (by decide) htv.pa rfl g5.2.1) (fun A6 hQ6 => ?_)
          have hM_6 := hQ6.1
          have hN_6 := hN_5.mf hQ6.2 (m := 9) rfl (fun i hi => by unfold isM; omega)
          have hs_6 : xx_pf bm bp _ _ := hQ6.2.toP
          refine J_ifb_ne (tgt := 55) dX9_isOfTwo_50 rfl (fun h50 => ?_) (fun h50 => ?_)
          · rw [clM_pt h50] at hM_6
            have kh50 : (ps ((ps ((k + 1) + 1)).2.1 + 1)).2.1 + 1 < tok := hnx _ g5.2.1 (by rw [h50]; decide) (by rw [h50]; decide)
            refine J_aload_n dX9_isOfTwo_55 rfl rfl ?_
            refine J_aload_n dX9_isOfTwo_56 rfl rfl ?_
            refine J_iload_n dX9_isOfTwo_57 rfl rfl ?_
            refine J_iconst (v := 0) dX9_isOfTwo_58 (by decide) ?_
            refine J_callVw (As := [_, _, _]) dX9_isOfTwo_59 ml_X9_321 cal_X9_put im_X9_put se_X9_put (hM_6.at 0 rfl) rfl rfl rfl (Nat.le_of_ble_eq_true rfl) ⟨by omega, by show 8 + (4 + 11) + _ ≤ _; omega⟩ ⟨by decide, by decide⟩ (c_X9_put (k := ((m + (ps ((k + 1) + 1)).2.2.length) + (ps ((ps ((k + 1) + 1)).2.1 + 1)).2.2.length)) hst hM_6 hN_6 _ _ m5 (by omega)) (fun A7 hQ7 => ?_)
            have hN_7 := hQ7.1
            have hM_7 := layM_sP hM_6 hQ7.2 hb48
            have hs_7 : xx_pf bm bp _ _ := hQ7.2.toP
            rw [put_em m5 (by omega) (op := (if tk k = 18 then 12 else 13)) (x := 0) hyy hzz] at hN_7
            have m7 := emP_10 [(((if tk k = 18 then 12 else 13) : Int32), (0 : Int32))] _ m5
            refine J_iconst (v := 1) dX9_isOfTwo_62 (by decide) ?_
            refine J_ireturn dX9_isOfTwo_63 rfl rfl (by decide) (by decide) ?_
            have e1 : (choW tk d ps k) = (true, ((ps ((ps ((k + 1) + 1)).2.1 + 1)).2.1 + 1), (ps ((k + 1) + 1)).2.2 ++ (ps ((ps ((k + 1) + 1)).2.1 + 1)).2.2 ++ [(((if tk k = 18 then 12 else 13) : Int32), (0 : Int32))]) := by
              first
                | (simp [choW, bnd, eat, dpt, emt, ah16, bh16, h24, h33, h41, h50]; done)
                | (simp [choW, bnd, eat, dpt, emt, ah16, bh16, h24, h33, h41, h50]; exact Prod.ext (by simp_all) rfl)
            rw [e1]
            exact ⟨rfl, rfl, d, _, fun _ => ⟨rfl, by simp only [emP_app]⟩, hM_7, hN_7, ((((((s1.trans hs_2).trans hs_3).trans hs_4).trans hs_5).trans hs_6).trans hs_7)⟩
          · rw [clM_f h50] at hM_6
            refine J_iconst (v := 0) dX9_isOfTwo_53 (by decide) ?_
            refine J_ireturn dX9_isOfTwo_54 rfl rfl (by decide) (by decide) ?_
            have e1 : (choW tk d ps k) = (false, (ps ((ps ((k + 1) + 1)).2.1 + 1)).2.1, (ps ((k + 1) + 1)).2.2 ++ (ps ((ps ((k + 1) + 1)).2.1 + 1)).2.2) := by
              first
                | (simp [choW, bnd, eat, dpt, emt, ah16, bh16, h24, h33, h41, h50]; done)
                | (simp [choW, bnd, eat, dpt, emt, ah16, bh16, h24, h33, h41, h50]; exact Prod.ext (by simp_all) rfl)
            rw [e1]
            exact ⟨rfl, rfl, _, _, fun z => (Bool.false_ne_true z).elim, hM_6, hN_6, (((((s1.trans hs_2).trans hs_3).trans hs_4).trans hs_5).trans hs_6)⟩
set_option maxHeartbeats 2000000 in
theorem c_X9_isSingle (hst : l.stackTraces = false) (hb48 : bm + 48 ≤ bp) (h401 : tok ≤ 401) (hnx : nxt tk tok) (hd8 : d ≤ 8) {b0 : Nat} {q1 qt qc : Nat → Res} {f0 g0 f1 g1 f2 g2 : Nat} (h1 : d < 8 → prP G l bm bp b0 bn ba vL nl tk tok yX9_isSingle mX9_isSingle f0 g0 (d + 1) q1) (ok1 : pOK tok q1) (ht : d < 8 → prP G l bm bp b0 bn ba vL nl tk tok yX9_isTest mX9_isTest f1 g1 (d + 1) qt) (okt : pOK tok qt) (hcm : prP G l bm bp b0 bn ba vL nl tk tok yX9_isCompare mX9_isCompare f2 g2 d qc) {fr lo : Nat} (hf9 : 12 ≤ fr) (hg9 : 400 ≤ lo) (hf0 : f0 + 1 ≤ fr) (hg0 : g0 + 21 ≤ lo) (hf1 : f1 + 1 ≤ fr) (hg1 : g1 + 21 ≤ lo) (hf2 : f2 + 1 ≤ fr) (hg2 : g2 + 23 ≤ lo) : prP G l bm bp b0 bn ba vL nl tk tok yX9_isSingle mX9_isSingle fr lo d (sngW tk d q1 qt qc) := by
  intro A n M P k m htv hM hN hm hmk hk
  refine J_C hst (by decide +kernel) rfl rfl rfl (Nat.le_of_ble_eq_true rfl) ?_
  show xx_J _ _ _ _ _ _ _ _ 0 [(0, _), (1, _)] [] _ _ _ _
  refine J_aload_n dX9_isSingle_0 rfl rfl ?_
  refine J_getf dX9_isSingle_1 fl_X9_24 (hM.at 0 rfl) rfl ?_
  refine J_aload_n dX9_isSingle_4 rfl rfl ?_
  refine J_getf dX9_isSingle_5 fl_X9_305 (hM.at 0 rfl) rfl ?_
  refine J_ialdN k dX9_isSingle_8 (hM.at 2 rfl) rfl (by omega) (by decide) ?_
  refine J_bipush (v := 15) dX9_isSingle_9 (by decide) ?_
  refine J_icmp_ne (tgt := 53) dX9_isSingle_11 rfl (fun h11 => ?_) (fun h11 => ?_)
  · have th11 : ¬ tk k = 15 := fun z => h11 ((htv.eq hk (v := 15) (by decide)).mpr z)
    refine J_aload_n dX9_isSingle_53 rfl rfl ?_
    refine J_getf dX9_isSingle_54 fl_X9_24 (hM.at 0 rfl) rfl ?_
    refine J_aload_n dX9_isSingle_57 rfl rfl ?_
    refine J_getf dX9_isSingle_58 fl_X9_305 (hM.at 0 rfl) rfl ?_
    refine J_ialdN k dX9_isSingle_61 (hM.at 2 rfl) rfl (by omega) (by decide) ?_
    refine J_bipush (v := 91) dX9_isSingle_62 (by decide) ?_
    refine J_icmp_ne (tgt := 99) dX9_isSingle_64 rfl (fun h64 => ?_) (fun h64 => ?_)
    · have th64 : ¬ tk k = 22 := fun z => h64 ((htv.eq hk (v := 22) (by decide)).mpr z)
      refine J_aload_n dX9_isSingle_99 rfl rfl ?_
      refine J_getf dX9_isSingle_100 fl_X9_24 (hM.at 0 rfl) rfl ?_
      refine J_aload_n dX9_isSingle_103 rfl rfl ?_
      refine J_getf dX9_isSingle_104 fl_X9_305 (hM.at 0 rfl) rfl ?_
      refine J_ialdN k dX9_isSingle_107 (hM.at 2 rfl) rfl (by omega) (by decide) ?_
      refine J_bipush (v := 12) dX9_isSingle_108 (by decide) ?_
      refine J_icmp_eq (tgt := 119) dX9_isSingle_110 rfl (fun h110 => ?_) (fun h110 => ?_)
      · have th110 : tk k = 12 := (htv.eq hk (v := 12) (by decide)).mp h110
        refine J_aload_n dX9_isSingle_119 rfl rfl ?_
        refine J_aload_n dX9_isSingle_120 rfl rfl ?_
        refine J_bipush (v := 12) dX9_isSingle_121 (by decide) ?_
        refine J_iconst (v := 0) dX9_isSingle_123 (by decide) ?_
        refine J_callVw (As := [_, _, _]) dX9_isSingle_124 ml_X9_321 cal_X9_put im_X9_put se_X9_put (hM.at 0 rfl) rfl rfl rfl (Nat.le_of_ble_eq_true rfl) ⟨by omega, by show 8 + (4 + 11) + _ ≤ _; omega⟩ ⟨by decide, by decide⟩ (c_X9_put (k := m) hst hM hN _ _ hm (by omega)) (fun A1 hQ1 => ?_)
        have hN_1 := hQ1.1
        have hM_1 := layM_sP hM hQ1.2 hb48
        have hs_1 : xx_pf bm bp _ _ := hQ1.2.toP
        rw [put_em hm (by omega) (op := 5) (x := 0) (y := 12) (z := 0) rfl rfl] at hN_1
        have m1 := emP_10 [((5 : Int32), (0 : Int32))] _ hm
        refine J_aload_n dX9_isSingle_127 rfl rfl ?_
        refine J_bipush (v := 12) dX9_isSingle_128 (by decide) ?_
        refine J_callVw (As := [_]) dX9_isSingle_130 ml_X9_308 cal_X9_eat im_X9_eat se_X9_eat (hM_1.at 0 rfl) rfl rfl rfl (Nat.le_of_ble_eq_true rfl) ⟨by omega, by show 8 + (2 + 11) + _ ≤ _; omega⟩ ⟨by decide, by decide⟩ (c_X9_eat (v := 12) (k := k) hst hM_1 rfl (by decide) htv.pa rfl hk) (fun A2 hQ2 => ?_)
        have hM_2 := hQ2.1
        have hN_2 := hN_1.mf hQ2.2 (m := 9) rfl (fun i hi => by unfold isM; omega)
        have hs_2 : xx_pf bm bp _ _ := hQ2.2.toP
        refine J_ireturn dX9_isSingle_133 rfl nar_b (by decide) (by decide) ?_
        have e1 : (sngW tk d q1 qt qc k) = (true, k + 1, [(5, 0)]) := by unfold sngW; rw [if_neg th11, if_neg th64, if_pos th110]
        rw [e1]
        rw [eaM_pt th110] at hM_2
        exact ⟨by rw [xx_bt th110]; rfl, rfl, d, _, fun _ => ⟨rfl, rfl⟩, hM_2, hN_2, (((xx_pf.rf (bm := bm) (bp := bp)).trans hs_1).trans hs_2)⟩
      · have th110 : ¬ tk k = 12 := fun z => h110 ((htv.eq hk (v := 12) (by decide)).mpr z)
        refine J_aload_n dX9_isSingle_113 rfl rfl ?_
        refine J_aload_n dX9_isSingle_114 rfl rfl ?_
        refine J_callVw (As := [_]) dX9_isSingle_115 ml_X9_337 cal_X9_isCompare im_X9_isCompare se_X9_isCompare (hM.at 0 rfl) rfl rfl rfl (Nat.le_of_ble_eq_true rfl) ⟨by omega, by show 8 + (4 + 11) + _ ≤ _; omega⟩ ⟨by decide, by decide⟩ (hcm _ _ _ _ k m htv hM hN hm (by omega) hk) (fun A3 hQ3 => ?_)
        obtain ⟨d_3, P_3, hf_3, hM_3, hN_3, hs_3⟩ := hQ3
        refine J_ireturn dX9_isSingle_118 rfl nar_b (by decide) (by decide) ?_
        have e1 : (sngW tk d q1 qt qc k) = qc k := by unfold sngW; rw [if_neg th11, if_neg th64, if_neg th110]
        rw [e1]
        exact ⟨rfl, rfl, d_3, P_3, hf_3, hM_3, hN_3, ((xx_pf.rf (bm := bm) (bp := bp)).trans hs_3)⟩
    · have th64 : tk k = 22 := (htv.eq hk (v := 22) (by decide)).mp h64
      refine J_aload_n dX9_isSingle_67 rfl rfl ?_
      refine J_bipush (v := 91) dX9_isSingle_68 (by decide) ?_
      refine J_callVw (As := [_]) dX9_isSingle_70 ml_X9_328 cal_X9_deeper im_X9_deeper se_X9_deeper (hM.at 0 rfl) rfl rfl rfl (Nat.le_of_ble_eq_true rfl) ⟨by omega, by show 8 + (2 + 11) + _ ≤ _; omega⟩ ⟨by decide, by decide⟩ (c_X9_deeper (v := 22) (k := k) hst hM rfl (by decide) htv.pa rfl hk hd8 rfl) (fun A4 hQ4 => ?_)
      have hM_4 := hQ4.1
      have hN_4 := hN.mf hQ4.2 (m := 9) rfl (fun i hi => by unfold isM; omega)
      have hs_4 : xx_pf bm bp _ _ := hQ4.2.toP
      refine J_ifb_eq (tgt := 97) dX9_isSingle_73 rfl (fun h73 => ?_) (fun h73 => ?_)
      · rw [dpM_f h73] at hM_4
        have uh73 : ¬ d < 8 := fun z => h73 ⟨z, th64⟩
        refine J_iconst (v := 0) dX9_isSingle_97 (by decide) ?_
        refine J_ireturn dX9_isSingle_98 rfl rfl (by decide) (by decide) ?_
        have e1 : (sngW tk d q1 qt qc k) = (false, k, []) := by
          first
            | (simp [sngW, notW, parW, bnd, eat, dpt, emt, th11, th64, h73, uh73]; done)
            | (simp [sngW, notW, parW, bnd, eat, dpt, emt, th11, th64, h73, uh73]; exact Prod.ext (by simp_all) rfl)
        rw [e1]
        exact ⟨rfl, rfl, _, _, fun z => (Bool.false_ne_true z).elim, hM_4, hN_4, ((xx_pf.rf (bm := bm) (bp := bp)).trans hs_4)⟩
      · rw [dpM_pt h73] at hM_4
        have ah73 := h73.1
        have bh73 := h73.2
        have kh73 : k + 1 < tok := hnx _ hk (by rw [bh73]; decide) (by rw [bh73]; decide)
        refine J_aload_n dX9_isSingle_76 rfl rfl ?_
        refine J_aload_n dX9_isSingle_77 rfl rfl ?_
        refine J_callVw (As := [_]) dX9_isSingle_78 ml_X9_331 cal_X9_isTest im_X9_isTest se_X9_isTest (hM_4.at 0 rfl) rfl rfl rfl (Nat.le_of_ble_eq_true rfl) ⟨by omega, by show 8 + (2 + 11) + _ ≤ _; omega⟩ ⟨by decide, by decide⟩ ((ht (by omega)) _ _ _ _ (k + 1) m htv hM_4 hN_4 hm (by omega) kh73) (fun A5 hQ5 => ?_)
        obtain ⟨d_5, P_5, hf_5, hM_5, hN_5, hs_5⟩ := hQ5
        refine J_ifb_eq (tgt := 97) dX9_isSingle_81 rfl (fun h81 => ?_) (fun h81 => ?_)
        · refine J_iconst (v := 0) dX9_isSingle_97 (by decide) ?_
          refine J_ireturn dX9_isSingle_98 rfl rfl (by decide) (by decide) ?_
          have e1 : (sngW tk d q1 qt qc k) = (false, (qt (k + 1)).2.1, (qt (k + 1)).2.2) := by
            first
              | (simp [sngW, notW, parW, bnd, eat, dpt, emt, th11, th64, ah73, bh73, h81]; done)
              | (simp [sngW, notW, parW, bnd, eat, dpt, emt, th11, th64, ah73, bh73, h81]; exact Prod.ext (by simp_all) rfl)
          rw [e1]
          exact ⟨rfl, rfl, _, _, fun z => (Bool.false_ne_true z).elim, hM_5, hN_5, (((xx_pf.rf (bm := bm) (bp := bp)).trans hs_4).trans hs_5)⟩
        · obtain ⟨hd_5, rfl⟩ := hf_5 h81
          rw [hd_5] at hM_5
          have g5 := okt (k + 1) kh73
          have m5 := emP_10 (qt (k + 1)).2.2 _ hm
          refine J_aload_n dX9_isSingle_84 rfl rfl ?_
          refine J_bipush (v := 93) dX9_isSingle_85 (by decide) ?_
          refine J_callVw (As := [_]) dX9_isSingle_87 ml_X9_334 cal_X9_closes im_X9_closes se_X9_closes (hM_5.at 0 rfl) rfl rfl rfl (Nat.le_of_ble_eq_true rfl) ⟨by omega, by show 8 + (2 + 11) + _ ≤ _; omega⟩ ⟨by decide, by decide⟩ (c_X9_closes (v := 23) (k := (qt (k + 1)).2.1) hst hM_5 rfl (by decide) htv.pa rfl g5.2.1) (fun A6 hQ6 => ?_)
          have hM_6 := hQ6.1
          have hN_6 := hN_5.mf hQ6.2 (m := 9) rfl (fun i hi => by unfold isM; omega)
          have hs_6 : xx_pf bm bp _ _ := hQ6.2.toP
          refine J_ifb_eq (tgt := 97) dX9_isSingle_90 rfl (fun h90 => ?_) (fun h90 => ?_)
          · rw [clM_f h90] at hM_6
            refine J_iconst (v := 0) dX9_isSingle_97 (by decide) ?_
            refine J_ireturn dX9_isSingle_98 rfl rfl (by decide) (by decide) ?_
            have e1 : (sngW tk d q1 qt qc k) = (false, (qt (k + 1)).2.1, (qt (k + 1)).2.2) := by
              first
                | (simp [sngW, notW, parW, bnd, eat, dpt, emt, th11, th64, ah73, bh73, h81, h90]; done)
                | (simp [sngW, notW, parW, bnd, eat, dpt, emt, th11, th64, ah73, bh73, h81, h90]; exact Prod.ext (by simp_all) rfl)
            rw [e1]
            exact ⟨rfl, rfl, _, _, fun z => (Bool.false_ne_true z).elim, hM_6, hN_6, ((((xx_pf.rf (bm := bm) (bp := bp)).trans hs_4).trans hs_5).trans hs_6)⟩
          · rw [clM_pt h90] at hM_6
            have kh90 : (qt (k + 1)).2.1 + 1 < tok := hnx _ g5.2.1 (by rw [h90]; decide) (by rw [h90]; decide)
            refine J_iconst (v := 1) dX9_isSingle_93 (by decide) ?_
            refine J_goto (tgt := 98) dX9_isSingle_94 rfl ?_
            refine J_ireturn dX9_isSingle_98 rfl rfl (by decide) (by decide) ?_
            have e1 : (sngW tk d q1 qt qc k) = (true, ((qt (k + 1)).2.1 + 1), (qt (k + 1)).2.2) := by
              first
                | (simp [sngW, notW, parW, bnd, eat, dpt, emt, th11, th64, ah73, bh73, h81, h90]; done)
                | (simp [sngW, notW, parW, bnd, eat, dpt, emt, th11, th64, ah73, bh73, h81, h90]; exact Prod.ext (by simp_all) rfl)
            rw [e1]
            exact ⟨rfl, rfl, d, _, fun _ => ⟨rfl, by simp only [emP_app]⟩, hM_6, hN_6, ((((xx_pf.rf (bm := bm) (bp := bp)).trans hs_4).trans hs_5).trans hs_6)⟩
  · have th11 : tk k = 15 := (htv.eq hk (v := 15) (by decide)).mp h11
    refine J_aload_n dX9_isSingle_14 rfl rfl ?_
    refine J_bipush (v := 15) dX9_isSingle_15 (by decide) ?_
    refine J_callVw (As := [_]) dX9_isSingle_17 ml_X9_328 cal_X9_deeper im_X9_deeper se_X9_deeper (hM.at 0 rfl) rfl rfl rfl (Nat.le_of_ble_eq_true rfl) ⟨by omega, by show 8 + (2 + 11) + _ ≤ _; omega⟩ ⟨by decide, by decide⟩ (c_X9_deeper (v := 15) (k := k) hst hM rfl (by decide) htv.pa rfl hk hd8 rfl) (fun A7 hQ7 => ?_)
    have hM_7 := hQ7.1
    have hN_7 := hN.mf hQ7.2 (m := 9) rfl (fun i hi => by unfold isM; omega)
    have hs_7 : xx_pf bm bp _ _ := hQ7.2.toP
    refine J_ifb_eq (tgt := 31) dX9_isSingle_20 rfl (fun h20 => ?_) (fun h20 => ?_)
    · rw [dpM_f h20] at hM_7
      have uh20 : ¬ d < 8 := fun z => h20 ⟨z, th11⟩
      refine J_iconst (v := 0) dX9_isSingle_31 (by decide) ?_
      refine J_ireturn dX9_isSingle_32 rfl rfl (by decide) (by decide) ?_
      have e1 : (sngW tk d q1 qt qc k) = (false, k, []) := by
        first
          | (simp [sngW, notW, parW, bnd, eat, dpt, emt, th11, h20, uh20]; done)
          | (simp [sngW, notW, parW, bnd, eat, dpt, emt, th11, h20, uh20]; exact Prod.ext (by simp_all) rfl)
      rw [e1]
      exact ⟨rfl, rfl, _, _, fun z => (Bool.false_ne_true z).elim, hM_7, hN_7, ((xx_pf.rf (bm := bm) (bp := bp)).trans hs_7)⟩
    · rw [dpM_pt h20] at hM_7
      have ah20 := h20.1
      have bh20 := h20.2
      have kh20 : k + 1 < tok := hnx _ hk (by rw [bh20]; decide) (by rw [bh20]; decide)
      refine J_aload_n dX9_isSingle_23 rfl rfl ?_
      refine J_aload_n dX9_isSingle_24 rfl rfl ?_
      refine J_callVw (As := [_]) dX9_isSingle_25 ml_X9_325 cal_X9_isSingle im_X9_isSingle se_X9_isSingle (hM_7.at 0 rfl) rfl rfl rfl (Nat.le_of_ble_eq_true rfl) ⟨by omega, by show 8 + (2 + 11) + _ ≤ _; omega⟩ ⟨by decide, by decide⟩ ((h1 (by omega)) _ _ _ _ (k + 1) m htv hM_7 hN_7 hm (by omega) kh20) (fun A8 hQ8 => ?_)
      obtain ⟨d_8, P_8, hf_8, hM_8, hN_8, hs_8⟩ := hQ8
      refine J_ifb_ne (tgt := 33) dX9_isSingle_28 rfl (fun h28 => ?_) (fun h28 => ?_)
      · obtain ⟨hd_8, rfl⟩ := hf_8 h28
        rw [hd_8] at hM_8
        have g8 := ok1 (k + 1) kh20
        have m8 := emP_10 (q1 (k + 1)).2.2 _ hm
        refine J_aload_n dX9_isSingle_33 rfl rfl ?_
        refine J_dup dX9_isSingle_34 rfl ?_
        refine J_getf dX9_isSingle_35 fl_X9_311 (hM_8.at 0 rfl) rfl ?_
        refine J_iconst (v := 1) dX9_isSingle_38 (by decide) ?_
        refine J_isub dX9_isSingle_39 ?_
        refine J_putf dX9_isSingle_40 fp_X9_311 (fun _ => ⟨rfl, rfl⟩) (hM_8.at 0 rfl) (Nat.le_of_ble_eq_true rfl) ?_
        refine J_genA (wM_s0_10 hM_8 _) ((((xx_pf.rf (bm := bm) (bp := bp)).trans hs_7).trans hs_8).put (by omega) (by omega) _) (fun A9 w9 s9 o9 => ?_)
        have w9N := hN_8.o2 o9 (m := 9) rfl (by omega)
        have u9 := w9
        rw [pd_up (M := M) (k := (q1 (k + 1)).2.1) (d := (d + 1)) (d2 := d) (x := (paM M (q1 (k + 1)).2.1 (d + 1)).1 10 - 1) (by show nI (d + 1) - 1 = nI d; rw [show (1 : Int32) = nI 1 from rfl, pk_sub (by omega), Nat.add_sub_cancel])] at u9
        refine J_aload_n dX9_isSingle_43 rfl rfl ?_
        refine J_aload_n dX9_isSingle_44 rfl rfl ?_
        refine J_bipush (v := 15) dX9_isSingle_45 (by decide) ?_
        refine J_iconst (v := 0) dX9_isSingle_47 (by decide) ?_
        refine J_callVw (As := [_, _, _]) dX9_isSingle_48 ml_X9_321 cal_X9_put im_X9_put se_X9_put (u9.at 0 rfl) rfl rfl rfl (Nat.le_of_ble_eq_true rfl) ⟨by omega, by show 8 + (4 + 11) + _ ≤ _; omega⟩ ⟨by decide, by decide⟩ (c_X9_put (k := (m + (q1 (k + 1)).2.2.length)) hst u9 w9N _ _ m8 (by omega)) (fun A10 hQ10 => ?_)
        have hN_10 := hQ10.1
        have hM_10 := layM_sP u9 hQ10.2 hb48
        have hs_10 : xx_pf bm bp _ _ := hQ10.2.toP
        rw [put_em m8 (by omega) (op := 7) (x := 0) (y := 15) (z := 0) rfl rfl] at hN_10
        have m10 := emP_10 [((7 : Int32), (0 : Int32))] _ m8
        refine J_iconst (v := 1) dX9_isSingle_51 (by decide) ?_
        refine J_ireturn dX9_isSingle_52 rfl rfl (by decide) (by decide) ?_
        have e1 : (sngW tk d q1 qt qc k) = (true, (q1 (k + 1)).2.1, (q1 (k + 1)).2.2 ++ [((7 : Int32), (0 : Int32))]) := by
          first
            | (simp [sngW, notW, parW, bnd, eat, dpt, emt, th11, ah20, bh20, h28]; done)
            | (simp [sngW, notW, parW, bnd, eat, dpt, emt, th11, ah20, bh20, h28]; exact Prod.ext (by simp_all) rfl)
        rw [e1]
        exact ⟨rfl, rfl, d, _, fun _ => ⟨rfl, by simp only [emP_app]⟩, hM_10, hN_10, (s9.trans hs_10)⟩
      · refine J_iconst (v := 0) dX9_isSingle_31 (by decide) ?_
        refine J_ireturn dX9_isSingle_32 rfl rfl (by decide) (by decide) ?_
        have e1 : (sngW tk d q1 qt qc k) = (false, (q1 (k + 1)).2.1, (q1 (k + 1)).2.2) := by
          first
            | (simp [sngW, notW, parW, bnd, eat, dpt, emt, th11, ah20, bh20, h28]; done)
            | (simp [sngW, notW, parW, bnd, eat, dpt, emt, th11, ah20, bh20, h28]; exact Prod.ext (by simp_all) rfl)
        rw [e1]
        exact ⟨rfl, rfl, _, _, fun z => (Bool.false_ne_true z).elim, hM_8, hN_8, (((xx_pf.rf (bm := bm) (bp := bp)).trans hs_7).trans hs_8)⟩
theorem sdd_k : ∀ t, t < 39 → (sdd (nI (kdR t)) ↔ ¬ cntT t = 10) := by decide +kernel
set_option maxHeartbeats 2000000 in
theorem c_X9_isValue (hst : l.stackTraces = false) (hb48 : bm + 48 ≤ bp) (h401 : tok ≤ 401) (hnx : nxt tk tok) (hd8 : d ≤ 8) {b0 : Nat} {num : Nat → Int32} (hval : ∀ q, q < tok → tk q = 36 → vL q = (num q).toInt64) {pv ps : Nat → Res} {f0 g0 f1 g1 : Nat} (hpv : d < 8 → prP G l bm bp b0 bn ba vL nl tk tok yX9_isValue mX9_isValue f0 g0 (d + 1) pv) (okv : pOK tok pv) (hs : d < 8 → prP G l bm bp b0 bn ba vL nl tk tok yX9_isSum mX9_isSum f1 g1 (d + 1) ps) (oks : pOK tok ps) {fr lo : Nat} (hf9 : 14 ≤ fr) (hg9 : 500 ≤ lo) (hf0 : f0 + 1 ≤ fr) (hg0 : g0 + 22 ≤ lo) (hf1 : f1 + 2 ≤ fr) (hg1 : g1 + 44 ≤ lo) : prP G l bm bp b0 bn ba vL nl tk tok yX9_isValue mX9_isValue fr lo d (valW tk num d pv ps) := by
  intro A n M P k m htv hM hN hm hmk hk
  refine J_C hst (by decide +kernel) rfl rfl rfl (Nat.le_of_ble_eq_true rfl) ?_
  show xx_J _ _ _ _ _ _ _ _ 0 [(0, _), (1, _)] [] _ _ _ _
  refine J_aload_n dX9_isValue_0 rfl rfl ?_
  refine J_getf dX9_isValue_1 fl_X9_24 (hM.at 0 rfl) rfl ?_
  refine J_aload_n dX9_isValue_4 rfl rfl ?_
  refine J_getf dX9_isValue_5 fl_X9_305 (hM.at 0 rfl) rfl ?_
  refine J_ialdN k dX9_isValue_8 (hM.at 2 rfl) rfl (by omega) (by decide) ?_
  refine J_istore_n (L' := [(2, _), (0, _), (1, _)]) dX9_isValue_9 rfl (by decide) rfl ?_
  refine J_iload_n dX9_isValue_10 rfl rfl ?_
  refine J_bipush (v := 45) dX9_isValue_11 (by decide) ?_
  refine J_icmp_ne (tgt := 55) dX9_isValue_13 rfl (fun h13 => ?_) (fun h13 => ?_)
  · have th13 : ¬ tk k = 27 := fun z => h13 ((htv.eq hk (v := 27) (by decide)).mpr z)
    refine J_iload_n dX9_isValue_55 rfl rfl ?_
    refine J_bipush (v := 40) dX9_isValue_56 (by decide) ?_
    refine J_icmp_ne (tgt := 93) dX9_isValue_58 rfl (fun h58 => ?_) (fun h58 => ?_)
    · have th58 : ¬ tk k = 20 := fun z => h58 ((htv.eq hk (v := 20) (by decide)).mpr z)
      refine J_iload_n dX9_isValue_93 rfl rfl ?_
      refine J_bipush (v := 18) dX9_isValue_94 (by decide) ?_
      refine J_icmp_eq (tgt := 105) dX9_isValue_96 rfl (fun h96 => ?_) (fun h96 => ?_)
      · have th96 : tk k = 18 := (htv.eq hk (v := 18) (by decide)).mp h96
        have hq18 : tk k = 18 ∨ tk k = 19 := by
          first
            | exact Or.inl th96
            | exact Or.inr th102
        refine J_aload_n dX9_isValue_105 rfl rfl ?_
        refine J_aload_n dX9_isValue_106 rfl rfl ?_
        refine J_iload_n dX9_isValue_107 rfl rfl ?_
        refine J_callVw (As := [_, _]) dX9_isValue_108 ml_X9_349 cal_X9_isOfTwo im_X9_isOfTwo se_X9_isOfTwo (hM.at 0 rfl) rfl rfl rfl (Nat.le_of_ble_eq_true rfl) ⟨by omega, by show 8 + (3 + 11) + _ ≤ _; omega⟩ ⟨by decide, by decide⟩ (c_X9_isOfTwo hst hb48 h401 hnx hd8 hs oks (fr := fr - 1) (lo := lo - 22) (by omega) (by omega) (by omega) (by omega) htv hM hN hm hmk hk hq18 (htv.2 k hk).1) (fun A1 hQ1 => ?_)
        obtain ⟨d_1, P_1, hf_1, hM_1, hN_1, hs_1⟩ := hQ1
        refine J_ireturn dX9_isValue_111 rfl nar_b (by decide) (by decide) ?_
        have e1 : (valW tk num d pv ps k) = choW tk d ps k := by unfold valW; rw [if_neg (by omega), if_neg (by omega), if_neg th13, if_neg th58, if_pos hq18]
        rw [e1]
        exact ⟨rfl, rfl, d_1, P_1, hf_1, hM_1, hN_1, ((xx_pf.rf (bm := bm) (bp := bp)).trans hs_1)⟩
      · have th96 : ¬ tk k = 18 := fun z => h96 ((htv.eq hk (v := 18) (by decide)).mpr z)
        refine J_iload_n dX9_isValue_99 rfl rfl ?_
        refine J_bipush (v := 19) dX9_isValue_100 (by decide) ?_
        refine J_icmp_ne (tgt := 112) dX9_isValue_102 rfl (fun h102 => ?_) (fun h102 => ?_)
        · have th102 : ¬ tk k = 19 := fun z => h102 ((htv.eq hk (v := 19) (by decide)).mpr z)
          refine J_iload_n dX9_isValue_112 rfl rfl ?_
          refine J_callSr (As := [_]) dX9_isValue_113 ml_X9_220 cal_X9_isSided sm_X9_isSided rfl rfl (Nat.le_of_ble_eq_true rfl) ⟨by omega, by show 8 + (1 + 11) + _ ≤ _; omega⟩ ⟨by decide, by decide⟩ (c_X9_isSided hst _) ?_
          refine J_ifb_eq (tgt := 126) dX9_isValue_116 rfl (fun h116 => ?_) (fun h116 => ?_)
          · have h10 : cntT (tk k) = 10 := by
              by_cases c : cntT (tk k) = 10
              · exact c
              · exact absurd (by have z := (sdd_k _ (htv.2 k hk).2).mpr c; rw [← (htv.2 k hk).1] at z; exact z) h116
            refine J_iload_n dX9_isValue_126 rfl rfl ?_
            refine J_bipush (v := 31) dX9_isValue_127 (by decide) ?_
            refine J_icmp_ne (tgt := 149) dX9_isValue_129 rfl (fun h129 => ?_) (fun h129 => ?_)
            · have th129 : ¬ tk k = 36 := fun z => h129 ((htv.eq hk (v := 36) (by decide)).mpr z)
              refine J_iload_n dX9_isValue_149 rfl rfl ?_
              refine J_bipush (v := 10) dX9_isValue_150 (by decide) ?_
              refine J_icmp_ne (tgt := 163) dX9_isValue_152 rfl (fun h152 => ?_) (fun h152 => ?_)
              · have th152 : ¬ tk k = 10 := fun z => h152 ((htv.eq hk (v := 10) (by decide)).mpr z)
                refine J_iload_n dX9_isValue_163 rfl rfl ?_
                refine J_bipush (v := 31) dX9_isValue_164 (by decide) ?_
                refine J_icmp_eq (tgt := 177) dX9_isValue_166 rfl (fun h166 => ?_) (fun h166 => ?_)
                · exact absurd h166 h129
                · refine J_iload_n dX9_isValue_169 rfl rfl ?_
                  refine J_bipush (v := 10) dX9_isValue_170 (by decide) ?_
                  refine J_icmp_eq (tgt := 177) dX9_isValue_172 rfl (fun h172 => ?_) (fun h172 => ?_)
                  · exact absurd h172 h152
                  · refine J_iconst (v := 0) dX9_isValue_175 (by decide) ?_
                    refine J_ireturn dX9_isValue_176 rfl rfl (by decide) (by decide) ?_
                    have e1 : (valW tk num d pv ps k) = (false, k, []) := by
                      first
                        | (simp [valW, negW, parW, bnd, eat, dpt, emt, th13, th58, th96, th102, h10, th129, th152]; done)
                        | (simp [valW, negW, parW, bnd, eat, dpt, emt, th13, th58, th96, th102, h10, th129, th152]; exact Prod.ext (by simp_all) rfl)
                    rw [e1]
                    exact ⟨rfl, rfl, _, _, fun z => (Bool.false_ne_true z).elim, hM, hN, (xx_pf.rf (bm := bm) (bp := bp))⟩
              · have th152 : tk k = 10 := (htv.eq hk (v := 10) (by decide)).mp h152
                refine J_aload_n dX9_isValue_155 rfl rfl ?_
                refine J_aload_n dX9_isValue_156 rfl rfl ?_
                refine J_bipush (v := 10) dX9_isValue_157 (by decide) ?_
                refine J_iconst (v := 0) dX9_isValue_159 (by decide) ?_
                refine J_callVw (As := [_, _, _]) dX9_isValue_160 ml_X9_321 cal_X9_put im_X9_put se_X9_put (hM.at 0 rfl) rfl rfl rfl (Nat.le_of_ble_eq_true rfl) ⟨by omega, by show 8 + (4 + 11) + _ ≤ _; omega⟩ ⟨by decide, by decide⟩ (c_X9_put (k := m) hst hM hN _ _ hm (by omega)) (fun A2 hQ2 => ?_)
                have hN_2 := hQ2.1
                have hM_2 := layM_sP hM hQ2.2 hb48
                have hs_2 : xx_pf bm bp _ _ := hQ2.2.toP
                rw [put_em hm (by omega) (op := 2) (x := 0) (y := 10) (z := 0) rfl rfl] at hN_2
                have m2 := emP_10 [((2 : Int32), (0 : Int32))] _ hm
                refine J_iload_n dX9_isValue_163 rfl rfl ?_
                refine J_bipush (v := 31) dX9_isValue_164 (by decide) ?_
                refine J_icmp_eq (tgt := 177) dX9_isValue_166 rfl (fun h166 => ?_) (fun h166 => ?_)
                · exact absurd h166 h129
                · refine J_iload_n dX9_isValue_169 rfl rfl ?_
                  refine J_bipush (v := 10) dX9_isValue_170 (by decide) ?_
                  refine J_icmp_eq (tgt := 177) dX9_isValue_172 rfl (fun h172 => ?_) (fun h172 => ?_)
                  · refine J_aload_n dX9_isValue_177 rfl rfl ?_
                    refine J_dup dX9_isValue_178 rfl ?_
                    refine J_getf dX9_isValue_179 fl_X9_305 (hM_2.at 0 rfl) rfl ?_
                    refine J_iconst (v := 1) dX9_isValue_182 (by decide) ?_
                    refine J_iadd dX9_isValue_183 ?_
                    refine J_putf dX9_isValue_184 fp_X9_305 (fun _ => ⟨rfl, rfl⟩) (hM_2.at 0 rfl) (Nat.le_of_ble_eq_true rfl) ?_
                    refine J_genA (wM_s0_9 hM_2 _) (((xx_pf.rf (bm := bm) (bp := bp)).trans hs_2).put (by omega) (by omega) _) (fun A3 w3 s3 o3 => ?_)
                    have w3N := hN_2.o2 o3 (m := 9) rfl (by omega)
                    have u3 := w3
                    rw [pa_up (M := M) (k := k) (d := d) (k2 := k + 1) (x := (paM M k d).1 9 + 1) (nI_1 _)] at u3
                    have nx3 : ¬ tk k = 37 ∧ ¬ tk k = 38 := (by first | (rw [th129]; decide) | (rw [th152]; decide))
                    have hk3 : k + 1 < tok := hnx _ hk nx3.1 nx3.2
                    refine J_iconst (v := 1) dX9_isValue_187 (by decide) ?_
                    refine J_ireturn dX9_isValue_188 rfl rfl (by decide) (by decide) ?_
                    have e1 : (valW tk num d pv ps k) = (true, (k + 1), [((2 : Int32), (0 : Int32))]) := by
                      first
                        | (simp [valW, negW, parW, bnd, eat, dpt, emt, th13, th58, th96, th102, h10, th129, th152]; done)
                        | (simp [valW, negW, parW, bnd, eat, dpt, emt, th13, th58, th96, th102, h10, th129, th152]; exact Prod.ext (by simp_all) rfl)
                    rw [e1]
                    exact ⟨rfl, rfl, d, _, fun _ => ⟨rfl, by simp only [emP_app]⟩, u3, w3N, s3⟩
                  · exact absurd h152 h172
            · have th129 : tk k = 36 := (htv.eq hk (v := 36) (by decide)).mp h129
              refine J_aload_n dX9_isValue_132 rfl rfl ?_
              refine J_aload_n dX9_isValue_133 rfl rfl ?_
              refine J_bipush (v := 100) dX9_isValue_134 (by decide) ?_
              refine J_aload_n dX9_isValue_136 rfl rfl ?_
              refine J_getf dX9_isValue_137 fl_X9_33 (hM.at 0 rfl) rfl ?_
              refine J_aload_n dX9_isValue_140 rfl rfl ?_
              refine J_getf dX9_isValue_141 fl_X9_305 (hM.at 0 rfl) rfl ?_
              refine J_laldN k dX9_isValue_144 (hM.at 5 rfl) rfl (by omega) (by decide) ?_
              refine J_l2i dX9_isValue_145 rfl ?_
              refine J_callVw (As := [_, _, _]) dX9_isValue_146 ml_X9_321 cal_X9_put im_X9_put se_X9_put (hM.at 0 rfl) rfl rfl rfl (Nat.le_of_ble_eq_true rfl) ⟨by omega, by show 8 + (4 + 11) + _ ≤ _; omega⟩ ⟨by decide, by decide⟩ (c_X9_put (k := m) hst hM hN _ _ hm (by omega)) (fun A4 hQ4 => ?_)
              have hN_4 := hQ4.1
              have hM_4 := layM_sP hM hQ4.2 hb48
              have hs_4 : xx_pf bm bp _ _ := hQ4.2.toP
              rw [put_em hm (by omega) (op := 1) (x := (num k)) (y := 100) (z := (vL k).toInt32) rfl (by rw [hval k hk th129, Int32.toInt32_toInt64]; rfl)] at hN_4
              have m4 := emP_10 [((1 : Int32), ((num k) : Int32))] _ hm
              refine J_iload_n dX9_isValue_149 rfl rfl ?_
              refine J_bipush (v := 10) dX9_isValue_150 (by decide) ?_
              refine J_icmp_ne (tgt := 163) dX9_isValue_152 rfl (fun h152 => ?_) (fun h152 => ?_)
              · have th152 : ¬ tk k = 10 := fun z => h152 ((htv.eq hk (v := 10) (by decide)).mpr z)
                refine J_iload_n dX9_isValue_163 rfl rfl ?_
                refine J_bipush (v := 31) dX9_isValue_164 (by decide) ?_
                refine J_icmp_eq (tgt := 177) dX9_isValue_166 rfl (fun h166 => ?_) (fun h166 => ?_)
                · refine J_aload_n dX9_isValue_177 rfl rfl ?_
                  refine J_dup dX9_isValue_178 rfl ?_
                  refine J_getf dX9_isValue_179 fl_X9_305 (hM_4.at 0 rfl) rfl ?_
                  refine J_iconst (v := 1) dX9_isValue_182 (by decide) ?_
                  refine J_iadd dX9_isValue_183 ?_
                  refine J_putf dX9_isValue_184 fp_X9_305 (fun _ => ⟨rfl, rfl⟩) (hM_4.at 0 rfl) (Nat.le_of_ble_eq_true rfl) ?_
                  refine J_genA (wM_s0_9 hM_4 _) (((xx_pf.rf (bm := bm) (bp := bp)).trans hs_4).put (by omega) (by omega) _) (fun A5 w5 s5 o5 => ?_)
                  have w5N := hN_4.o2 o5 (m := 9) rfl (by omega)
                  have u5 := w5
                  rw [pa_up (M := M) (k := k) (d := d) (k2 := k + 1) (x := (paM M k d).1 9 + 1) (nI_1 _)] at u5
                  have nx5 : ¬ tk k = 37 ∧ ¬ tk k = 38 := (by first | (rw [th129]; decide) | (rw [th152]; decide))
                  have hk5 : k + 1 < tok := hnx _ hk nx5.1 nx5.2
                  refine J_iconst (v := 1) dX9_isValue_187 (by decide) ?_
                  refine J_ireturn dX9_isValue_188 rfl rfl (by decide) (by decide) ?_
                  have e1 : (valW tk num d pv ps k) = (true, (k + 1), [((1 : Int32), ((num k) : Int32))]) := by
                    first
                      | (simp [valW, negW, parW, bnd, eat, dpt, emt, th13, th58, th96, th102, h10, th129, th152]; done)
                      | (simp [valW, negW, parW, bnd, eat, dpt, emt, th13, th58, th96, th102, h10, th129, th152]; exact Prod.ext (by simp_all) rfl)
                  rw [e1]
                  exact ⟨rfl, rfl, d, _, fun _ => ⟨rfl, by simp only [emP_app]⟩, u5, w5N, s5⟩
                · exact absurd h129 h166
              · have th152 : tk k = 10 := (htv.eq hk (v := 10) (by decide)).mp h152
                exact absurd (h129.symm.trans h152) (by decide)
          · have h10 : ¬ cntT (tk k) = 10 := (sdd_k _ (htv.2 k hk).2).mp (by rw [← (htv.2 k hk).1]; exact h116)
            refine J_aload_n dX9_isValue_119 rfl rfl ?_
            refine J_aload_n dX9_isValue_120 rfl rfl ?_
            refine J_iload_n dX9_isValue_121 rfl rfl ?_
            refine J_callVw (As := [_, _]) dX9_isValue_122 ml_X9_353 cal_X9_isOfSide im_X9_isOfSide se_X9_isOfSide (hM.at 0 rfl) rfl rfl rfl (Nat.le_of_ble_eq_true rfl) ⟨by omega, by show 8 + (3 + 11) + _ ≤ _; omega⟩ ⟨by decide, by decide⟩ (c_X9_isOfSide hst hb48 h401 hnx htv hM hN hm hmk hk h10 (htv.2 k hk).1) (fun A6 hQ6 => ?_)
            obtain ⟨d_6, P_6, hf_6, hM_6, hN_6, hs_6⟩ := hQ6
            refine J_ireturn dX9_isValue_125 rfl nar_b (by decide) (by decide) ?_
            have e1 : (valW tk num d pv ps k) = sidW tk (cntT (tk k)) k := by unfold valW; rw [if_neg (fun z => h10 (by rw [z]; rfl)), if_neg (fun z => h10 (by rw [z]; rfl)), if_neg th13, if_neg th58, if_neg (fun z => z.elim th96 th102), if_neg h10]
            rw [e1]
            exact ⟨rfl, rfl, d_6, P_6, hf_6, hM_6, hN_6, ((xx_pf.rf (bm := bm) (bp := bp)).trans hs_6)⟩
        · have th102 : tk k = 19 := (htv.eq hk (v := 19) (by decide)).mp h102
          have hq18 : tk k = 18 ∨ tk k = 19 := by
            first
              | exact Or.inl th96
              | exact Or.inr th102
          refine J_aload_n dX9_isValue_105 rfl rfl ?_
          refine J_aload_n dX9_isValue_106 rfl rfl ?_
          refine J_iload_n dX9_isValue_107 rfl rfl ?_
          refine J_callVw (As := [_, _]) dX9_isValue_108 ml_X9_349 cal_X9_isOfTwo im_X9_isOfTwo se_X9_isOfTwo (hM.at 0 rfl) rfl rfl rfl (Nat.le_of_ble_eq_true rfl) ⟨by omega, by show 8 + (3 + 11) + _ ≤ _; omega⟩ ⟨by decide, by decide⟩ (c_X9_isOfTwo hst hb48 h401 hnx hd8 hs oks (fr := fr - 1) (lo := lo - 22) (by omega) (by omega) (by omega) (by omega) htv hM hN hm hmk hk hq18 (htv.2 k hk).1) (fun A7 hQ7 => ?_)
          obtain ⟨d_7, P_7, hf_7, hM_7, hN_7, hs_7⟩ := hQ7
          refine J_ireturn dX9_isValue_111 rfl nar_b (by decide) (by decide) ?_
          have e1 : (valW tk num d pv ps k) = choW tk d ps k := by unfold valW; rw [if_neg (by omega), if_neg (by omega), if_neg th13, if_neg th58, if_pos hq18]
          rw [e1]
          exact ⟨rfl, rfl, d_7, P_7, hf_7, hM_7, hN_7, ((xx_pf.rf (bm := bm) (bp := bp)).trans hs_7)⟩
    · have th58 : tk k = 20 := (htv.eq hk (v := 20) (by decide)).mp h58
      refine J_aload_n dX9_isValue_61 rfl rfl ?_
      refine J_bipush (v := 40) dX9_isValue_62 (by decide) ?_
      refine J_callVw (As := [_]) dX9_isValue_64 ml_X9_328 cal_X9_deeper im_X9_deeper se_X9_deeper (hM.at 0 rfl) rfl rfl rfl (Nat.le_of_ble_eq_true rfl) ⟨by omega, by show 8 + (2 + 11) + _ ≤ _; omega⟩ ⟨by decide, by decide⟩ (c_X9_deeper (v := 20) (k := k) hst hM rfl (by decide) htv.pa rfl hk hd8 rfl) (fun A8 hQ8 => ?_)
      have hM_8 := hQ8.1
      have hN_8 := hN.mf hQ8.2 (m := 9) rfl (fun i hi => by unfold isM; omega)
      have hs_8 : xx_pf bm bp _ _ := hQ8.2.toP
      refine J_ifb_eq (tgt := 91) dX9_isValue_67 rfl (fun h67 => ?_) (fun h67 => ?_)
      · rw [dpM_f h67] at hM_8
        have uh67 : ¬ d < 8 := fun z => h67 ⟨z, th58⟩
        refine J_iconst (v := 0) dX9_isValue_91 (by decide) ?_
        refine J_ireturn dX9_isValue_92 rfl rfl (by decide) (by decide) ?_
        have e1 : (valW tk num d pv ps k) = (false, k, []) := by
          first
            | (simp [valW, negW, parW, bnd, eat, dpt, emt, th13, th58, h67, uh67]; done)
            | (simp [valW, negW, parW, bnd, eat, dpt, emt, th13, th58, h67, uh67]; exact Prod.ext (by simp_all) rfl)
        rw [e1]
        exact ⟨rfl, rfl, _, _, fun z => (Bool.false_ne_true z).elim, hM_8, hN_8, ((xx_pf.rf (bm := bm) (bp := bp)).trans hs_8)⟩
      · rw [dpM_pt h67] at hM_8
        have ah67 := h67.1
        have bh67 := h67.2
        have kh67 : k + 1 < tok := hnx _ hk (by rw [bh67]; decide) (by rw [bh67]; decide)
        refine J_aload_n dX9_isValue_70 rfl rfl ?_
        refine J_aload_n dX9_isValue_71 rfl rfl ?_
        refine J_callVw (As := [_]) dX9_isValue_72 ml_X9_340 cal_X9_isSum im_X9_isSum se_X9_isSum (hM_8.at 0 rfl) rfl rfl rfl (Nat.le_of_ble_eq_true rfl) ⟨by omega, by show 8 + (3 + 11) + _ ≤ _; omega⟩ ⟨by decide, by decide⟩ ((hs (by omega)) _ _ _ _ (k + 1) m htv hM_8 hN_8 hm (by omega) kh67) (fun A9 hQ9 => ?_)
        obtain ⟨d_9, P_9, hf_9, hM_9, hN_9, hs_9⟩ := hQ9
        refine J_ifb_eq (tgt := 91) dX9_isValue_75 rfl (fun h75 => ?_) (fun h75 => ?_)
        · refine J_iconst (v := 0) dX9_isValue_91 (by decide) ?_
          refine J_ireturn dX9_isValue_92 rfl rfl (by decide) (by decide) ?_
          have e1 : (valW tk num d pv ps k) = (false, (ps (k + 1)).2.1, (ps (k + 1)).2.2) := by
            first
              | (simp [valW, negW, parW, bnd, eat, dpt, emt, th13, th58, ah67, bh67, h75]; done)
              | (simp [valW, negW, parW, bnd, eat, dpt, emt, th13, th58, ah67, bh67, h75]; exact Prod.ext (by simp_all) rfl)
          rw [e1]
          exact ⟨rfl, rfl, _, _, fun z => (Bool.false_ne_true z).elim, hM_9, hN_9, (((xx_pf.rf (bm := bm) (bp := bp)).trans hs_8).trans hs_9)⟩
        · obtain ⟨hd_9, rfl⟩ := hf_9 h75
          rw [hd_9] at hM_9
          have g9 := oks (k + 1) kh67
          have m9 := emP_10 (ps (k + 1)).2.2 _ hm
          refine J_aload_n dX9_isValue_78 rfl rfl ?_
          refine J_bipush (v := 41) dX9_isValue_79 (by decide) ?_
          refine J_callVw (As := [_]) dX9_isValue_81 ml_X9_334 cal_X9_closes im_X9_closes se_X9_closes (hM_9.at 0 rfl) rfl rfl rfl (Nat.le_of_ble_eq_true rfl) ⟨by omega, by show 8 + (2 + 11) + _ ≤ _; omega⟩ ⟨by decide, by decide⟩ (c_X9_closes (v := 21) (k := (ps (k + 1)).2.1) hst hM_9 rfl (by decide) htv.pa rfl g9.2.1) (fun A10 hQ10 => ?_)
          have hM_10 := hQ10.1
          have hN_10 := hN_9.mf hQ10.2 (m := 9) rfl (fun i hi => by unfold isM; omega)
          have hs_10 : xx_pf bm bp _ _ := hQ10.2.toP
          refine J_ifb_eq (tgt := 91) dX9_isValue_84 rfl (fun h84 => ?_) (fun h84 => ?_)
          · rw [clM_f h84] at hM_10
            refine J_iconst (v := 0) dX9_isValue_91 (by decide) ?_
            refine J_ireturn dX9_isValue_92 rfl rfl (by decide) (by decide) ?_
            have e1 : (valW tk num d pv ps k) = (false, (ps (k + 1)).2.1, (ps (k + 1)).2.2) := by
              first
                | (simp [valW, negW, parW, bnd, eat, dpt, emt, th13, th58, ah67, bh67, h75, h84]; done)
                | (simp [valW, negW, parW, bnd, eat, dpt, emt, th13, th58, ah67, bh67, h75, h84]; exact Prod.ext (by simp_all) rfl)
            rw [e1]
            exact ⟨rfl, rfl, _, _, fun z => (Bool.false_ne_true z).elim, hM_10, hN_10, ((((xx_pf.rf (bm := bm) (bp := bp)).trans hs_8).trans hs_9).trans hs_10)⟩
          · rw [clM_pt h84] at hM_10
            have kh84 : (ps (k + 1)).2.1 + 1 < tok := hnx _ g9.2.1 (by rw [h84]; decide) (by rw [h84]; decide)
            refine J_iconst (v := 1) dX9_isValue_87 (by decide) ?_
            refine J_goto (tgt := 92) dX9_isValue_88 rfl ?_
            refine J_ireturn dX9_isValue_92 rfl rfl (by decide) (by decide) ?_
            have e1 : (valW tk num d pv ps k) = (true, ((ps (k + 1)).2.1 + 1), (ps (k + 1)).2.2) := by
              first
                | (simp [valW, negW, parW, bnd, eat, dpt, emt, th13, th58, ah67, bh67, h75, h84]; done)
                | (simp [valW, negW, parW, bnd, eat, dpt, emt, th13, th58, ah67, bh67, h75, h84]; exact Prod.ext (by simp_all) rfl)
            rw [e1]
            exact ⟨rfl, rfl, d, _, fun _ => ⟨rfl, by simp only [emP_app]⟩, hM_10, hN_10, ((((xx_pf.rf (bm := bm) (bp := bp)).trans hs_8).trans hs_9).trans hs_10)⟩
  · have th13 : tk k = 27 := (htv.eq hk (v := 27) (by decide)).mp h13
    refine J_aload_n dX9_isValue_16 rfl rfl ?_
    refine J_bipush (v := 45) dX9_isValue_17 (by decide) ?_
    refine J_callVw (As := [_]) dX9_isValue_19 ml_X9_328 cal_X9_deeper im_X9_deeper se_X9_deeper (hM.at 0 rfl) rfl rfl rfl (Nat.le_of_ble_eq_true rfl) ⟨by omega, by show 8 + (2 + 11) + _ ≤ _; omega⟩ ⟨by decide, by decide⟩ (c_X9_deeper (v := 27) (k := k) hst hM rfl (by decide) htv.pa rfl hk hd8 rfl) (fun A11 hQ11 => ?_)
    have hM_11 := hQ11.1
    have hN_11 := hN.mf hQ11.2 (m := 9) rfl (fun i hi => by unfold isM; omega)
    have hs_11 : xx_pf bm bp _ _ := hQ11.2.toP
    refine J_ifb_eq (tgt := 33) dX9_isValue_22 rfl (fun h22 => ?_) (fun h22 => ?_)
    · rw [dpM_f h22] at hM_11
      have uh22 : ¬ d < 8 := fun z => h22 ⟨z, th13⟩
      refine J_iconst (v := 0) dX9_isValue_33 (by decide) ?_
      refine J_ireturn dX9_isValue_34 rfl rfl (by decide) (by decide) ?_
      have e1 : (valW tk num d pv ps k) = (false, k, []) := by
        first
          | (simp [valW, negW, parW, bnd, eat, dpt, emt, th13, h22, uh22]; done)
          | (simp [valW, negW, parW, bnd, eat, dpt, emt, th13, h22, uh22]; exact Prod.ext (by simp_all) rfl)
      rw [e1]
      exact ⟨rfl, rfl, _, _, fun z => (Bool.false_ne_true z).elim, hM_11, hN_11, ((xx_pf.rf (bm := bm) (bp := bp)).trans hs_11)⟩
    · rw [dpM_pt h22] at hM_11
      have ah22 := h22.1
      have bh22 := h22.2
      have kh22 : k + 1 < tok := hnx _ hk (by rw [bh22]; decide) (by rw [bh22]; decide)
      refine J_aload_n dX9_isValue_25 rfl rfl ?_
      refine J_aload_n dX9_isValue_26 rfl rfl ?_
      refine J_callVw (As := [_]) dX9_isValue_27 ml_X9_346 cal_X9_isValue im_X9_isValue se_X9_isValue (hM_11.at 0 rfl) rfl rfl rfl (Nat.le_of_ble_eq_true rfl) ⟨by omega, by show 8 + (3 + 11) + _ ≤ _; omega⟩ ⟨by decide, by decide⟩ ((hpv (by omega)) _ _ _ _ (k + 1) m htv hM_11 hN_11 hm (by omega) kh22) (fun A12 hQ12 => ?_)
      obtain ⟨d_12, P_12, hf_12, hM_12, hN_12, hs_12⟩ := hQ12
      refine J_ifb_ne (tgt := 35) dX9_isValue_30 rfl (fun h30 => ?_) (fun h30 => ?_)
      · obtain ⟨hd_12, rfl⟩ := hf_12 h30
        rw [hd_12] at hM_12
        have g12 := okv (k + 1) kh22
        have m12 := emP_10 (pv (k + 1)).2.2 _ hm
        refine J_aload_n dX9_isValue_35 rfl rfl ?_
        refine J_dup dX9_isValue_36 rfl ?_
        refine J_getf dX9_isValue_37 fl_X9_311 (hM_12.at 0 rfl) rfl ?_
        refine J_iconst (v := 1) dX9_isValue_40 (by decide) ?_
        refine J_isub dX9_isValue_41 ?_
        refine J_putf dX9_isValue_42 fp_X9_311 (fun _ => ⟨rfl, rfl⟩) (hM_12.at 0 rfl) (Nat.le_of_ble_eq_true rfl) ?_
        refine J_genA (wM_s0_10 hM_12 _) ((((xx_pf.rf (bm := bm) (bp := bp)).trans hs_11).trans hs_12).put (by omega) (by omega) _) (fun A13 w13 s13 o13 => ?_)
        have w13N := hN_12.o2 o13 (m := 9) rfl (by omega)
        have u13 := w13
        rw [pd_up (M := M) (k := (pv (k + 1)).2.1) (d := (d + 1)) (d2 := d) (x := (paM M (pv (k + 1)).2.1 (d + 1)).1 10 - 1) (by show nI (d + 1) - 1 = nI d; rw [show (1 : Int32) = nI 1 from rfl, pk_sub (by omega), Nat.add_sub_cancel])] at u13
        refine J_aload_n dX9_isValue_45 rfl rfl ?_
        refine J_aload_n dX9_isValue_46 rfl rfl ?_
        refine J_bipush (v := 105) dX9_isValue_47 (by decide) ?_
        refine J_iconst (v := 0) dX9_isValue_49 (by decide) ?_
        refine J_callVw (As := [_, _, _]) dX9_isValue_50 ml_X9_321 cal_X9_put im_X9_put se_X9_put (u13.at 0 rfl) rfl rfl rfl (Nat.le_of_ble_eq_true rfl) ⟨by omega, by show 8 + (4 + 11) + _ ≤ _; omega⟩ ⟨by decide, by decide⟩ (c_X9_put (k := (m + (pv (k + 1)).2.2.length)) hst u13 w13N _ _ m12 (by omega)) (fun A14 hQ14 => ?_)
        have hN_14 := hQ14.1
        have hM_14 := layM_sP u13 hQ14.2 hb48
        have hs_14 : xx_pf bm bp _ _ := hQ14.2.toP
        rw [put_em m12 (by omega) (op := 6) (x := 0) (y := 105) (z := 0) rfl rfl] at hN_14
        have m14 := emP_10 [((6 : Int32), (0 : Int32))] _ m12
        refine J_iconst (v := 1) dX9_isValue_53 (by decide) ?_
        refine J_ireturn dX9_isValue_54 rfl rfl (by decide) (by decide) ?_
        have e1 : (valW tk num d pv ps k) = (true, (pv (k + 1)).2.1, (pv (k + 1)).2.2 ++ [((6 : Int32), (0 : Int32))]) := by
          first
            | (simp [valW, negW, parW, bnd, eat, dpt, emt, th13, ah22, bh22, h30]; done)
            | (simp [valW, negW, parW, bnd, eat, dpt, emt, th13, ah22, bh22, h30]; exact Prod.ext (by simp_all) rfl)
        rw [e1]
        exact ⟨rfl, rfl, d, _, fun _ => ⟨rfl, by simp only [emP_app]⟩, hM_14, hN_14, (s13.trans hs_14)⟩
      · refine J_iconst (v := 0) dX9_isValue_33 (by decide) ?_
        refine J_ireturn dX9_isValue_34 rfl rfl (by decide) (by decide) ?_
        have e1 : (valW tk num d pv ps k) = (false, (pv (k + 1)).2.1, (pv (k + 1)).2.2) := by
          first
            | (simp [valW, negW, parW, bnd, eat, dpt, emt, th13, ah22, bh22, h30]; done)
            | (simp [valW, negW, parW, bnd, eat, dpt, emt, th13, ah22, bh22, h30]; exact Prod.ext (by simp_all) rfl)
        rw [e1]
        exact ⟨rfl, rfl, _, _, fun z => (Bool.false_ne_true z).elim, hM_12, hN_12, (((xx_pf.rf (bm := bm) (bp := bp)).trans hs_11).trans hs_12)⟩
/-- isValue and isSum at height h -/
theorem c_qV (hst : l.stackTraces = false) (hb48 : bm + 48 ≤ bp) (h401 : tok ≤ 401) (hnx : nxt tk tok) {b0 : Nat} {num : Nat → Int32} (hval : ∀ q, q < tok → tk q = 36 → vL q = (num q).toInt64) : ∀ h, h ≤ 8 → prP G l bm bp b0 bn ba vL nl tk tok yX9_isValue mX9_isValue (4 * h + 16) (140 * h + 600) (8 - h) (pV tk num h) := by
  intro h
  induction h with
  | zero => intro _; exact c_X9_isValue (f0 := 8) (g0 := 100) (f1 := 8) (g1 := 100) hst hb48 h401 hnx (d := 8) (Nat.le_refl _) hval (fun h => absurd h (by omega)) ok_fail (fun h => absurd h (by omega)) ok_fail (by omega) (by omega) (by omega) (by omega) (by omega) (by omega)
  | succ h ih =>
    intro h8
    have hv := ih (by omega)
    have okv := ok_pV (num := num) hnx h
    have hp := c_X9_isProduct hst hb48 h401 hnx (d := 8 - h) hv okv (fr := 4 * h + 17) (lo := 140 * h + 622) (by omega) (by omega) (by omega) (by omega)
    have okp := ok_ch hnx (fun _ => opP_n) okv
    have hs := c_X9_isSum hst hb48 h401 hnx (d := 8 - h) hp okp (fr := 4 * h + 18) (lo := 140 * h + 644) (by omega) (by omega) (by omega) (by omega)
    have e : 8 - h = (8 - (h + 1)) + 1 := by omega
    rw [e] at hv hs
    exact c_X9_isValue hst hb48 h401 hnx (d := 8 - (h + 1)) (by omega) hval (fun _ => hv) okv (fun _ => hs) (ok_sum hnx okv) (by omega) (by omega) (by omega) (by omega) (by omega) (by omega)
theorem c_qS (hst : l.stackTraces = false) (hb48 : bm + 48 ≤ bp) (h401 : tok ≤ 401) (hnx : nxt tk tok) {b0 : Nat} {num : Nat → Int32} (hval : ∀ q, q < tok → tk q = 36 → vL q = (num q).toInt64) {h : Nat} (h8 : h ≤ 8) : prP G l bm bp b0 bn ba vL nl tk tok yX9_isSum mX9_isSum (4 * h + 18) (140 * h + 644) (8 - h) (sumW tk (pV tk num h)) := by
  have okv := ok_pV (num := num) hnx h
  have hp := c_X9_isProduct hst hb48 h401 hnx (d := 8 - h) (c_qV (G := G) (l := l) (bn := bn) (ba := ba) (nl := nl) (b0 := b0) hst hb48 h401 hnx hval h h8) okv (fr := 4 * h + 17) (lo := 140 * h + 622) (by omega) (by omega) (by omega) (by omega)
  exact c_X9_isSum hst hb48 h401 hnx (d := 8 - h) hp (ok_ch hnx (fun _ => opP_n) okv) (by omega) (by omega) (by omega) (by omega)
theorem c_qC (hst : l.stackTraces = false) (hb48 : bm + 48 ≤ bp) (h401 : tok ≤ 401) (hnx : nxt tk tok) {b0 : Nat} {num : Nat → Int32} (hval : ∀ q, q < tok → tk q = 36 → vL q = (num q).toInt64) {h : Nat} (h8 : h ≤ 8) : prP G l bm bp b0 bn ba vL nl tk tok yX9_isCompare mX9_isCompare (4 * h + 19) (140 * h + 666) (8 - h) (cmpW tk (sumW tk (pV tk num h))) :=
  c_X9_isCompare hst hb48 h401 hnx (d := 8 - h) (c_qS hst hb48 h401 hnx hval h8) (ok_sum hnx (ok_pV hnx h)) (by omega) (by omega) (by omega) (by omega)
theorem c_q1 (hst : l.stackTraces = false) (hb48 : bm + 48 ≤ bp) (h401 : tok ≤ 401) (hnx : nxt tk tok) {b0 : Nat} {num : Nat → Int32} (hval : ∀ q, q < tok → tk q = 36 → vL q = (num q).toInt64) : ∀ h, h ≤ 8 → prP G l bm bp b0 bn ba vL nl tk tok yX9_isSingle mX9_isSingle (4 * h + 20) (140 * h + 689) (8 - h) (p1 tk num h) := by
  intro h
  induction h with
  | zero => intro h8; exact c_X9_isSingle (f0 := 8) (g0 := 100) (f1 := 8) (g1 := 100) hst hb48 h401 hnx (d := 8) (Nat.le_refl _) (fun h => absurd h (by omega)) ok_fail (fun h => absurd h (by omega)) ok_fail (c_qC hst hb48 h401 hnx hval h8) (by omega) (by omega) (by omega) (by omega) (by omega) (by omega) (by omega) (by omega)
  | succ h ih =>
    intro h8
    have h1 := ih (by omega)
    have ok1 := ok_p1 (num := num) hnx h
    have hb := c_X9_isBoth hst hb48 h401 hnx (d := 8 - h) h1 ok1 (fr := 4 * h + 21) (lo := 140 * h + 710) (by omega) (by omega) (by omega) (by omega)
    have okb := ok_ch hnx (fun _ => opA_n) ok1
    have ht := c_X9_isTest hst hb48 h401 hnx (d := 8 - h) hb okb (fr := 4 * h + 22) (lo := 140 * h + 731) (by omega) (by omega) (by omega) (by omega)
    have hcm := c_qC (G := G) (l := l) (bn := bn) (ba := ba) (nl := nl) (b0 := b0) hst hb48 h401 hnx hval (h := h + 1) (by omega)
    have e : 8 - h = (8 - (h + 1)) + 1 := by omega
    rw [e] at h1 ht
    exact c_X9_isSingle hst hb48 h401 hnx (d := 8 - (h + 1)) (by omega) (fun _ => h1) ok1 (fun _ => ht) (ok_tst hnx ok1) hcm (by omega) (by omega) (by omega) (by omega) (by omega) (by omega) (by omega) (by omega)
/-- a whole test -/
theorem c_X9_isTest0 (hst : l.stackTraces = false) (hb48 : bm + 48 ≤ bp) (h401 : tok ≤ 401) (hnx : nxt tk tok) {b0 : Nat} {num : Nat → Int32} (hval : ∀ q, q < tok → tk q = 36 → vL q = (num q).toInt64) : prP G l bm bp b0 bn ba vL nl tk tok yX9_isTest mX9_isTest 54 1851 0 (pT tk num) := by
  have ok1 := ok_p1 (num := num) hnx 8
  have hb := c_X9_isBoth hst hb48 h401 hnx (d := 0) (c_q1 (G := G) (l := l) (bn := bn) (ba := ba) (nl := nl) (b0 := b0) hst hb48 h401 hnx hval 8 (Nat.le_refl _)) ok1 (fr := 53) (lo := 1830) (by omega) (by omega) (by omega) (by omega)
  exact c_X9_isTest hst hb48 h401 hnx (d := 0) hb (ok_ch hnx (fun _ => opA_n) ok1) (by omega) (by omega) (by omega) (by omega)
end XSG
