/-! THE REFERENCE: isOfTwo, isSingle, isValue -/
section XSG
variable {G : xx_G} {l : Launch} {A A' : xx_H} {n : Nat} {bm bp bs bn ba : Nat} {vL nl : Nat → Int64} {M M' M1 P S : xS} {T : xS} {len i j k q s e t d nt tok v m : Nat} {tk : Nat → Nat}
theorem dpM_f {c : Prop} [Decidable c] (h : ¬ c) : dpM M c = M := if_neg h
theorem clM_f {c : Prop} [Decidable c] (h : ¬ c) : clM M c = M := if_neg h
set_option maxHeartbeats 2000000 in
theorem c_X9_isOfTwo (hst : l.stackTraces = false) (hb48 : bm + 48 ≤ bp) (h401 : tok ≤ 401) (hnx : nxt tk tok) (hd8 : d ≤ 8) {b0 : Nat} {ps : Nat → Res} {f0 g0 : Nat} (hs : d < 8 → prP G l bm bp b0 bn ba vL nl tk tok yX9_isSum mX9_isSum f0 g0 (d + 1) ps) (oks : pOK tok ps) {fr lo : Nat} (hf9 : 12 ≤ fr) (hg9 : 400 ≤ lo) (hf0 : f0 + 1 ≤ fr) (hg0 : g0 + 22 ≤ lo) (htv : tkV tk tok M) (hM : xx_w bm (layM b0 vL bn ba bm (paM M k d)) A) (hN : xx_w bp (layN nl bp P) A) (hm : P.1 10 = nI m) (hmk : m ≤ k) (hk : k < tok) (h18 : tk k = 18 ∨ tk k = 19) {x : Int32} (hx : x = nI (kdR (tk k))) : xx_C G l yX9_isOfTwo mX9_isOfTwo fr lo 0 0 [.ref bm, .ref bp, .int x] A n (prQ bm bp b0 bn ba n vL nl M P d (choW tk d ps k) A) := by
  have hyy : trO (if tk k = 18 then 12 else 13) 0 = x := by
    rw [hx]
    rcases h18 with z | z <;> (rw [z]; rfl)
  have hzz : trW (if tk k = 18 then 12 else 13) 0 = 0 := by
    rcases h18 with z | z <;> (rw [z]; rfl)
  refine J_C hst (by decide +kernel) rfl rfl rfl (Nat.le_of_ble_eq_true rfl) ?_
  show xx_J _ _ _ _ _ _ _ _ 0 [(0, _), (1, _), (2, _)] [] _ _ _ _
  refine J_aload_n dX9_isOfTwo_0 rfl rfl ?_
  refine J_dup dX9_isOfTwo_1 rfl ?_
  refine J_getf dX9_isOfTwo_2 fl_X9_305 (hM.at 0 rfl) rfl ?_
  refine J_iconst (v := 1) dX9_isOfTwo_5 (by decide) ?_
  refine J_iadd dX9_isOfTwo_6 ?_
  refine J_putf dX9_isOfTwo_7 fp_X9_305 (fun _ => ⟨rfl, rfl⟩) (hM.at 0 rfl) (Nat.le_of_ble_eq_true rfl) ?_
  refine J_genA (wM_s0_9 hM _) ((xx_pf.rf (bm := bm) (bp := bp)).put (by omega) (by omega) _) (fun A1 w1 s1 o1 => ?_)
  have w1N := hN.o2 o1 (m := 9) rfl (by omega)
  have u1 := w1
  rw [pa_up (M := M) (k := k) (d := d) (k2 := k + 1) (x := (paM M k d).1 9 + 1) (nI_1 _)] at u1
  have nx1 : ¬ tk k = 37 ∧ ¬ tk k = 38 := (by omega : ¬ tk k = 37 ∧ ¬ tk k = 38)
  have hk1 : k + 1 < tok := hnx _ hk nx1.1 nx1.2
  refine J_aload_n dX9_isOfTwo_10 rfl rfl ?_
  refine J_bipush (v := 40) dX9_isOfTwo_11 (by decide) ?_
  refine J_callVw (As := [_]) dX9_isOfTwo_13 ml_X9_328 cal_X9_deeper im_X9_deeper se_X9_deeper (u1.at 0 rfl) rfl rfl rfl (Nat.le_of_ble_eq_true rfl) ⟨by omega, by show 8 + (2 + 11) + _ ≤ _; omega⟩ ⟨by decide, by decide⟩ (c_X9_deeper (v := 20) (k := (k + 1)) hst u1 rfl (by decide) htv.pa rfl hk1 hd8 rfl) (fun A2 hQ2 => ?_)
  have hM_2 := hQ2.1
  have hN_2 := w1N.mf hQ2.2 (m := 9) rfl (fun i hi => by unfold isM; omega)
  have hs_2 : xx_pf bm bp _ _ := hQ2.2.toP
  refine J_ifb_eq (tgt := 53) dX9_isOfTwo_16 rfl (fun h16 => ?_) (fun h16 => ?_)
  · rw [dpM_f h16] at hM_2
    refine J_iconst (v := 0) dX9_isOfTwo_53 (by decide) ?_
    refine J_ireturn dX9_isOfTwo_54 rfl rfl (by decide) (by decide) ?_
    have e1 : (choW tk d ps k) = (false, (k + 1), []) := by
      first
        | (simp [choW, bnd, eat, dpt, emt, h16]; done)
        | (simp [choW, bnd, eat, dpt, emt, h16]; exact Prod.ext (by simp_all) rfl)
    rw [e1]
    exact ⟨rfl, rfl, _, _, fun z => (Bool.false_ne_true z).elim, hM_2, hN_2, (s1.trans hs_2)⟩
  · rw [dpM_pt h16] at hM_2
    have ah16 := h16.1
    have bh16 := h16.2
    have kh16 : (k + 1) + 1 < tok := hnx _ hk1 (by rw [bh16]; decide) (by rw [bh16]; decide)
    refine J_aload_n dX9_isOfTwo_19 rfl rfl ?_
    refine J_aload_n dX9_isOfTwo_20 rfl rfl ?_
    refine J_callVw (As := [_]) dX9_isOfTwo_21 ml_X9_340 cal_X9_isSum im_X9_isSum se_X9_isSum (hM_2.at 0 rfl) rfl rfl rfl (Nat.le_of_ble_eq_true rfl) ⟨by omega, by show 8 + (3 + 11) + _ ≤ _; omega⟩ ⟨by decide, by decide⟩ ((hs (by omega)) _ _ _ _ ((k + 1) + 1) m htv hM_2 hN_2 hm (by omega) kh16) (fun A3 hQ3 => ?_)
    obtain ⟨d_3, P_3, hf_3, hM_3, hN_3, hs_3⟩ := hQ3
    refine J_ifb_eq (tgt := 53) dX9_isOfTwo_24 rfl (fun h24 => ?_) (fun h24 => ?_)
    · refine J_iconst (v := 0) dX9_isOfTwo_53 (by decide) ?_
      refine J_ireturn dX9_isOfTwo_54 rfl rfl (by decide) (by decide) ?_
      have e1 : (choW tk d ps k) = (false, (ps ((k + 1) + 1)).2.1, (ps ((k + 1) + 1)).2.2) := by
        first
          | (simp [choW, bnd, eat, dpt, emt, ah16, bh16, h24]; done)
          | (simp [choW, bnd, eat, dpt, emt, ah16, bh16, h24]; exact Prod.ext (by simp_all) rfl)
      rw [e1]
      exact ⟨rfl, rfl, _, _, fun z => (Bool.false_ne_true z).elim, hM_3, hN_3, ((s1.trans hs_2).trans hs_3)⟩
    · obtain ⟨hd_3, rfl⟩ := hf_3 h24
      rw [hd_3] at hM_3
      have g3 := oks ((k + 1) + 1) kh16
      have m3 := emP_10 (ps ((k + 1) + 1)).2.2 _ hm
      refine J_aload_n dX9_isOfTwo_27 rfl rfl ?_
      refine J_bipush (v := 44) dX9_isOfTwo_28 (by decide) ?_
      refine J_callVw (As := [_]) dX9_isOfTwo_30 ml_X9_308 cal_X9_eat im_X9_eat se_X9_eat (hM_3.at 0 rfl) rfl rfl rfl (Nat.le_of_ble_eq_true rfl) ⟨by omega, by show 8 + (2 + 11) + _ ≤ _; omega⟩ ⟨by decide, by decide⟩ (c_X9_eat (v := 25) (k := (ps ((k + 1) + 1)).2.1) hst hM_3 rfl (by decide) htv.pa rfl g3.2.1) (fun A4 hQ4 => ?_)
      have hM_4 := hQ4.1
      have hN_4 := hN_3.mf hQ4.2 (m := 9) rfl (fun i hi => by unfold isM; omega)
      have hs_4 : xx_pf bm bp _ _ := hQ4.2.toP
      refine J_ifb_eq (tgt := 53) dX9_isOfTwo_33 rfl (fun h33 => ?_) (fun h33 => ?_)
      · rw [eaM_f h33] at hM_4
        refine J_iconst (v := 0) dX9_isOfTwo_53 (by decide) ?_
        refine J_ireturn dX9_isOfTwo_54 rfl rfl (by decide) (by decide) ?_
        have e1 : (choW tk d ps k) = (false, (ps ((k + 1) + 1)).2.1, (ps ((k + 1) + 1)).2.2) := by
          first
            | (simp [choW, bnd, eat, dpt, emt, ah16, bh16, h24, h33]; done)
            | (simp [choW, bnd, eat, dpt, emt, ah16, bh16, h24, h33]; exact Prod.ext (by simp_all) rfl)
        rw [e1]
        exact ⟨rfl, rfl, _, _, fun z => (Bool.false_ne_true z).elim, hM_4, hN_4, (((s1.trans hs_2).trans hs_3).trans hs_4)⟩
      · rw [eaM_pt h33] at hM_4
        have kh33 : (ps ((k + 1) + 1)).2.1 + 1 < tok := hnx _ g3.2.1 (by rw [h33]; decide) (by rw [h33]; decide)
        refine J_aload_n dX9_isOfTwo_36 rfl rfl ?_
        refine J_aload_n dX9_isOfTwo_37 rfl rfl ?_
        refine J_callVw (As := [_]) dX9_isOfTwo_38 ml_X9_340 cal_X9_isSum im_X9_isSum se_X9_isSum (hM_4.at 0 rfl) rfl rfl rfl (Nat.le_of_ble_eq_true rfl) ⟨by omega, by show 8 + (3 + 11) + _ ≤ _; omega⟩ ⟨by decide, by decide⟩ ((hs (by omega)) _ _ _ _ ((ps ((k + 1) + 1)).2.1 + 1) (m + (ps ((k + 1) + 1)).2.2.length) htv hM_4 hN_4 m3 (by omega) kh33) (fun A5 hQ5 => ?_)
        obtain ⟨d_5, P_5, hf_5, hM_5, hN_5, hs_5⟩ := hQ5
        refine J_ifb_eq (tgt := 53) dX9_isOfTwo_41 rfl (fun h41 => ?_) (fun h41 => ?_)
        · refine J_iconst (v := 0) dX9_isOfTwo_53 (by decide) ?_
          refine J_ireturn dX9_isOfTwo_54 rfl rfl (by decide) (by decide) ?_
          have e1 : (choW tk d ps k) = (false, (ps ((ps ((k + 1) + 1)).2.1 + 1)).2.1, (ps ((k + 1) + 1)).2.2 ++ (ps ((ps ((k + 1) + 1)).2.1 + 1)).2.2) := by
            first
              | (simp [choW, bnd, eat, dpt, emt, ah16, bh16, h24, h33, h41]; done)
              | (simp [choW, bnd, eat, dpt, emt, ah16, bh16, h24, h33, h41]; exact Prod.ext (by simp_all) rfl)
          rw [e1]
          exact ⟨rfl, rfl, _, _, fun z => (Bool.false_ne_true z).elim, hM_5, hN_5, ((((s1.trans hs_2).trans hs_3).trans hs_4).trans hs_5)⟩
        · obtain ⟨hd_5, rfl⟩ := hf_5 h41
          rw [hd_5] at hM_5
          have g5 := oks ((ps ((k + 1) + 1)).2.1 + 1) kh33
          have m5 := emP_10 (ps ((ps ((k + 1) + 1)).2.1 + 1)).2.2 _ m3
          refine J_aload_n dX9_isOfTwo_44 rfl rfl ?_
          refine J_bipush (v := 41) dX9_isOfTwo_45 (by decide) ?_
          refine J_callVw (As := [_]) dX9_isOfTwo_47 ml_X9_334 cal_X9_closes im_X9_closes se_X9_closes (hM_5.at 0 rfl) rfl rfl rfl (Nat.le_of_ble_eq_true rfl) ⟨by omega, by show 8 + (2 + 11) + _ ≤ _; omega⟩ ⟨by decide, by decide⟩ (c_X9_closes (v := 21) (k := (ps ((ps ((k + 1) + 1)).2.1 + 1)).2.1) hst hM_5 rfl (by decide) htv.pa rfl g5.2.1) (fun A6 hQ6 => ?_)
          have hM_6 := hQ6.1
          have hN_6 := hN_5.mf hQ6.2 (m := 9) rfl (fun i hi => by unfold isM; omega)
          have hs_6 : xx_pf bm bp _ _ := hQ6.2.toP
          refine J_ifb_ne (tgt := 55) dX9_isOfTwo_50 rfl (fun h50 => ?_) (fun h50 => ?_)
          · rw [clM_pt h50] at hM_6
            have kh50 : (ps ((ps ((k + 1) + 1)).2.1 + 1)).2.1 + 1 < tok := hnx _ g5.2.1 (by rw [h50]; decide) (by rw [h50]; decide)
            refine J_aload_n dX9_isOfTwo_55 rfl rfl ?_
            refine J_aload_n dX9_isOfTwo_56 rfl rfl ?_
            refine J_iload_n dX9_isOfTwo_57 rfl rfl ?_
            refine J_iconst (v := 0) dX9_isOfTwo_58 (by decide) ?_
            refine J_callVw (As := [_, _, _]) dX9_isOfTwo_59 ml_X9_321 cal_X9_put im_X9_put se_X9_put (hM_6.at 0 rfl) rfl rfl rfl (Nat.le_of_ble_eq_true rfl) ⟨by omega, by show 8 + (4 + 11) + _ ≤ _; omega⟩ ⟨by decide, by decide⟩ (c_X9_put (k := ((m + (ps ((k + 1) + 1)).2.2.length) + (ps ((ps ((k + 1) + 1)).2.1 + 1)).2.2.length)) hst hM_6 hN_6 _ _ m5 (by omega)) (fun A7 hQ7 => ?_)
            have hN_7 := hQ7.1
            have hM_7 := layM_sP hM_6 hQ7.2 hb48
            have hs_7 : xx_pf bm bp _ _ := hQ7.2.toP
            rw [put_em m5 (by omega) (op := (if tk k = 18 then 12 else 13)) (x := 0) hyy hzz] at hN_7
            have m7 := emP_10 [(((if tk k = 18 then 12 else 13) : Int32), (0 : Int32))] _ m5
            refine J_iconst (v := 1) dX9_isOfTwo_62 (by decide) ?_
            refine J_ireturn dX9_isOfTwo_63 rfl rfl (by decide) (by decide) ?_
            have e1 : (choW tk d ps k) = (true, ((ps ((ps ((k + 1) + 1)).2.1 + 1)).2.1 + 1), (ps ((k + 1) + 1)).2.2 ++ (ps ((ps ((k + 1) + 1)).2.1 + 1)).2.2 ++ [(((if tk k = 18 then 12 else 13) : Int32), (0 : Int32))]) := by
              first
                | (simp [choW, bnd, eat, dpt, emt, ah16, bh16, h24, h33, h41, h50]; done)
                | (simp [choW, bnd, eat, dpt, emt, ah16, bh16, h24, h33, h41, h50]; exact Prod.ext (by simp_all) rfl)
            rw [e1]
            exact ⟨rfl, rfl, d, _, fun _ => ⟨rfl, by simp only [emP_app]⟩, hM_7, hN_7, ((((((s1.trans hs_2).trans hs_3).trans hs_4).trans hs_5).trans hs_6).trans hs_7)⟩
          · rw [clM_f h50] at hM_6
            refine J_iconst (v := 0) dX9_isOfTwo_53 (by decide) ?_
            refine J_ireturn dX9_isOfTwo_54 rfl rfl (by decide) (by decide) ?_
            have e1 : (choW tk d ps k) = (false, (ps ((ps ((k + 1) + 1)).2.1 + 1)).2.1, (ps ((k + 1) + 1)).2.2 ++ (ps ((ps ((k + 1) + 1)).2.1 + 1)).2.2) := by
              first
                | (simp [choW, bnd, eat, dpt, emt, ah16, bh16, h24, h33, h41, h50]; done)
                | (simp [choW, bnd, eat, dpt, emt, ah16, bh16, h24, h33, h41, h50]; exact Prod.ext (by simp_all) rfl)
            rw [e1]
            exact ⟨rfl, rfl, _, _, fun z => (Bool.false_ne_true z).elim, hM_6, hN_6, (((((s1.trans hs_2).trans hs_3).trans hs_4).trans hs_5).trans hs_6)⟩
end XSG
