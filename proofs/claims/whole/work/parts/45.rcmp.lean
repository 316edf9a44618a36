/-! THE REFERENCE: isCompare .. isSingle -/
section XSF
variable {G : xx_G} {l : Launch} {A A' : xx_H} {n : Nat} {bm bp bs bn ba : Nat} {vL nl : Nat → Int64} {M M' M1 P S : xS} {T : xS} {len i j k q s e t d nt tok v : Nat} {tk : Nat → Nat}
set_option maxHeartbeats 2000000 in
theorem c_X9_isCompare (hst : l.stackTraces = false) (hb48 : bm + 48 ≤ bp) (h401 : tok ≤ 401) (hnx : nxt tk tok) {b0 d : Nat} {p : Nat → Res} {f0 g0 : Nat} (hp : prP G l bm bp b0 bn ba vL nl tk tok yX9_isSum mX9_isSum f0 g0 d p) (okp : pOK tok p) {fr lo : Nat} (hf9 : 12 ≤ fr) (hg9 : 400 ≤ lo) (hf0 : f0 + 1 ≤ fr) (hg0 : g0 + 22 ≤ lo) : prP G l bm bp b0 bn ba vL nl tk tok yX9_isCompare mX9_isCompare fr lo d (cmpW tk p) := by
  intro A n M P k m htv hM hN hm hmk hk
  refine J_C hst (by decide +kernel) rfl rfl rfl (Nat.le_of_ble_eq_true rfl) ?_
  show xx_J _ _ _ _ _ _ _ _ 0 [(0, _), (1, _)] [] _ _ _ _
  refine J_aload_n dX9_isCompare_0 rfl rfl ?_
  refine J_aload_n dX9_isCompare_1 rfl rfl ?_
  refine J_callVw (As := [_]) dX9_isCompare_2 ml_X9_340 cal_X9_isSum im_X9_isSum se_X9_isSum (hM.at 0 rfl) rfl rfl rfl (Nat.le_of_ble_eq_true rfl) ⟨by omega, by show 8 + (3 + 11) + _ ≤ _; omega⟩ ⟨by decide, by decide⟩ (hp _ _ _ _ k m htv hM hN hm hmk hk) (fun A1 hQ1 => ?_)
  obtain ⟨d_1, P_1, hf_1, hM_1, hN_1, hs_1⟩ := hQ1
  refine J_ifb_ne (tgt := 10) dX9_isCompare_5 rfl (fun h5 => ?_) (fun h5 => ?_)
  · obtain ⟨hd_1, rfl⟩ := hf_1 h5
    rw [hd_1] at hM_1
    have g0_ := okp k hk
    have hm2 := emP_10 (p k).2.2 P hm
    refine J_aload_n dX9_isCompare_10 rfl rfl ?_
    refine J_getf dX9_isCompare_11 fl_X9_24 (hM_1.at 0 rfl) rfl ?_
    refine J_aload_n dX9_isCompare_14 rfl rfl ?_
    refine J_getf dX9_isCompare_15 fl_X9_305 (hM_1.at 0 rfl) rfl ?_
    refine J_ialdN (p k).2.1 dX9_isCompare_18 (hM_1.at 2 rfl) rfl (by omega) (by decide) ?_
    refine J_istore_n (L' := [(2, _), (0, _), (1, _)]) dX9_isCompare_19 rfl (by decide) rfl ?_
    refine J_iload_n dX9_isCompare_20 rfl rfl ?_
    refine J_bipush (v := 60) dX9_isCompare_21 (by decide) ?_
    refine J_icmp_ne (tgt := 31) dX9_isCompare_23 rfl (fun h23 => ?_) (fun h23 => ?_)
    · have th23 : ¬ tk (p k).2.1 = 30 := fun z => h23 ((htv.eq g0_.2.1 (v := 30) (by decide)).mpr z)
      refine J_iload_n dX9_isCompare_31 rfl rfl ?_
      refine J_bipush (v := 62) dX9_isCompare_32 (by decide) ?_
      refine J_icmp_ne (tgt := 42) dX9_isCompare_34 rfl (fun h34 => ?_) (fun h34 => ?_)
      · have th34 : ¬ tk (p k).2.1 = 31 := fun z => h34 ((htv.eq g0_.2.1 (v := 31) (by decide)).mpr z)
        refine J_iload_n dX9_isCompare_42 rfl rfl ?_
        refine J_bipush (v := 61) dX9_isCompare_43 (by decide) ?_
        refine J_icmp_ne (tgt := 53) dX9_isCompare_45 rfl (fun h45 => ?_) (fun h45 => ?_)
        · have th45 : ¬ tk (p k).2.1 = 32 := fun z => h45 ((htv.eq g0_.2.1 (v := 32) (by decide)).mpr z)
          refine J_iload_n dX9_isCompare_53 rfl rfl ?_
          refine J_sipush (v := 316) dX9_isCompare_54 (by decide) ?_
          refine J_icmp_ne (tgt := 65) dX9_isCompare_57 rfl (fun h57 => ?_) (fun h57 => ?_)
          · have th57 : ¬ tk (p k).2.1 = 33 := fun z => h57 ((htv.eq g0_.2.1 (v := 33) (by decide)).mpr z)
            refine J_iload_n dX9_isCompare_65 rfl rfl ?_
            refine J_sipush (v := 318) dX9_isCompare_66 (by decide) ?_
            refine J_icmp_ne (tgt := 77) dX9_isCompare_69 rfl (fun h69 => ?_) (fun h69 => ?_)
            · have th69 : ¬ tk (p k).2.1 = 34 := fun z => h69 ((htv.eq g0_.2.1 (v := 34) (by decide)).mpr z)
              refine J_iconst (v := -1) dX9_isCompare_77 (by decide) ?_
              refine J_istore_n (L' := [(3, _), (2, _), (0, _), (1, _)]) dX9_isCompare_78 rfl (by decide) rfl ?_
              refine J_iload_n dX9_isCompare_79 rfl rfl ?_
              refine J_iconst (v := -1) dX9_isCompare_80 (by decide) ?_
              refine J_icmp_ne (tgt := 86) dX9_isCompare_81 rfl (fun h81 => ?_) (fun h81 => ?_)
              · first | exact absurd h81 (by decide) | exact absurd (by decide) h81
              · refine J_iconst (v := 0) dX9_isCompare_84 (by decide) ?_
                refine J_ireturn dX9_isCompare_85 rfl rfl (by decide) (by decide) ?_
                have e0 : cmpT (tk (p k).2.1) = 0 := by unfold cmpT; rw [if_neg th23, if_neg th34, if_neg th45, if_neg th57, if_neg th69]
                have e1 : (cmpW tk p) k = (false, (p k).2.1, (p k).2.2) := by
                  simp only [cmpW]; rw [bnd_t h5, if_pos e0, List.append_nil]
                rw [e1]
                exact ⟨rfl, rfl, _, _, fun z => (Bool.false_ne_true z).elim, hM_1, hN_1, ((xx_pf.rf (bm := bm) (bp := bp)).trans hs_1)⟩
            · have hop : tk (p k).2.1 = 34 := (htv.eq g0_.2.1 (v := 34) (by decide)).mp h69
              have hk3 : (p k).2.1 + 1 < tok := hnx _ g0_.2.1 (by rw [hop]; decide) (by rw [hop]; decide)
              have g1 := okp _ hk3
              refine J_bipush (v := 110) dX9_isCompare_72 (by decide) ?_
              refine J_goto (tgt := 78) dX9_isCompare_74 rfl ?_
              refine J_istore_n (L' := [(3, _), (2, _), (0, _), (1, _)]) dX9_isCompare_78 rfl (by decide) rfl ?_
              refine J_iload_n dX9_isCompare_79 rfl rfl ?_
              refine J_iconst (v := -1) dX9_isCompare_80 (by decide) ?_
              refine J_icmp_ne (tgt := 86) dX9_isCompare_81 rfl (fun h81 => ?_) (fun h81 => ?_)
              · refine J_aload_n dX9_isCompare_86 rfl rfl ?_
                refine J_dup dX9_isCompare_87 rfl ?_
                refine J_getf dX9_isCompare_88 fl_X9_305 (hM_1.at 0 rfl) rfl ?_
                refine J_iconst (v := 1) dX9_isCompare_91 (by decide) ?_
                refine J_iadd dX9_isCompare_92 ?_
                refine J_putf dX9_isCompare_93 fp_X9_305 (fun _ => ⟨rfl, rfl⟩) (hM_1.at 0 rfl) (Nat.le_of_ble_eq_true rfl) ?_
                refine J_genA (wM_s0_9 hM_1 _) (((xx_pf.rf (bm := bm) (bp := bp)).trans hs_1).put (by omega) (by omega) _) (fun A2 w2 s2 o2 => ?_)
                have w2N := hN_1.o2 o2 (m := 9) rfl (by omega)
                have u2 := w2
                rw [pa_up (M := M) (k := (p k).2.1) (d := d) (k2 := (p k).2.1 + 1) (x := (paM M (p k).2.1 d).1 9 + 1) (nI_1 _)] at u2
                refine J_aload_n dX9_isCompare_96 rfl rfl ?_
                refine J_aload_n dX9_isCompare_97 rfl rfl ?_
                refine J_callVw (As := [_]) dX9_isCompare_98 ml_X9_340 cal_X9_isSum im_X9_isSum se_X9_isSum (u2.at 0 rfl) rfl rfl rfl (Nat.le_of_ble_eq_true rfl) ⟨by omega, by show 8 + (3 + 11) + _ ≤ _; omega⟩ ⟨by decide, by decide⟩ (hp _ _ _ _ ((p k).2.1 + 1) (m + (p k).2.2.length) htv u2 w2N hm2 (by omega) hk3) (fun A3 hQ3 => ?_)
                obtain ⟨d_3, P_3, hf_3, hM_3, hN_3, hs_3⟩ := hQ3
                refine J_ifb_ne (tgt := 106) dX9_isCompare_101 rfl (fun h101 => ?_) (fun h101 => ?_)
                · obtain ⟨hd_3, rfl⟩ := hf_3 h101
                  rw [hd_3] at hM_3
                  have hm3 := emP_10 (p ((p k).2.1 + 1)).2.2 _ hm2
                  refine J_aload_n dX9_isCompare_106 rfl rfl ?_
                  refine J_aload_n dX9_isCompare_107 rfl rfl ?_
                  refine J_iload_n dX9_isCompare_108 rfl rfl ?_
                  refine J_iconst (v := 0) dX9_isCompare_109 (by decide) ?_
                  refine J_callVw (As := [_, _, _]) dX9_isCompare_110 ml_X9_321 cal_X9_put im_X9_put se_X9_put (hM_3.at 0 rfl) rfl rfl rfl (Nat.le_of_ble_eq_true rfl) ⟨by omega, by show 8 + (4 + 11) + _ ≤ _; omega⟩ ⟨by decide, by decide⟩ (c_X9_put (k := m + (p k).2.2.length + (p ((p k).2.1 + 1)).2.2.length) hst hM_3 hN_3 _ _ hm3 (by omega)) (fun A4 hQ4 => ?_)
                  have hN_4 := hQ4.1
                  have hM_4 := layM_sP hM_3 hQ4.2 hb48
                  have hs_4 : xx_pf bm bp _ _ := hQ4.2.toP
                  refine J_iconst (v := 1) dX9_isCompare_113 (by decide) ?_
                  refine J_ireturn dX9_isCompare_114 rfl rfl (by decide) (by decide) ?_
                  have e0 : ¬ cmpT (tk (p k).2.1) = 0 := by rw [hop]; decide
                  have e1 : (cmpW tk p) k = (true, (p ((p k).2.1 + 1)).2.1, (p k).2.2 ++ ((p ((p k).2.1 + 1)).2.2 ++ [(cmpT 34, 0)])) := by
                    simp only [cmpW]; rw [bnd_t h5, if_neg e0, bnd_t h101, hop]; rfl
                  rw [e1]
                  have e2 : putP (emP (emP P (p k).2.2) (p ((p k).2.1 + 1)).2.2) (m + (p k).2.2.length + (p ((p k).2.1 + 1)).2.2.length) 110 0 = emP P ((p k).2.2 ++ ((p ((p k).2.1 + 1)).2.2 ++ [(cmpT 34, 0)])) := by
                    rw [emP_app, emP_app]
                    exact put_em hm3 (by omega) rfl rfl
                  rw [e2] at hN_4
                  exact ⟨rfl, rfl, d, _, fun _ => ⟨rfl, rfl⟩, hM_4, hN_4, ((s2.trans hs_3).trans hs_4)⟩
                · refine J_iconst (v := 0) dX9_isCompare_104 (by decide) ?_
                  refine J_ireturn dX9_isCompare_105 rfl rfl (by decide) (by decide) ?_
                  have e0 : ¬ cmpT (tk (p k).2.1) = 0 := by rw [hop]; decide
                  have e1 : (cmpW tk p) k = (false, (p ((p k).2.1 + 1)).2.1, (p k).2.2 ++ (p ((p k).2.1 + 1)).2.2) := by
                    simp only [cmpW]; rw [bnd_t h5, if_neg e0, bnd_f h101]; simp only [Bool.not_eq_true] at h101; rw [h101]
                  rw [e1]
                  exact ⟨rfl, rfl, _, _, fun z => (Bool.false_ne_true z).elim, hM_3, hN_3, (s2.trans hs_3)⟩
              · first | exact absurd h81 (by decide) | exact absurd (by decide) h81
          · have hop : tk (p k).2.1 = 33 := (htv.eq g0_.2.1 (v := 33) (by decide)).mp h57
            have hk3 : (p k).2.1 + 1 < tok := hnx _ g0_.2.1 (by rw [hop]; decide) (by rw [hop]; decide)
            have g1 := okp _ hk3
            refine J_bipush (v := 109) dX9_isCompare_60 (by decide) ?_
            refine J_goto (tgt := 78) dX9_isCompare_62 rfl ?_
            refine J_istore_n (L' := [(3, _), (2, _), (0, _), (1, _)]) dX9_isCompare_78 rfl (by decide) rfl ?_
            refine J_iload_n dX9_isCompare_79 rfl rfl ?_
            refine J_iconst (v := -1) dX9_isCompare_80 (by decide) ?_
            refine J_icmp_ne (tgt := 86) dX9_isCompare_81 rfl (fun h81 => ?_) (fun h81 => ?_)
            · refine J_aload_n dX9_isCompare_86 rfl rfl ?_
              refine J_dup dX9_isCompare_87 rfl ?_
              refine J_getf dX9_isCompare_88 fl_X9_305 (hM_1.at 0 rfl) rfl ?_
              refine J_iconst (v := 1) dX9_isCompare_91 (by decide) ?_
              refine J_iadd dX9_isCompare_92 ?_
              refine J_putf dX9_isCompare_93 fp_X9_305 (fun _ => ⟨rfl, rfl⟩) (hM_1.at 0 rfl) (Nat.le_of_ble_eq_true rfl) ?_
              refine J_genA (wM_s0_9 hM_1 _) (((xx_pf.rf (bm := bm) (bp := bp)).trans hs_1).put (by omega) (by omega) _) (fun A5 w5 s5 o5 => ?_)
              have w5N := hN_1.o2 o5 (m := 9) rfl (by omega)
              have u5 := w5
              rw [pa_up (M := M) (k := (p k).2.1) (d := d) (k2 := (p k).2.1 + 1) (x := (paM M (p k).2.1 d).1 9 + 1) (nI_1 _)] at u5
              refine J_aload_n dX9_isCompare_96 rfl rfl ?_
              refine J_aload_n dX9_isCompare_97 rfl rfl ?_
              refine J_callVw (As := [_]) dX9_isCompare_98 ml_X9_340 cal_X9_isSum im_X9_isSum se_X9_isSum (u5.at 0 rfl) rfl rfl rfl (Nat.le_of_ble_eq_true rfl) ⟨by omega, by show 8 + (3 + 11) + _ ≤ _; omega⟩ ⟨by decide, by decide⟩ (hp _ _ _ _ ((p k).2.1 + 1) (m + (p k).2.2.length) htv u5 w5N hm2 (by omega) hk3) (fun A6 hQ6 => ?_)
              obtain ⟨d_6, P_6, hf_6, hM_6, hN_6, hs_6⟩ := hQ6
              refine J_ifb_ne (tgt := 106) dX9_isCompare_101 rfl (fun h101 => ?_) (fun h101 => ?_)
              · obtain ⟨hd_6, rfl⟩ := hf_6 h101
                rw [hd_6] at hM_6
                have hm3 := emP_10 (p ((p k).2.1 + 1)).2.2 _ hm2
                refine J_aload_n dX9_isCompare_106 rfl rfl ?_
                refine J_aload_n dX9_isCompare_107 rfl rfl ?_
                refine J_iload_n dX9_isCompare_108 rfl rfl ?_
                refine J_iconst (v := 0) dX9_isCompare_109 (by decide) ?_
                refine J_callVw (As := [_, _, _]) dX9_isCompare_110 ml_X9_321 cal_X9_put im_X9_put se_X9_put (hM_6.at 0 rfl) rfl rfl rfl (Nat.le_of_ble_eq_true rfl) ⟨by omega, by show 8 + (4 + 11) + _ ≤ _; omega⟩ ⟨by decide, by decide⟩ (c_X9_put (k := m + (p k).2.2.length + (p ((p k).2.1 + 1)).2.2.length) hst hM_6 hN_6 _ _ hm3 (by omega)) (fun A7 hQ7 => ?_)
                have hN_7 := hQ7.1
                have hM_7 := layM_sP hM_6 hQ7.2 hb48
                have hs_7 : xx_pf bm bp _ _ := hQ7.2.toP
                refine J_iconst (v := 1) dX9_isCompare_113 (by decide) ?_
                refine J_ireturn dX9_isCompare_114 rfl rfl (by decide) (by decide) ?_
                have e0 : ¬ cmpT (tk (p k).2.1) = 0 := by rw [hop]; decide
                have e1 : (cmpW tk p) k = (true, (p ((p k).2.1 + 1)).2.1, (p k).2.2 ++ ((p ((p k).2.1 + 1)).2.2 ++ [(cmpT 33, 0)])) := by
                  simp only [cmpW]; rw [bnd_t h5, if_neg e0, bnd_t h101, hop]; rfl
                rw [e1]
                have e2 : putP (emP (emP P (p k).2.2) (p ((p k).2.1 + 1)).2.2) (m + (p k).2.2.length + (p ((p k).2.1 + 1)).2.2.length) 109 0 = emP P ((p k).2.2 ++ ((p ((p k).2.1 + 1)).2.2 ++ [(cmpT 33, 0)])) := by
                  rw [emP_app, emP_app]
                  exact put_em hm3 (by omega) rfl rfl
                rw [e2] at hN_7
                exact ⟨rfl, rfl, d, _, fun _ => ⟨rfl, rfl⟩, hM_7, hN_7, ((s5.trans hs_6).trans hs_7)⟩
              · refine J_iconst (v := 0) dX9_isCompare_104 (by decide) ?_
                refine J_ireturn dX9_isCompare_105 rfl rfl (by decide) (by decide) ?_
                have e0 : ¬ cmpT (tk (p k).2.1) = 0 := by rw [hop]; decide
                have e1 : (cmpW tk p) k = (false, (p ((p k).2.1 + 1)).2.1, (p k).2.2 ++ (p ((p k).2.1 + 1)).2.2) := by
                  simp only [cmpW]; rw [bnd_t h5, if_neg e0, bnd_f h101]; simp only [Bool.not_eq_true] at h101; rw [h101]
                rw [e1]
                exact ⟨rfl, rfl, _, _, fun z => (Bool.false_ne_true z).elim, hM_6, hN_6, (s5.trans hs_6)⟩
            · first | exact absurd h81 (by decide) | exact absurd (by decide) h81
        · have hop : tk (p k).2.1 = 32 := (htv.eq g0_.2.1 (v := 32) (by decide)).mp h45
          have hk3 : (p k).2.1 + 1 < tok := hnx _ g0_.2.1 (by rw [hop]; decide) (by rw [hop]; decide)
          have g1 := okp _ hk3
          refine J_bipush (v := 108) dX9_isCompare_48 (by decide) ?_
          refine J_goto (tgt := 78) dX9_isCompare_50 rfl ?_
          refine J_istore_n (L' := [(3, _), (2, _), (0, _), (1, _)]) dX9_isCompare_78 rfl (by decide) rfl ?_
          refine J_iload_n dX9_isCompare_79 rfl rfl ?_
          refine J_iconst (v := -1) dX9_isCompare_80 (by decide) ?_
          refine J_icmp_ne (tgt := 86) dX9_isCompare_81 rfl (fun h81 => ?_) (fun h81 => ?_)
          · refine J_aload_n dX9_isCompare_86 rfl rfl ?_
            refine J_dup dX9_isCompare_87 rfl ?_
            refine J_getf dX9_isCompare_88 fl_X9_305 (hM_1.at 0 rfl) rfl ?_
            refine J_iconst (v := 1) dX9_isCompare_91 (by decide) ?_
            refine J_iadd dX9_isCompare_92 ?_
            refine J_putf dX9_isCompare_93 fp_X9_305 (fun _ => ⟨rfl, rfl⟩) (hM_1.at 0 rfl) (Nat.le_of_ble_eq_true rfl) ?_
            refine J_genA (wM_s0_9 hM_1 _) (((xx_pf.rf (bm := bm) (bp := bp)).trans hs_1).put (by omega) (by omega) _) (fun A8 w8 s8 o8 => ?_)
            have w8N := hN_1.o2 o8 (m := 9) rfl (by omega)
            have u8 := w8
            rw [pa_up (M := M) (k := (p k).2.1) (d := d) (k2 := (p k).2.1 + 1) (x := (paM M (p k).2.1 d).1 9 + 1) (nI_1 _)] at u8
            refine J_aload_n dX9_isCompare_96 rfl rfl ?_
            refine J_aload_n dX9_isCompare_97 rfl rfl ?_
            refine J_callVw (As := [_]) dX9_isCompare_98 ml_X9_340 cal_X9_isSum im_X9_isSum se_X9_isSum (u8.at 0 rfl) rfl rfl rfl (Nat.le_of_ble_eq_true rfl) ⟨by omega, by show 8 + (3 + 11) + _ ≤ _; omega⟩ ⟨by decide, by decide⟩ (hp _ _ _ _ ((p k).2.1 + 1) (m + (p k).2.2.length) htv u8 w8N hm2 (by omega) hk3) (fun A9 hQ9 => ?_)
            obtain ⟨d_9, P_9, hf_9, hM_9, hN_9, hs_9⟩ := hQ9
            refine J_ifb_ne (tgt := 106) dX9_isCompare_101 rfl (fun h101 => ?_) (fun h101 => ?_)
            · obtain ⟨hd_9, rfl⟩ := hf_9 h101
              rw [hd_9] at hM_9
              have hm3 := emP_10 (p ((p k).2.1 + 1)).2.2 _ hm2
              refine J_aload_n dX9_isCompare_106 rfl rfl ?_
              refine J_aload_n dX9_isCompare_107 rfl rfl ?_
              refine J_iload_n dX9_isCompare_108 rfl rfl ?_
              refine J_iconst (v := 0) dX9_isCompare_109 (by decide) ?_
              refine J_callVw (As := [_, _, _]) dX9_isCompare_110 ml_X9_321 cal_X9_put im_X9_put se_X9_put (hM_9.at 0 rfl) rfl rfl rfl (Nat.le_of_ble_eq_true rfl) ⟨by omega, by show 8 + (4 + 11) + _ ≤ _; omega⟩ ⟨by decide, by decide⟩ (c_X9_put (k := m + (p k).2.2.length + (p ((p k).2.1 + 1)).2.2.length) hst hM_9 hN_9 _ _ hm3 (by omega)) (fun A10 hQ10 => ?_)
              have hN_10 := hQ10.1
              have hM_10 := layM_sP hM_9 hQ10.2 hb48
              have hs_10 : xx_pf bm bp _ _ := hQ10.2.toP
              refine J_iconst (v := 1) dX9_isCompare_113 (by decide) ?_
              refine J_ireturn dX9_isCompare_114 rfl rfl (by decide) (by decide) ?_
              have e0 : ¬ cmpT (tk (p k).2.1) = 0 := by rw [hop]; decide
              have e1 : (cmpW tk p) k = (true, (p ((p k).2.1 + 1)).2.1, (p k).2.2 ++ ((p ((p k).2.1 + 1)).2.2 ++ [(cmpT 32, 0)])) := by
                simp only [cmpW]; rw [bnd_t h5, if_neg e0, bnd_t h101, hop]; rfl
              rw [e1]
              have e2 : putP (emP (emP P (p k).2.2) (p ((p k).2.1 + 1)).2.2) (m + (p k).2.2.length + (p ((p k).2.1 + 1)).2.2.length) 108 0 = emP P ((p k).2.2 ++ ((p ((p k).2.1 + 1)).2.2 ++ [(cmpT 32, 0)])) := by
                rw [emP_app, emP_app]
                exact put_em hm3 (by omega) rfl rfl
              rw [e2] at hN_10
              exact ⟨rfl, rfl, d, _, fun _ => ⟨rfl, rfl⟩, hM_10, hN_10, ((s8.trans hs_9).trans hs_10)⟩
            · refine J_iconst (v := 0) dX9_isCompare_104 (by decide) ?_
              refine J_ireturn dX9_isCompare_105 rfl rfl (by decide) (by decide) ?_
              have e0 : ¬ cmpT (tk (p k).2.1) = 0 := by rw [hop]; decide
              have e1 : (cmpW tk p) k = (false, (p ((p k).2.1 + 1)).2.1, (p k).2.2 ++ (p ((p k).2.1 + 1)).2.2) := by
                simp only [cmpW]; rw [bnd_t h5, if_neg e0, bnd_f h101]; simp only [Bool.not_eq_true] at h101; rw [h101]
              rw [e1]
              exact ⟨rfl, rfl, _, _, fun z => (Bool.false_ne_true z).elim, hM_9, hN_9, (s8.trans hs_9)⟩
          · first | exact absurd h81 (by decide) | exact absurd (by decide) h81
      · have hop : tk (p k).2.1 = 31 := (htv.eq g0_.2.1 (v := 31) (by decide)).mp h34
        have hk3 : (p k).2.1 + 1 < tok := hnx _ g0_.2.1 (by rw [hop]; decide) (by rw [hop]; decide)
        have g1 := okp _ hk3
        refine J_bipush (v := 107) dX9_isCompare_37 (by decide) ?_
        refine J_goto (tgt := 78) dX9_isCompare_39 rfl ?_
        refine J_istore_n (L' := [(3, _), (2, _), (0, _), (1, _)]) dX9_isCompare_78 rfl (by decide) rfl ?_
        refine J_iload_n dX9_isCompare_79 rfl rfl ?_
        refine J_iconst (v := -1) dX9_isCompare_80 (by decide) ?_
        refine J_icmp_ne (tgt := 86) dX9_isCompare_81 rfl (fun h81 => ?_) (fun h81 => ?_)
        · refine J_aload_n dX9_isCompare_86 rfl rfl ?_
          refine J_dup dX9_isCompare_87 rfl ?_
          refine J_getf dX9_isCompare_88 fl_X9_305 (hM_1.at 0 rfl) rfl ?_
          refine J_iconst (v := 1) dX9_isCompare_91 (by decide) ?_
          refine J_iadd dX9_isCompare_92 ?_
          refine J_putf dX9_isCompare_93 fp_X9_305 (fun _ => ⟨rfl, rfl⟩) (hM_1.at 0 rfl) (Nat.le_of_ble_eq_true rfl) ?_
          refine J_genA (wM_s0_9 hM_1 _) (((xx_pf.rf (bm := bm) (bp := bp)).trans hs_1).put (by omega) (by omega) _) (fun A11 w11 s11 o11 => ?_)
          have w11N := hN_1.o2 o11 (m := 9) rfl (by omega)
          have u11 := w11
          rw [pa_up (M := M) (k := (p k).2.1) (d := d) (k2 := (p k).2.1 + 1) (x := (paM M (p k).2.1 d).1 9 + 1) (nI_1 _)] at u11
          refine J_aload_n dX9_isCompare_96 rfl rfl ?_
          refine J_aload_n dX9_isCompare_97 rfl rfl ?_
          refine J_callVw (As := [_]) dX9_isCompare_98 ml_X9_340 cal_X9_isSum im_X9_isSum se_X9_isSum (u11.at 0 rfl) rfl rfl rfl (Nat.le_of_ble_eq_true rfl) ⟨by omega, by show 8 + (3 + 11) + _ ≤ _; omega⟩ ⟨by decide, by decide⟩ (hp _ _ _ _ ((p k).2.1 + 1) (m + (p k).2.2.length) htv u11 w11N hm2 (by omega) hk3) (fun A12 hQ12 => ?_)
          obtain ⟨d_12, P_12, hf_12, hM_12, hN_12, hs_12⟩ := hQ12
          refine J_ifb_ne (tgt := 106) dX9_isCompare_101 rfl (fun h101 => ?_) (fun h101 => ?_)
          · obtain ⟨hd_12, rfl⟩ := hf_12 h101
            rw [hd_12] at hM_12
            have hm3 := emP_10 (p ((p k).2.1 + 1)).2.2 _ hm2
            refine J_aload_n dX9_isCompare_106 rfl rfl ?_
            refine J_aload_n dX9_isCompare_107 rfl rfl ?_
            refine J_iload_n dX9_isCompare_108 rfl rfl ?_
            refine J_iconst (v := 0) dX9_isCompare_109 (by decide) ?_
            refine J_callVw (As := [_, _, _]) dX9_isCompare_110 ml_X9_321 cal_X9_put im_X9_put se_X9_put (hM_12.at 0 rfl) rfl rfl rfl (Nat.le_of_ble_eq_true rfl) ⟨by omega, by show 8 + (4 + 11) + _ ≤ _; omega⟩ ⟨by decide, by decide⟩ (c_X9_put (k := m + (p k).2.2.length + (p ((p k).2.1 + 1)).2.2.length) hst hM_12 hN_12 _ _ hm3 (by omega)) (fun A13 hQ13 => ?_)
            have hN_13 := hQ13.1
            have hM_13 := layM_sP hM_12 hQ13.2 hb48
            have hs_13 : xx_pf bm bp _ _ := hQ13.2.toP
            refine J_iconst (v := 1) dX9_isCompare_113 (by decide) ?_
            refine J_ireturn dX9_isCompare_114 rfl rfl (by decide) (by decide) ?_
            have e0 : ¬ cmpT (tk (p k).2.1) = 0 := by rw [hop]; decide
            have e1 : (cmpW tk p) k = (true, (p ((p k).2.1 + 1)).2.1, (p k).2.2 ++ ((p ((p k).2.1 + 1)).2.2 ++ [(cmpT 31, 0)])) := by
              simp only [cmpW]; rw [bnd_t h5, if_neg e0, bnd_t h101, hop]; rfl
            rw [e1]
            have e2 : putP (emP (emP P (p k).2.2) (p ((p k).2.1 + 1)).2.2) (m + (p k).2.2.length + (p ((p k).2.1 + 1)).2.2.length) 107 0 = emP P ((p k).2.2 ++ ((p ((p k).2.1 + 1)).2.2 ++ [(cmpT 31, 0)])) := by
              rw [emP_app, emP_app]
              exact put_em hm3 (by omega) rfl rfl
            rw [e2] at hN_13
            exact ⟨rfl, rfl, d, _, fun _ => ⟨rfl, rfl⟩, hM_13, hN_13, ((s11.trans hs_12).trans hs_13)⟩
          · refine J_iconst (v := 0) dX9_isCompare_104 (by decide) ?_
            refine J_ireturn dX9_isCompare_105 rfl rfl (by decide) (by decide) ?_
            have e0 : ¬ cmpT (tk (p k).2.1) = 0 := by rw [hop]; decide
            have e1 : (cmpW tk p) k = (false, (p ((p k).2.1 + 1)).2.1, (p k).2.2 ++ (p ((p k).2.1 + 1)).2.2) := by
              simp only [cmpW]; rw [bnd_t h5, if_neg e0, bnd_f h101]; simp only [Bool.not_eq_true] at h101; rw [h101]
            rw [e1]
            exact ⟨rfl, rfl, _, _, fun z => (Bool.false_ne_true z).elim, hM_12, hN_12, (s11.trans hs_12)⟩
        · first | exact absurd h81 (by decide) | exact absurd (by decide) h81
    · have hop : tk (p k).2.1 = 30 := (htv.eq g0_.2.1 (v := 30) (by decide)).mp h23
      have hk3 : (p k).2.1 + 1 < tok := hnx _ g0_.2.1 (by rw [hop]; decide) (by rw [hop]; decide)
      have g1 := okp _ hk3
      refine J_bipush (v := 106) dX9_isCompare_26 (by decide) ?_
      refine J_goto (tgt := 78) dX9_isCompare_28 rfl ?_
      refine J_istore_n (L' := [(3, _), (2, _), (0, _), (1, _)]) dX9_isCompare_78 rfl (by decide) rfl ?_
      refine J_iload_n dX9_isCompare_79 rfl rfl ?_
      refine J_iconst (v := -1) dX9_isCompare_80 (by decide) ?_
      refine J_icmp_ne (tgt := 86) dX9_isCompare_81 rfl (fun h81 => ?_) (fun h81 => ?_)
      · refine J_aload_n dX9_isCompare_86 rfl rfl ?_
        refine J_dup dX9_isCompare_87 rfl ?_
        refine J_getf dX9_isCompare_88 fl_X9_305 (hM_1.at 0 rfl) rfl ?_
        refine J_iconst (v := 1) dX9_isCompare_91 (by decide) ?_
        refine J_iadd dX9_isCompare_92 ?_
        refine J_putf dX9_isCompare_93 fp_X9_305 (fun _ => ⟨rfl, rfl⟩) (hM_1.at 0 rfl) (Nat.le_of_ble_eq_true rfl) ?_
        refine J_genA (wM_s0_9 hM_1 _) (((xx_pf.rf (bm := bm) (bp := bp)).trans hs_1).put (by omega) (by omega) _) (fun A14 w14 s14 o14 => ?_)
        have w14N := hN_1.o2 o14 (m := 9) rfl (by omega)
        have u14 := w14
        rw [pa_up (M := M) (k := (p k).2.1) (d := d) (k2 := (p k).2.1 + 1) (x := (paM M (p k).2.1 d).1 9 + 1) (nI_1 _)] at u14
        refine J_aload_n dX9_isCompare_96 rfl rfl ?_
        refine J_aload_n dX9_isCompare_97 rfl rfl ?_
        refine J_callVw (As := [_]) dX9_isCompare_98 ml_X9_340 cal_X9_isSum im_X9_isSum se_X9_isSum (u14.at 0 rfl) rfl rfl rfl (Nat.le_of_ble_eq_true rfl) ⟨by omega, by show 8 + (3 + 11) + _ ≤ _; omega⟩ ⟨by decide, by decide⟩ (hp _ _ _ _ ((p k).2.1 + 1) (m + (p k).2.2.length) htv u14 w14N hm2 (by omega) hk3) (fun A15 hQ15 => ?_)
        obtain ⟨d_15, P_15, hf_15, hM_15, hN_15, hs_15⟩ := hQ15
        refine J_ifb_ne (tgt := 106) dX9_isCompare_101 rfl (fun h101 => ?_) (fun h101 => ?_)
        · obtain ⟨hd_15, rfl⟩ := hf_15 h101
          rw [hd_15] at hM_15
          have hm3 := emP_10 (p ((p k).2.1 + 1)).2.2 _ hm2
          refine J_aload_n dX9_isCompare_106 rfl rfl ?_
          refine J_aload_n dX9_isCompare_107 rfl rfl ?_
          refine J_iload_n dX9_isCompare_108 rfl rfl ?_
          refine J_iconst (v := 0) dX9_isCompare_109 (by decide) ?_
          refine J_callVw (As := [_, _, _]) dX9_isCompare_110 ml_X9_321 cal_X9_put im_X9_put se_X9_put (hM_15.at 0 rfl) rfl rfl rfl (Nat.le_of_ble_eq_true rfl) ⟨by omega, by show 8 + (4 + 11) + _ ≤ _; omega⟩ ⟨by decide, by decide⟩ (c_X9_put (k := m + (p k).2.2.length + (p ((p k).2.1 + 1)).2.2.length) hst hM_15 hN_15 _ _ hm3 (by omega)) (fun A16 hQ16 => ?_)
          have hN_16 := hQ16.1
          have hM_16 := layM_sP hM_15 hQ16.2 hb48
          have hs_16 : xx_pf bm bp _ _ := hQ16.2.toP
          refine J_iconst (v := 1) dX9_isCompare_113 (by decide) ?_
          refine J_ireturn dX9_isCompare_114 rfl rfl (by decide) (by decide) ?_
          have e0 : ¬ cmpT (tk (p k).2.1) = 0 := by rw [hop]; decide
          have e1 : (cmpW tk p) k = (true, (p ((p k).2.1 + 1)).2.1, (p k).2.2 ++ ((p ((p k).2.1 + 1)).2.2 ++ [(cmpT 30, 0)])) := by
            simp only [cmpW]; rw [bnd_t h5, if_neg e0, bnd_t h101, hop]; rfl
          rw [e1]
          have e2 : putP (emP (emP P (p k).2.2) (p ((p k).2.1 + 1)).2.2) (m + (p k).2.2.length + (p ((p k).2.1 + 1)).2.2.length) 106 0 = emP P ((p k).2.2 ++ ((p ((p k).2.1 + 1)).2.2 ++ [(cmpT 30, 0)])) := by
            rw [emP_app, emP_app]
            exact put_em hm3 (by omega) rfl rfl
          rw [e2] at hN_16
          exact ⟨rfl, rfl, d, _, fun _ => ⟨rfl, rfl⟩, hM_16, hN_16, ((s14.trans hs_15).trans hs_16)⟩
        · refine J_iconst (v := 0) dX9_isCompare_104 (by decide) ?_
          refine J_ireturn dX9_isCompare_105 rfl rfl (by decide) (by decide) ?_
          have e0 : ¬ cmpT (tk (p k).2.1) = 0 := by rw [hop]; decide
          have e1 : (cmpW tk p) k = (false, (p ((p k).2.1 + 1)).2.1, (p k).2.2 ++ (p ((p k).2.1 + 1)).2.2) := by
            simp only [cmpW]; rw [bnd_t h5, if_neg e0, bnd_f h101]; simp only [Bool.not_eq_true] at h101; rw [h101]
          rw [e1]
          exact ⟨rfl, rfl, _, _, fun z => (Bool.false_ne_true z).elim, hM_15, hN_15, (s14.trans hs_15)⟩
      · first | exact absurd h81 (by decide) | exact absurd (by decide) h81
  · refine J_iconst (v := 0) dX9_isCompare_8 (by decide) ?_
    refine J_ireturn dX9_isCompare_9 rfl rfl (by decide) (by decide) ?_
    have e1 : (cmpW tk p) k = (false, (p k).2.1, (p k).2.2) := by
      simp only [cmpW]; rw [bnd_f h5]; simp only [Bool.not_eq_true] at h5; rw [← h5]
    rw [e1]
    exact ⟨rfl, rfl, _, _, fun z => (Bool.false_ne_true z).elim, hM_1, hN_1, ((xx_pf.rf (bm := bm) (bp := bp)).trans hs_1)⟩
theorem trC_ok : ∀ t, t < 39 → ¬ cntT t = 10 → trC (cntT t) = nI (kdR t) := by decide +kernel
set_option maxHeartbeats 2000000 in
theorem c_X9_isOfSide (hst : l.stackTraces = false) (hb48 : bm + 48 ≤ bp) (h401 : tok ≤ 401) (hnx : nxt tk tok) {b0 d m : Nat} (htv : tkV tk tok M) (hM : xx_w bm (layM b0 vL bn ba bm (paM M k d)) A) (hN : xx_w bp (layN nl bp P) A) (hm : P.1 10 = nI m) (hmk : m ≤ k) (hk : k < tok) (h10 : ¬ cntT (tk k) = 10) {x : Int32} (hx : x = nI (kdR (tk k))) : xx_C G l yX9_isOfSide mX9_isOfSide 1 23 0 0 [.ref bm, .ref bp, .int x] A n (prQ bm bp b0 bn ba n vL nl M P d (sidW tk (cntT (tk k)) k) A) := by
  have hk3 : k + 1 < tok := hnx _ hk (cntT_n h10).1 (cntT_n h10).2
  have hkk := htv.2 (k + 1) hk3
  have hyy : trC (cntT (tk k)) = x := (trC_ok _ (htv.2 k hk).2 h10).trans hx.symm
  refine J_C hst (by decide +kernel) rfl rfl rfl (Nat.le_of_ble_eq_true rfl) ?_
  show xx_J _ _ _ _ _ _ _ _ 0 [(0, _), (1, _), (2, _)] [] _ _ _ _
  refine J_aload_n dX9_isOfSide_0 rfl rfl ?_
  refine J_dup dX9_isOfSide_1 rfl ?_
  refine J_getf dX9_isOfSide_2 fl_X9_305 (hM.at 0 rfl) rfl ?_
  refine J_iconst (v := 1) dX9_isOfSide_5 (by decide) ?_
  refine J_iadd dX9_isOfSide_6 ?_
  refine J_putf dX9_isOfSide_7 fp_X9_305 (fun _ => ⟨rfl, rfl⟩) (hM.at 0 rfl) (Nat.le_of_ble_eq_true rfl) ?_
  refine J_genA (wM_s0_9 hM _) ((xx_pf.rf (bm := bm) (bp := bp)).put (by omega) (by omega) _) (fun A1 w1 s1 o1 => ?_)
  have w1N := hN.o2 o1 (m := 9) rfl (by omega)
  have u1 := w1
  rw [pa_up (M := M) (k := k) (d := d) (k2 := k + 1) (x := (paM M k d).1 9 + 1) (nI_1 _)] at u1
  refine J_aload_n dX9_isOfSide_10 rfl rfl ?_
  refine J_aload_n dX9_isOfSide_11 rfl rfl ?_
  refine J_iload_n dX9_isOfSide_12 rfl rfl ?_
  refine J_aload_n dX9_isOfSide_13 rfl rfl ?_
  refine J_getf dX9_isOfSide_14 fl_X9_24 (u1.at 0 rfl) rfl ?_
  refine J_aload_n dX9_isOfSide_17 rfl rfl ?_
  refine J_getf dX9_isOfSide_18 fl_X9_305 (u1.at 0 rfl) rfl ?_
  refine J_ialdN (k + 1) dX9_isOfSide_21 (u1.at 2 rfl) rfl (by omega) (by decide) ?_
  refine J_callVw (As := [_, _, _]) dX9_isOfSide_22 ml_X9_321 cal_X9_put im_X9_put se_X9_put (u1.at 0 rfl) rfl rfl rfl (Nat.le_of_ble_eq_true rfl) ⟨by decide, by decide⟩ ⟨by decide, by decide⟩ (c_X9_put (k := m) hst u1 w1N _ _ hm (by omega)) (fun A2 hQ2 => ?_)
  have hN_2 := hQ2.1
  have hM_2 := layM_sP u1 hQ2.2 hb48
  have hs_2 : xx_pf bm bp _ _ := hQ2.2.toP
  refine J_aload_n dX9_isOfSide_25 rfl rfl ?_
  refine J_bipush (v := 6) dX9_isOfSide_26 (by decide) ?_
  refine J_callVw (As := [_]) dX9_isOfSide_28 ml_X9_308 cal_X9_eat im_X9_eat se_X9_eat (hM_2.at 0 rfl) rfl rfl rfl (Nat.le_of_ble_eq_true rfl) ⟨by decide, by decide⟩ ⟨by decide, by decide⟩ (c_X9_eat (v := 6) (k := k + 1) hst hM_2 rfl (by decide) htv.pa rfl hk3) (fun A3 hQ3 => ?_)
  have hM_3 := hQ3.1
  have hN_3 := hN_2.mf hQ3.2 (m := 9) rfl (fun i hi => by unfold isM; omega)
  have hs_3 : xx_pf bm bp _ _ := hQ3.2.toP
  refine J_ifb_ne (tgt := 43) dX9_isOfSide_31 rfl (fun h31 => ?_) (fun h31 => ?_)
  · rw [eaM_pt h31] at hM_3
    refine J_iconst (v := 1) dX9_isOfSide_43 (by decide) ?_
    refine J_goto (tgt := 48) dX9_isOfSide_44 rfl ?_
    refine J_ireturn dX9_isOfSide_48 rfl rfl (by decide) (by decide) ?_
    have e1 : (sidW tk (cntT (tk k)) k) = (true, k + 2, [(3, cntT (tk k))]) := by
      unfold sidW; rw [if_pos h31]
    rw [e1]
    have e2 : putP P m x (M.2 11 (k + 1)) = emP P [(3, cntT (tk k))] := put_em hm (by omega) hyy (by rw [hkk.1, h31]; rfl)
    have z := hN_3
    rw [show (paM M (k + 1) d).2 11 (k + 1) = M.2 11 (k + 1) from rfl, e2] at z
    exact ⟨rfl, rfl, d, _, fun _ => ⟨rfl, rfl⟩, hM_3, z, ((s1.trans hs_2).trans hs_3)⟩
  · rw [eaM_f h31] at hM_3
    refine J_aload_n dX9_isOfSide_34 rfl rfl ?_
    refine J_bipush (v := 7) dX9_isOfSide_35 (by decide) ?_
    refine J_callVw (As := [_]) dX9_isOfSide_37 ml_X9_308 cal_X9_eat im_X9_eat se_X9_eat (hM_3.at 0 rfl) rfl rfl rfl (Nat.le_of_ble_eq_true rfl) ⟨by decide, by decide⟩ ⟨by decide, by decide⟩ (c_X9_eat (v := 7) (k := k + 1) hst hM_3 rfl (by decide) htv.pa rfl hk3) (fun A4 hQ4 => ?_)
    have hM_4 := hQ4.1
    have hN_4 := hN_3.mf hQ4.2 (m := 9) rfl (fun i hi => by unfold isM; omega)
    have hs_4 : xx_pf bm bp _ _ := hQ4.2.toP
    refine J_ifb_eq (tgt := 47) dX9_isOfSide_40 rfl (fun h40 => ?_) (fun h40 => ?_)
    · rw [eaM_f h40] at hM_4
      refine J_iconst (v := 0) dX9_isOfSide_47 (by decide) ?_
      refine J_ireturn dX9_isOfSide_48 rfl rfl (by decide) (by decide) ?_
      have e1 : (sidW tk (cntT (tk k)) k) = (false, k + 1, []) := by
        unfold sidW; rw [if_neg h31, if_neg h40]
      rw [e1]
      exact ⟨rfl, rfl, _, _, fun z => (Bool.false_ne_true z).elim, hM_4, hN_4, (((s1.trans hs_2).trans hs_3).trans hs_4)⟩
    · rw [eaM_pt h40] at hM_4
      refine J_iconst (v := 1) dX9_isOfSide_43 (by decide) ?_
      refine J_goto (tgt := 48) dX9_isOfSide_44 rfl ?_
      refine J_ireturn dX9_isOfSide_48 rfl rfl (by decide) (by decide) ?_
      have e1 : (sidW tk (cntT (tk k)) k) = (true, k + 2, [(4, cntT (tk k))]) := by
        unfold sidW; rw [if_neg h31, if_pos h40]
      rw [e1]
      have e2 : putP P m x (M.2 11 (k + 1)) = emP P [(4, cntT (tk k))] := put_em hm (by omega) hyy (by rw [hkk.1, h40]; rfl)
      have z := hN_4
      rw [show (paM M (k + 1) d).2 11 (k + 1) = M.2 11 (k + 1) from rfl, e2] at z
      exact ⟨rfl, rfl, d, _, fun _ => ⟨rfl, rfl⟩, hM_4, z, (((s1.trans hs_2).trans hs_3).trans hs_4)⟩
end XSF
