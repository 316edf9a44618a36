/-! THE LAW: act -/
section XLA
variable {G : xx_G} {l : Launch} {A : xx_H} {n : Nat} {k j i q s e t d b h : Nat} {S : sS} {F : xS} {nb r : Nat}
def actQ (G : xx_G) (b h : Nat) : xx_Q := fun r' A' n' => r' = .inl (some (.int 1)) ∧ ∃ S' F' nb' r1, cI G b F' nb' r1 A' ∧ sI G b h S' A' ∧ tiS S' F' (nwV G) nb' r1
set_option maxRecDepth 100000 in
set_option maxHeartbeats 4000000 in
theorem c_L_act (hst : l.stackTraces = false) {x : Int32} (hC : cI G b F nb r A) (hS : sI G b h S A) (hT : tiS S F (nwV G) nb r) : xx_C G l yL_act mL_act 33 800 200 20000 [.ref b, .ref h, .int x] A n (actQ G b h) := by
  have hnw := nwV_lt (G := G)
  have hbd := hT.bd
  refine J_CH hst (by decide +kernel) rfl rfl rfl (Nat.le_of_ble_eq_true rfl) ?_
  show xx_J _ _ _ _ _ _ _ _ 0 [(0, _), (1, _), (2, _)] [] _ _ _ _
  refine J_iload_n dL_act_0 rfl rfl ?_
  refine J_iconst (v := 3) dL_act_1 (by decide) ?_
  refine J_ishr dL_act_2 ?_
  refine J_aload_n dL_act_3 rfl rfl ?_
  refine J_getf dL_act_4 fl_L_70 (hS.W.1) rfl ?_
  rw [hT.1.1]
  refine J_callSr (As := [_, _]) dL_act_7 ml_L_35 cal_L_below sm_L_below rfl rfl (Nat.le_of_ble_eq_true rfl) ⟨by decide, by decide⟩ ⟨by omega, by omega⟩ (c_L_below hst _ (m := nwV G) (by omega) (by omega)) ?_
  obtain ⟨w, hw, ew⟩ : ∃ w, w < nwV G ∧ blw (x >>> ((3 : Int32) &&& 31)) (nwV G) = w := ⟨_, blw_lt (by omega), rfl⟩
  rw [ew]
  refine J_istore_n (L' := [(3, _), (0, _), (1, _), (2, _)]) dL_act_10 rfl (by decide) rfl ?_
  refine J_iload_n dL_act_11 rfl rfl ?_
  refine J_bipush (v := 9) dL_act_12 (by decide) ?_
  refine J_callSr (As := [_, _]) dL_act_14 ml_L_35 cal_L_below sm_L_below rfl rfl (Nat.le_of_ble_eq_true rfl) ⟨by decide, by decide⟩ ⟨by omega, by omega⟩ (c_L_below hst _ (m := 9) (by omega) (by omega)) ?_
  obtain ⟨c9, hc9, ec9⟩ : ∃ c9, c9 < 9 ∧ blw (x) (9) = c9 := ⟨_, blw_lt (by omega), rfl⟩
  rw [ec9]
  have e9 : (nI c9).toInt = c9 := i_n (by omega)
  have hsw17 : (nI c9).toInt = 0 ∨ (nI c9).toInt = 1 ∨ (nI c9).toInt = 2 ∨ (nI c9).toInt = 3 ∨ (nI c9).toInt = 4 ∨ ((nI c9).toInt < 0 ∨ 4 < (nI c9).toInt) := by omega
  rcases hsw17 with hs17 | hs17 | hs17 | hs17 | hs17 | hs17
  · refine J_tableIn (tgt := 52) dL_act_17 (by omega) (by omega) (by rw [hs17]; rfl) rfl ?_
    refine J_iload_n dL_act_52 rfl rfl ?_
    refine J_bipush (v := 6) dL_act_53 (by decide) ?_
    refine J_ishr dL_act_55 ?_
    refine J_iconst (v := 3) dL_act_56 (by decide) ?_
    refine J_callSr (As := [_, _]) dL_act_57 ml_L_35 cal_L_below sm_L_below rfl rfl (Nat.le_of_ble_eq_true rfl) ⟨by decide, by decide⟩ ⟨by omega, by omega⟩ (c_L_below hst _ (m := 3) (by omega) (by omega)) ?_
    obtain ⟨c3, hc3, ec3⟩ : ∃ c3, c3 < 3 ∧ blw (x >>> ((6 : Int32) &&& 31)) (3) = c3 := ⟨_, blw_lt (by omega), rfl⟩
    rw [ec3]
    refine J_if_le (tgt := 65) dL_act_60 rfl (fun h60 => ?_) (fun h60 => ?_)
    · refine J_aload_n dL_act_65 rfl rfl ?_
      refine J_getf dL_act_66 fl_L_130 (hS.W.1) rfl ?_
      refine J_iload_n dL_act_69 rfl rfl ?_
      refine J_aload_n dL_act_70 rfl rfl ?_
      refine J_getf dL_act_71 fl_L_130 (hS.W.1) rfl ?_
      refine J_iload_n dL_act_74 rfl rfl ?_
      refine J_zald (v := S.2.1 6 w) dL_act_75 (hS.W.2.2.2.1) (vp_in_nI (by omega) (by decide)) (by rw [nI_clamp (by omega)]) ?_
      refine J_if_ne (tgt := 83) dL_act_76 rfl (fun h76 => ?_) (fun h76 => ?_)
      · refine J_iconst (v := 0) dL_act_83 (by decide) ?_
        refine J_zastQ w dL_act_84 (hS.W.2.2.2.1) rfl (by omega) (by decide) rfl (fun A9 g9 o9 => ?_)
        have hS9 := hS.out g9 o9
        have hC9 := hC.up (fun z hz => o9 z (by have := hS.hd.1; omega))
        have hT9 := hT.turn hw (g := upd (S.2.1 6) w 0) (fun y _ hy => pk_un hy) (fun y => absurd y h76) (fun y => pk_us)
        have hF9 : F.2 2 (8 * 12 + w) = 0 := by
          rcases hT.2.2.1.2.1 w hw with ⟨y1, y2⟩ | ⟨y1, y2⟩
          · exact absurd y1 h76
          · exact y2
        have hoW := okW_n hT hw
        have ea9 : aTurn F (nI w) = (0, 1) := by unfold aTurn; rw [if_pos hoW.1, hoW.2, hF9]; rfl
        have es9 : sTurn F (nI w) = tuF F (nI w) := if_pos hoW.1
        refine J_aload_n dL_act_85 rfl rfl ?_
        refine J_iload_n dL_act_86 rfl rfl ?_
        refine J_callVz (As := [_]) dL_act_87 ml_L_134 cal_X6_turnIn im_X6_turnIn se_X6_turnIn (hC9.1.at 0 rfl) rfl rfl rfl (Nat.le_of_ble_eq_true rfl) ⟨by decide, by decide⟩ ⟨by omega, by omega⟩ (c_X6_turnIn hst hC9.1 hC9.2.1 _) (lw_q2 hC9 ea9) (fun A11 hQ11 => ?_)
        rw [es9] at hQ11
        have hC11 := hQ11.1
        have hS11 := hS9.cl hQ11.2
        refine J_aload_n dL_act_90 rfl rfl ?_
        refine J_getf dL_act_91 fl_L_130 (hS11.W.1) rfl ?_
        refine J_iload_n dL_act_94 rfl rfl ?_
        refine J_zald (v := 0) dL_act_95 (hS11.W.2.2.2.1) (vp_in_nI (by omega) (by decide)) (by rw [nI_clamp (by omega)]; simp [va_up, upd]) ?_
        refine J_if_ne (tgt := 103) dL_act_96 rfl (fun h96 => ?_) (fun h96 => ?_)
        · first | exact absurd h96 (by decide) | exact absurd (by decide) h96
        · refine J_iconst (v := 1) dL_act_99 (by decide) ?_
          refine J_goto (tgt := 104) dL_act_100 rfl ?_
          refine J_icmp_ne (tgt := 111) dL_act_104 rfl (fun h104 => ?_) (fun h104 => ?_)
          · first | exact absurd h104 (by decide) | exact absurd (by decide) h104
          · refine J_iconst (v := 1) dL_act_107 (by decide) ?_
            refine J_goto (tgt := 112) dL_act_108 rfl ?_
            refine J_ireturn dL_act_112 rfl rfl (by omega) (by omega) ?_
            exact ⟨rfl, _, _, _, _, hC11, hS11, hT9⟩
      · refine J_iconst (v := 1) dL_act_79 (by decide) ?_
        refine J_goto (tgt := 84) dL_act_80 rfl ?_
        refine J_zastQ w dL_act_84 (hS.W.2.2.2.1) rfl (by omega) (by decide) rfl (fun A9 g9 o9 => ?_)
        have hS9 := hS.out g9 o9
        have hC9 := hC.up (fun z hz => o9 z (by have := hS.hd.1; omega))
        have hT9 := hT.turn hw (g := upd (S.2.1 6) w 1) (fun y _ hy => pk_un hy) (fun y => pk_us) (fun y => absurd (h76.symm.trans y) (by decide))
        have hF9 : F.2 2 (8 * 12 + w) = 1 := by
          rcases hT.2.2.1.2.1 w hw with ⟨y1, y2⟩ | ⟨y1, y2⟩
          · exact y2
          · exact absurd (h76.symm.trans y1) (by decide)
        have hoW := okW_n hT hw
        have ea9 : aTurn F (nI w) = (0, 0) := by unfold aTurn; rw [if_pos hoW.1, hoW.2, hF9]; rfl
        have es9 : sTurn F (nI w) = tuF F (nI w) := if_pos hoW.1
        refine J_aload_n dL_act_85 rfl rfl ?_
        refine J_iload_n dL_act_86 rfl rfl ?_
        refine J_callVz (As := [_]) dL_act_87 ml_L_134 cal_X6_turnIn im_X6_turnIn se_X6_turnIn (hC9.1.at 0 rfl) rfl rfl rfl (Nat.le_of_ble_eq_true rfl) ⟨by decide, by decide⟩ ⟨by omega, by omega⟩ (c_X6_turnIn hst hC9.1 hC9.2.1 _) (lw_q2 hC9 ea9) (fun A11 hQ11 => ?_)
        rw [es9] at hQ11
        have hC11 := hQ11.1
        have hS11 := hS9.cl hQ11.2
        refine J_aload_n dL_act_90 rfl rfl ?_
        refine J_getf dL_act_91 fl_L_130 (hS11.W.1) rfl ?_
        refine J_iload_n dL_act_94 rfl rfl ?_
        refine J_zald (v := 1) dL_act_95 (hS11.W.2.2.2.1) (vp_in_nI (by omega) (by decide)) (by rw [nI_clamp (by omega)]; simp [va_up, upd]) ?_
        refine J_if_ne (tgt := 103) dL_act_96 rfl (fun h96 => ?_) (fun h96 => ?_)
        · refine J_iconst (v := 0) dL_act_103 (by decide) ?_
          refine J_icmp_ne (tgt := 111) dL_act_104 rfl (fun h104 => ?_) (fun h104 => ?_)
          · first | exact absurd h104 (by decide) | exact absurd (by decide) h104
          · refine J_iconst (v := 1) dL_act_107 (by decide) ?_
            refine J_goto (tgt := 112) dL_act_108 rfl ?_
            refine J_ireturn dL_act_112 rfl rfl (by omega) (by omega) ?_
            exact ⟨rfl, _, _, _, _, hC11, hS11, hT9⟩
        · first | exact absurd h96 (by decide) | exact absurd (by decide) h96
    · refine J_iconst (v := 1) dL_act_63 (by decide) ?_
      refine J_ireturn dL_act_64 rfl rfl (by omega) (by omega) ?_
      exact ⟨rfl, _, _, _, _, hC, hS, hT⟩
  · refine J_tableIn (tgt := 113) dL_act_17 (by omega) (by omega) (by rw [hs17]; rfl) rfl ?_
    refine J_aload_n dL_act_113 rfl rfl ?_
    refine J_callVr (As := []) dL_act_114 ml_L_138 cal_X7_canPair im_X7_canPair se_X7_canPair (hS.W.1) rfl rfl rfl (Nat.le_of_ble_eq_true rfl) ⟨by decide, by decide⟩ ⟨by omega, by omega⟩ (c_X7_canPair hst hS.W hT.n1 hT.n3 hT.1.1 (by omega)) ?_
    by_cases hcan : canB F (nwV G) nb = true
    · rw [xx_bt (hT.can.mpr hcan)]
      refine J_istore (L' := [(4, _), (3, _), (0, _), (1, _), (2, _)]) dL_act_117 (by decide) rfl ?_
      refine J_iload dL_act_119 rfl ?_
      refine J_if_eq (tgt := 128) dL_act_121 rfl (fun h121 => ?_) (fun h121 => ?_)
      · first | exact absurd h121 (by decide) | exact absurd (by decide) h121
      · refine J_aload_n dL_act_124 rfl rfl ?_
        refine J_ltA (fun lt0 => ?_)
        refine J_callV (As := []) dL_act_125 ml_L_142 cal_X7_pair im_X7_pair se_X7_pair (hS.W.1) rfl rfl rfl (Nat.le_of_ble_eq_true rfl) ⟨by decide, by decide⟩ ⟨by omega, by omega⟩ (c_X7_pair hst hS.W hT.n1 hT.n3 hT.1.1 (by omega) hS.2.2.1 (by omega) (by omega)) (fun E A n _ hq => absurd hq.1 (fun z => nomatch z)) (fun v1 A1 n1 hn1 hQ1 => ?_)
        obtain ⟨er1, ls, f, S1, q1, q2, q3, q4, q5, q6, q7, q8, q9, q10⟩ := hQ1
        cases er1
        obtain ⟨hS1, u1⟩ := hS.pr lt0 q3 q4 q5 q6 q8 q9 q10
        have hC1 := hC.up u1
        obtain ⟨hT1, eN1⟩ := hT.round hcan q1 q2 q9
        have hbd1 := hT1.bd
        refine J_aload_n dL_act_128 rfl rfl ?_
        refine J_callVz (As := []) dL_act_129 ml_L_145 cal_X6_pairRound im_X6_pairRound se_X6_pairRound (hC1.1.at 0 rfl) rfl rfl rfl (Nat.le_of_ble_eq_true rfl) ⟨by decide, by decide⟩ ⟨by omega, by omega⟩ (c_X6_pairRound hst hC1.1 hC1.2.1) (lw_pq hC1 hT1 hcan) (fun A21 hQ21 => ?_)
        have hC21 := hQ21.1
        have hS21 := hS1.cl hQ21.2
        refine J_aload_n dL_act_132 rfl rfl ?_
        refine J_ltA (fun lt1 => ?_)
        refine J_callV (As := []) dL_act_133 ml_L_148 cal_X7_latest im_X7_latest se_X7_latest (hS21.W.1) rfl rfl rfl (Nat.le_of_ble_eq_true rfl) ⟨by decide, by decide⟩ ⟨by omega, by omega⟩ (c_X7_latest hst hS21.W hT1.n1 hT1.n3 (by omega)) (fun E A n _ hq => by obtain ⟨u, f, z, -⟩ := hq; cases z) (fun v8 A8 n8 hn8 hQ8 => ?_)
        obtain ⟨u8, f8, er8, a1, a2, a3, a4, a5⟩ := hQ8
        cases er8
        have hC8 := hC21.up (fun z hz => a5 z (by have := lt1 _ _ hS21.W.1; have := hS21.hd.1; omega))
        have hS8 := hS21.up lt1 a5
        refine J_alen (v := nI (ltI S1 (S1.2.2 1)).length) dL_act_136 a3 (by decide) rfl ?_
        rw [hT1.lt.1]
        refine J_icmp_ne (tgt := 149) dL_act_137 rfl (fun h137 => ?_) (fun h137 => ?_)
        · exact absurd rfl h137
        · refine J_iload dL_act_140 rfl ?_
          refine J_if_eq (tgt := 149) dL_act_142 rfl (fun h142 => ?_) (fun h142 => ?_)
          · first | exact absurd h142 (by decide) | exact absurd (by decide) h142
          · refine J_iconst (v := 1) dL_act_145 (by decide) ?_
            refine J_goto (tgt := 150) dL_act_146 rfl ?_
            refine J_ireturn dL_act_150 rfl rfl (by omega) (by omega) ?_
            exact ⟨rfl, _, _, _, _, hC8, hS8, hT1⟩
    · rw [xx_bf (fun y => hcan (hT.can.mp y))]
      refine J_istore (L' := [(4, _), (3, _), (0, _), (1, _), (2, _)]) dL_act_117 (by decide) rfl ?_
      refine J_iload dL_act_119 rfl ?_
      refine J_if_eq (tgt := 128) dL_act_121 rfl (fun h121 => ?_) (fun h121 => ?_)
      · refine J_aload_n dL_act_128 rfl rfl ?_
        refine J_callVt [] ⟨128, 150, 151, 152⟩ [⟨184, 203, 204, 152⟩, ⟨283, 308, 309, 152⟩] (As := []) dL_act_129 ml_L_145 cal_X6_pairRound im_X6_pairRound se_X6_pairRound (hC.1.at 0 rfl) rfl rfl rfl (Nat.le_of_ble_eq_true rfl) ⟨by decide, by decide⟩ ⟨by omega, by omega⟩ (c_X6_pairRound hst hC.1 hC.2.1) (lw_pn hC hT hcan) rfl rfl (by decide) (by decide) cl_L_152 ca_IS (fun A1 hQ1 => ?_)
        have hC1 := hQ1.1
        have hS1 := hS.cl hQ1.2
        refine J_astore (L' := [(5, _), (4, _), (3, _), (0, _), (1, _), (2, _)]) dL_act_151 (by decide) rfl ?_
        refine J_iload dL_act_153 rfl ?_
        refine J_if_ne (tgt := 162) dL_act_155 rfl (fun h155 => ?_) (fun h155 => ?_)
        · first | exact absurd h155 (by decide) | exact absurd (by decide) h155
        · refine J_iconst (v := 1) dL_act_158 (by decide) ?_
          refine J_goto (tgt := 163) dL_act_159 rfl ?_
          refine J_ireturn dL_act_163 rfl rfl (by omega) (by omega) ?_
          exact ⟨rfl, _, _, _, _, hC1, hS1, hT⟩
      · first | exact absurd h121 (by decide) | exact absurd (by decide) h121
  · refine J_tableIn (tgt := 113) dL_act_17 (by omega) (by omega) (by rw [hs17]; rfl) rfl ?_
    refine J_aload_n dL_act_113 rfl rfl ?_
    refine J_callVr (As := []) dL_act_114 ml_L_138 cal_X7_canPair im_X7_canPair se_X7_canPair (hS.W.1) rfl rfl rfl (Nat.le_of_ble_eq_true rfl) ⟨by decide, by decide⟩ ⟨by omega, by omega⟩ (c_X7_canPair hst hS.W hT.n1 hT.n3 hT.1.1 (by omega)) ?_
    by_cases hcan : canB F (nwV G) nb = true
    · rw [xx_bt (hT.can.mpr hcan)]
      refine J_istore (L' := [(4, _), (3, _), (0, _), (1, _), (2, _)]) dL_act_117 (by decide) rfl ?_
      refine J_iload dL_act_119 rfl ?_
      refine J_if_eq (tgt := 128) dL_act_121 rfl (fun h121 => ?_) (fun h121 => ?_)
      · first | exact absurd h121 (by decide) | exact absurd (by decide) h121
      · refine J_aload_n dL_act_124 rfl rfl ?_
        refine J_ltA (fun lt0 => ?_)
        refine J_callV (As := []) dL_act_125 ml_L_142 cal_X7_pair im_X7_pair se_X7_pair (hS.W.1) rfl rfl rfl (Nat.le_of_ble_eq_true rfl) ⟨by decide, by decide⟩ ⟨by omega, by omega⟩ (c_X7_pair hst hS.W hT.n1 hT.n3 hT.1.1 (by omega) hS.2.2.1 (by omega) (by omega)) (fun E A n _ hq => absurd hq.1 (fun z => nomatch z)) (fun v1 A1 n1 hn1 hQ1 => ?_)
        obtain ⟨er1, ls, f, S1, q1, q2, q3, q4, q5, q6, q7, q8, q9, q10⟩ := hQ1
        cases er1
        obtain ⟨hS1, u1⟩ := hS.pr lt0 q3 q4 q5 q6 q8 q9 q10
        have hC1 := hC.up u1
        obtain ⟨hT1, eN1⟩ := hT.round hcan q1 q2 q9
        have hbd1 := hT1.bd
        refine J_aload_n dL_act_128 rfl rfl ?_
        refine J_callVz (As := []) dL_act_129 ml_L_145 cal_X6_pairRound im_X6_pairRound se_X6_pairRound (hC1.1.at 0 rfl) rfl rfl rfl (Nat.le_of_ble_eq_true rfl) ⟨by decide, by decide⟩ ⟨by omega, by omega⟩ (c_X6_pairRound hst hC1.1 hC1.2.1) (lw_pq hC1 hT1 hcan) (fun A21 hQ21 => ?_)
        have hC21 := hQ21.1
        have hS21 := hS1.cl hQ21.2
        refine J_aload_n dL_act_132 rfl rfl ?_
        refine J_ltA (fun lt1 => ?_)
        refine J_callV (As := []) dL_act_133 ml_L_148 cal_X7_latest im_X7_latest se_X7_latest (hS21.W.1) rfl rfl rfl (Nat.le_of_ble_eq_true rfl) ⟨by decide, by decide⟩ ⟨by omega, by omega⟩ (c_X7_latest hst hS21.W hT1.n1 hT1.n3 (by omega)) (fun E A n _ hq => by obtain ⟨u, f, z, -⟩ := hq; cases z) (fun v8 A8 n8 hn8 hQ8 => ?_)
        obtain ⟨u8, f8, er8, a1, a2, a3, a4, a5⟩ := hQ8
        cases er8
        have hC8 := hC21.up (fun z hz => a5 z (by have := lt1 _ _ hS21.W.1; have := hS21.hd.1; omega))
        have hS8 := hS21.up lt1 a5
        refine J_alen (v := nI (ltI S1 (S1.2.2 1)).length) dL_act_136 a3 (by decide) rfl ?_
        rw [hT1.lt.1]
        refine J_icmp_ne (tgt := 149) dL_act_137 rfl (fun h137 => ?_) (fun h137 => ?_)
        · exact absurd rfl h137
        · refine J_iload dL_act_140 rfl ?_
          refine J_if_eq (tgt := 149) dL_act_142 rfl (fun h142 => ?_) (fun h142 => ?_)
          · first | exact absurd h142 (by decide) | exact absurd (by decide) h142
          · refine J_iconst (v := 1) dL_act_145 (by decide) ?_
            refine J_goto (tgt := 150) dL_act_146 rfl ?_
            refine J_ireturn dL_act_150 rfl rfl (by omega) (by omega) ?_
            exact ⟨rfl, _, _, _, _, hC8, hS8, hT1⟩
    · rw [xx_bf (fun y => hcan (hT.can.mp y))]
      refine J_istore (L' := [(4, _), (3, _), (0, _), (1, _), (2, _)]) dL_act_117 (by decide) rfl ?_
      refine J_iload dL_act_119 rfl ?_
      refine J_if_eq (tgt := 128) dL_act_121 rfl (fun h121 => ?_) (fun h121 => ?_)
      · refine J_aload_n dL_act_128 rfl rfl ?_
        refine J_callVt [] ⟨128, 150, 151, 152⟩ [⟨184, 203, 204, 152⟩, ⟨283, 308, 309, 152⟩] (As := []) dL_act_129 ml_L_145 cal_X6_pairRound im_X6_pairRound se_X6_pairRound (hC.1.at 0 rfl) rfl rfl rfl (Nat.le_of_ble_eq_true rfl) ⟨by decide, by decide⟩ ⟨by omega, by omega⟩ (c_X6_pairRound hst hC.1 hC.2.1) (lw_pn hC hT hcan) rfl rfl (by decide) (by decide) cl_L_152 ca_IS (fun A1 hQ1 => ?_)
        have hC1 := hQ1.1
        have hS1 := hS.cl hQ1.2
        refine J_astore (L' := [(5, _), (4, _), (3, _), (0, _), (1, _), (2, _)]) dL_act_151 (by decide) rfl ?_
        refine J_iload dL_act_153 rfl ?_
        refine J_if_ne (tgt := 162) dL_act_155 rfl (fun h155 => ?_) (fun h155 => ?_)
        · first | exact absurd h155 (by decide) | exact absurd (by decide) h155
        · refine J_iconst (v := 1) dL_act_158 (by decide) ?_
          refine J_goto (tgt := 163) dL_act_159 rfl ?_
          refine J_ireturn dL_act_163 rfl rfl (by omega) (by omega) ?_
          exact ⟨rfl, _, _, _, _, hC1, hS1, hT⟩
      · first | exact absurd h121 (by decide) | exact absurd (by decide) h121
  · refine J_tableIn (tgt := 113) dL_act_17 (by omega) (by omega) (by rw [hs17]; rfl) rfl ?_
    refine J_aload_n dL_act_113 rfl rfl ?_
    refine J_callVr (As := []) dL_act_114 ml_L_138 cal_X7_canPair im_X7_canPair se_X7_canPair (hS.W.1) rfl rfl rfl (Nat.le_of_ble_eq_true rfl) ⟨by decide, by decide⟩ ⟨by omega, by omega⟩ (c_X7_canPair hst hS.W hT.n1 hT.n3 hT.1.1 (by omega)) ?_
    by_cases hcan : canB F (nwV G) nb = true
    · rw [xx_bt (hT.can.mpr hcan)]
      refine J_istore (L' := [(4, _), (3, _), (0, _), (1, _), (2, _)]) dL_act_117 (by decide) rfl ?_
      refine J_iload dL_act_119 rfl ?_
      refine J_if_eq (tgt := 128) dL_act_121 rfl (fun h121 => ?_) (fun h121 => ?_)
      · first | exact absurd h121 (by decide) | exact absurd (by decide) h121
      · refine J_aload_n dL_act_124 rfl rfl ?_
        refine J_ltA (fun lt0 => ?_)
        refine J_callV (As := []) dL_act_125 ml_L_142 cal_X7_pair im_X7_pair se_X7_pair (hS.W.1) rfl rfl rfl (Nat.le_of_ble_eq_true rfl) ⟨by decide, by decide⟩ ⟨by omega, by omega⟩ (c_X7_pair hst hS.W hT.n1 hT.n3 hT.1.1 (by omega) hS.2.2.1 (by omega) (by omega)) (fun E A n _ hq => absurd hq.1 (fun z => nomatch z)) (fun v1 A1 n1 hn1 hQ1 => ?_)
        obtain ⟨er1, ls, f, S1, q1, q2, q3, q4, q5, q6, q7, q8, q9, q10⟩ := hQ1
        cases er1
        obtain ⟨hS1, u1⟩ := hS.pr lt0 q3 q4 q5 q6 q8 q9 q10
        have hC1 := hC.up u1
        obtain ⟨hT1, eN1⟩ := hT.round hcan q1 q2 q9
        have hbd1 := hT1.bd
        refine J_aload_n dL_act_128 rfl rfl ?_
        refine J_callVz (As := []) dL_act_129 ml_L_145 cal_X6_pairRound im_X6_pairRound se_X6_pairRound (hC1.1.at 0 rfl) rfl rfl rfl (Nat.le_of_ble_eq_true rfl) ⟨by decide, by decide⟩ ⟨by omega, by omega⟩ (c_X6_pairRound hst hC1.1 hC1.2.1) (lw_pq hC1 hT1 hcan) (fun A21 hQ21 => ?_)
        have hC21 := hQ21.1
        have hS21 := hS1.cl hQ21.2
        refine J_aload_n dL_act_132 rfl rfl ?_
        refine J_ltA (fun lt1 => ?_)
        refine J_callV (As := []) dL_act_133 ml_L_148 cal_X7_latest im_X7_latest se_X7_latest (hS21.W.1) rfl rfl rfl (Nat.le_of_ble_eq_true rfl) ⟨by decide, by decide⟩ ⟨by omega, by omega⟩ (c_X7_latest hst hS21.W hT1.n1 hT1.n3 (by omega)) (fun E A n _ hq => by obtain ⟨u, f, z, -⟩ := hq; cases z) (fun v8 A8 n8 hn8 hQ8 => ?_)
        obtain ⟨u8, f8, er8, a1, a2, a3, a4, a5⟩ := hQ8
        cases er8
        have hC8 := hC21.up (fun z hz => a5 z (by have := lt1 _ _ hS21.W.1; have := hS21.hd.1; omega))
        have hS8 := hS21.up lt1 a5
        refine J_alen (v := nI (ltI S1 (S1.2.2 1)).length) dL_act_136 a3 (by decide) rfl ?_
        rw [hT1.lt.1]
        refine J_icmp_ne (tgt := 149) dL_act_137 rfl (fun h137 => ?_) (fun h137 => ?_)
        · exact absurd rfl h137
        · refine J_iload dL_act_140 rfl ?_
          refine J_if_eq (tgt := 149) dL_act_142 rfl (fun h142 => ?_) (fun h142 => ?_)
          · first | exact absurd h142 (by decide) | exact absurd (by decide) h142
          · refine J_iconst (v := 1) dL_act_145 (by decide) ?_
            refine J_goto (tgt := 150) dL_act_146 rfl ?_
            refine J_ireturn dL_act_150 rfl rfl (by omega) (by omega) ?_
            exact ⟨rfl, _, _, _, _, hC8, hS8, hT1⟩
    · rw [xx_bf (fun y => hcan (hT.can.mp y))]
      refine J_istore (L' := [(4, _), (3, _), (0, _), (1, _), (2, _)]) dL_act_117 (by decide) rfl ?_
      refine J_iload dL_act_119 rfl ?_
      refine J_if_eq (tgt := 128) dL_act_121 rfl (fun h121 => ?_) (fun h121 => ?_)
      · refine J_aload_n dL_act_128 rfl rfl ?_
        refine J_callVt [] ⟨128, 150, 151, 152⟩ [⟨184, 203, 204, 152⟩, ⟨283, 308, 309, 152⟩] (As := []) dL_act_129 ml_L_145 cal_X6_pairRound im_X6_pairRound se_X6_pairRound (hC.1.at 0 rfl) rfl rfl rfl (Nat.le_of_ble_eq_true rfl) ⟨by decide, by decide⟩ ⟨by omega, by omega⟩ (c_X6_pairRound hst hC.1 hC.2.1) (lw_pn hC hT hcan) rfl rfl (by decide) (by decide) cl_L_152 ca_IS (fun A1 hQ1 => ?_)
        have hC1 := hQ1.1
        have hS1 := hS.cl hQ1.2
        refine J_astore (L' := [(5, _), (4, _), (3, _), (0, _), (1, _), (2, _)]) dL_act_151 (by decide) rfl ?_
        refine J_iload dL_act_153 rfl ?_
        refine J_if_ne (tgt := 162) dL_act_155 rfl (fun h155 => ?_) (fun h155 => ?_)
        · first | exact absurd h155 (by decide) | exact absurd (by decide) h155
        · refine J_iconst (v := 1) dL_act_158 (by decide) ?_
          refine J_goto (tgt := 163) dL_act_159 rfl ?_
          refine J_ireturn dL_act_163 rfl rfl (by omega) (by omega) ?_
          exact ⟨rfl, _, _, _, _, hC1, hS1, hT⟩
      · first | exact absurd h121 (by decide) | exact absurd (by decide) h121
  · refine J_tableIn (tgt := 164) dL_act_17 (by omega) (by omega) (by rw [hs17]; rfl) rfl ?_
    refine J_aload_n dL_act_164 rfl rfl ?_
    refine J_callVr (As := []) dL_act_165 ml_L_154 cal_X7_open im_X7_open se_X7_open (hS.W.1) rfl rfl rfl (Nat.le_of_ble_eq_true rfl) ⟨by decide, by decide⟩ ⟨by omega, by omega⟩ (c_X7_open hst hS.W hT.n1 hT.n3) ?_
    rw [hT.op.1, opN_sum]
    have hle9 := opN_le (F := F) nb
    have en9 : (nI (opN F nb)).toInt = opN F nb := i_n (by omega)
    by_cases ho9 : opN F nb = 0
    · refine J_if_le (tgt := 175) dL_act_168 rfl (fun h168 => ?_) (fun h168 => ?_)
      · refine J_iconst (v := 0) dL_act_175 (by decide) ?_
        refine J_istore (L' := [(4, _), (3, _), (0, _), (1, _), (2, _)]) dL_act_176 (by decide) rfl ?_
        refine J_aload_n dL_act_178 rfl rfl ?_
        refine J_callVz (As := []) dL_act_179 ml_L_157 cal_X7_tellAll im_X7_tellAll se_X7_tellAll (hS.W.1) rfl rfl rfl (Nat.le_of_ble_eq_true rfl) ⟨by decide, by decide⟩ ⟨by omega, by omega⟩ (c_X7_tellAll hst hS.W hT.n1 hT.n3 hS.R hS.2.2.1 hT.b12) (fun _ _ _ hq => hq) (fun A1 hQ1 => ?_)
        obtain ⟨hS1, u1⟩ := hS.tl hQ1.1 hQ1.2
        have hC1 := hC.up u1
        obtain ⟨hT1, ev1⟩ := hT.tellAll hS.2.2.2
        rw [ev1]
        have et0 := tlP_0 (ru := ruG G) (F := F) nb 0 0 (fun q _ hq => opN_0 nb ho9 q (by omega))
        rw [et0] at hT1 ⊢
        refine J_istore (L' := [(5, _), (4, _), (3, _), (0, _), (1, _), (2, _)]) dL_act_182 (by decide) rfl ?_
        refine J_aload_n dL_act_184 rfl rfl ?_
        have he0 : bx_sum (opn (F.2 6)) nb = 0 := by rw [opN_sum, ho9]; rfl
        have eb1 : aTBR (ruG G) nb F = (1, 0) := if_pos he0
        have eb2 : sTBR (ruG G) nb F = F := if_pos he0
        refine J_callVt [⟨128, 150, 151, 152⟩] ⟨184, 203, 204, 152⟩ [⟨283, 308, 309, 152⟩] (As := []) dL_act_185 ml_L_160 cal_X6_tellByRules im_X6_tellByRules se_X6_tellByRules (hC1.1.at 0 rfl) rfl rfl rfl (Nat.le_of_ble_eq_true rfl) ⟨by decide, by decide⟩ ⟨by omega, by omega⟩ (c_X6_tellByRules hst hC1.1 hC1.2.1 ruG_v ruG_c) (lw_x hC1 eb1 (by decide) rfl eb2) rfl rfl (by decide) (by decide) cl_L_152 ca_IS (fun A2 hQ2 => ?_)
        have hC2 := hQ2.1
        have hS2 := hS1.cl hQ2.2
        refine J_astore (L' := [(6, _), (5, _), (4, _), (3, _), (0, _), (1, _), (2, _)]) dL_act_204 (by decide) rfl ?_
        refine J_iload dL_act_206 rfl ?_
        refine J_if_ne (tgt := 215) dL_act_208 rfl (fun h208 => ?_) (fun h208 => ?_)
        · first | exact absurd h208 (by decide) | exact absurd (by decide) h208
        · refine J_iconst (v := 1) dL_act_211 (by decide) ?_
          refine J_goto (tgt := 216) dL_act_212 rfl ?_
          refine J_ireturn dL_act_216 rfl rfl (by omega) (by omega) ?_
          exact ⟨rfl, _, _, _, _, hC2, hS2, hT1⟩
      · exfalso; exact h168 (by rw [i_le, en9, i_0]; omega)
    · refine J_if_le (tgt := 175) dL_act_168 rfl (fun h168 => ?_) (fun h168 => ?_)
      · exfalso; rw [i_le, en9, i_0] at h168; omega
      · refine J_iconst (v := 1) dL_act_171 (by decide) ?_
        refine J_goto (tgt := 176) dL_act_172 rfl ?_
        refine J_istore (L' := [(4, _), (3, _), (0, _), (1, _), (2, _)]) dL_act_176 (by decide) rfl ?_
        refine J_aload_n dL_act_178 rfl rfl ?_
        refine J_callVz (As := []) dL_act_179 ml_L_157 cal_X7_tellAll im_X7_tellAll se_X7_tellAll (hS.W.1) rfl rfl rfl (Nat.le_of_ble_eq_true rfl) ⟨by decide, by decide⟩ ⟨by omega, by omega⟩ (c_X7_tellAll hst hS.W hT.n1 hT.n3 hS.R hS.2.2.1 hT.b12) (fun _ _ _ hq => hq) (fun A1 hQ1 => ?_)
        obtain ⟨hS1, u1⟩ := hS.tl hQ1.1 hQ1.2
        have hC1 := hC.up u1
        obtain ⟨hT1, ev1⟩ := hT.tellAll hS.2.2.2
        rw [ev1]
        refine J_istore (L' := [(5, _), (4, _), (3, _), (0, _), (1, _), (2, _)]) dL_act_182 (by decide) rfl ?_
        refine J_aload_n dL_act_184 rfl rfl ?_
        have hne : ¬ bx_sum (opn (F.2 6)) nb = 0 := by rw [opN_sum, i_eq, en9, i_0]; omega
        have eb1 : aTBR (ruG G) nb F = (0, (tlP (ruG G) nb 0 F 0).2) := if_neg hne
        have eb2 : sTBR (ruG G) nb F = (tlP (ruG G) nb 0 F 0).1 := if_neg hne
        refine J_callVz (As := []) dL_act_185 ml_L_160 cal_X6_tellByRules im_X6_tellByRules se_X6_tellByRules (hC1.1.at 0 rfl) rfl rfl rfl (Nat.le_of_ble_eq_true rfl) ⟨by decide, by decide⟩ ⟨by omega, by omega⟩ (c_X6_tellByRules hst hC1.1 hC1.2.1 ruG_v ruG_c) (lw_q2 hC1 eb1) (fun A41 hQ41 => ?_)
        rw [eb2] at hQ41
        have hC41 := hQ41.1
        have hS41 := hS1.cl hQ41.2
        refine J_iload dL_act_188 rfl ?_
        refine J_icmp_ne (tgt := 202) dL_act_190 rfl (fun h190 => ?_) (fun h190 => ?_)
        · exact absurd rfl h190
        · refine J_iload dL_act_193 rfl ?_
          refine J_if_eq (tgt := 202) dL_act_195 rfl (fun h195 => ?_) (fun h195 => ?_)
          · first | exact absurd h195 (by decide) | exact absurd (by decide) h195
          · refine J_iconst (v := 1) dL_act_198 (by decide) ?_
            refine J_goto (tgt := 203) dL_act_199 rfl ?_
            refine J_ireturn dL_act_203 rfl rfl (by omega) (by omega) ?_
            exact ⟨rfl, _, _, _, _, hC41, hS41, hT1⟩
  · refine J_tableOut (tgt := 217) dL_act_17 hs17 rfl ?_
    refine J_aload_n dL_act_217 rfl rfl ?_
    refine J_ltA (fun lt0 => ?_)
    refine J_callV (As := []) dL_act_218 ml_L_148 cal_X7_latest im_X7_latest se_X7_latest (hS.W.1) rfl rfl rfl (Nat.le_of_ble_eq_true rfl) ⟨by decide, by decide⟩ ⟨by omega, by omega⟩ (c_X7_latest hst hS.W hT.n1 hT.n3 (by omega)) (fun E A n _ hq => by obtain ⟨u, f, z, -⟩ := hq; cases z) (fun v8 A1 n1 hn1 hQ8 => ?_)
    obtain ⟨u8, f8, er8, a1, a2, a3, a4, a5⟩ := hQ8
    cases er8
    obtain ⟨lt1, lt2⟩ := hT.lt
    rw [lt1] at a3 a4
    have hC1 := hC.up (fun z hz => a5 z (by have := lt0 _ _ hS.W.1; have := hS.hd.1; omega))
    have hS1 := hS.up lt0 a5
    have enb : (nI nb).toInt = nb := i_n (by omega)
    refine J_astore (L' := [(4, _), (3, _), (0, _), (1, _), (2, _)]) dL_act_221 (by decide) rfl ?_
    refine J_aload dL_act_223 rfl ?_
    refine J_alen (v := nI nb) dL_act_225 a3 (by decide) rfl ?_
    refine J_if_ne (tgt := 231) dL_act_226 rfl (fun h226 => ?_) (fun h226 => ?_)
    · refine J_iload_n dL_act_231 rfl rfl ?_
      refine J_iconst (v := 5) dL_act_232 (by decide) ?_
      refine J_ishr dL_act_233 ?_
      refine J_aload dL_act_234 rfl ?_
      refine J_alen (v := nI nb) dL_act_236 a3 (by decide) rfl ?_
      have hnb0 : 0 < nb := by rw [i_eq, enb, i_0] at h226; omega
      refine J_callSr (As := [_, _]) dL_act_237 ml_L_35 cal_L_below sm_L_below rfl rfl (Nat.le_of_ble_eq_true rfl) ⟨by decide, by decide⟩ ⟨by omega, by omega⟩ (c_L_below hst _ (m := nb) (by omega) (by omega)) ?_
      obtain ⟨k0, hk0, ek0⟩ : ∃ k0, k0 < nb ∧ blw (x >>> ((5 : Int32) &&& 31)) (nb) = k0 := ⟨_, blw_lt (by omega), rfl⟩
      rw [ek0]
      obtain ⟨a, c, h4, ha, h5, hc, hac⟩ := hT.bt2 hk0
      have ff := a4 k0 hk0
      rw [lt2 k0 hk0] at ff
      obtain ⟨i0, hi0⟩ : ∃ i0, i0 = S.2.2 1 - nb + k0 := ⟨_, rfl⟩
      have f6 := (hT.2.2.2.1.2.2.2 k0 hk0).2.2
      rw [← hi0] at ff f6
      have hiN : i0 < S.2.2 1 := by have := hT.2.2.2.1.1; omega
      have o6 := hT.2.1.2.2.2.2.2.2.2.2 k0 hk0
      refine J_istore (L' := [(5, _), (4, _), (3, _), (0, _), (1, _), (2, _)]) dL_act_240 (by decide) rfl ?_
      refine J_aload dL_act_242 rfl ?_
      refine J_iload dL_act_244 rfl ?_
      refine J_aaldR k0 dL_act_246 (Or.inl rfl) a3 rfl (by omega) (by omega) ff ?_
      refine J_iconst (v := 3) dL_act_247 (by decide) ?_
      refine J_ialdN 3 dL_act_248 (hS1.W.2.2.2.2.2.1 i0 hiN) rfl (by decide) (by decide) ?_
      rw [show S.2.1 (10 + i0) 3 = F.2 6 k0 from f6.symm]
      refine J_if_ge (tgt := 256) dL_act_249 rfl (fun h249 => ?_) (fun h249 => ?_)
      · refine J_iconst (v := 0) dL_act_256 (by decide) ?_
        refine J_istore (L' := [(6, _), (5, _), (4, _), (3, _), (0, _), (1, _), (2, _)]) dL_act_257 (by decide) rfl ?_
        refine J_iload_n dL_act_259 rfl rfl ?_
        refine J_bipush (v := 7) dL_act_260 (by decide) ?_
        refine J_ishr dL_act_262 ?_
        refine J_iconst (v := 3) dL_act_263 (by decide) ?_
        refine J_callSr (As := [_, _]) dL_act_264 ml_L_35 cal_L_below sm_L_below rfl rfl (Nat.le_of_ble_eq_true rfl) ⟨by decide, by decide⟩ ⟨by omega, by omega⟩ (c_L_below hst _ (m := 3) (by omega) (by omega)) ?_
        obtain ⟨oc, hoc, eoc⟩ : ∃ oc, oc < 3 ∧ blw (x >>> ((7 : Int32) &&& 31)) (3) = oc := ⟨_, blw_lt (by omega), rfl⟩
        rw [eoc]
        have hoc3 : nI oc = 0 ∨ nI oc = 1 ∨ nI oc = 2 := by rcases (show oc = 0 ∨ oc = 1 ∨ oc = 2 by omega) with rfl | rfl | rfl <;> decide
        obtain ⟨hok1, hok2⟩ := okB_n hT hk0
        have hocr : 0 ≤ nI oc ∧ nI oc ≤ 2 := by rcases hoc3 with z | z | z <;> rw [z] <;> decide
        refine J_istore (L' := [(7, _), (6, _), (5, _), (4, _), (3, _), (0, _), (1, _), (2, _)]) dL_act_267 (by decide) rfl ?_
        refine J_iload dL_act_269 rfl ?_
        refine J_if_eq (tgt := 283) dL_act_271 rfl (fun h271 => ?_) (fun h271 => ?_)
        · refine J_aload_n dL_act_283 rfl rfl ?_
          refine J_iload dL_act_284 rfl ?_
          refine J_iload dL_act_286 rfl ?_
          have ho6 : ¬ F.2 6 k0 = -1 := fun z => by
            rw [z] at h249
            exact absurd h249 (by decide)
          have ea : aTell nb F (nI k0) (nI oc) = (3, 0) := by
            unfold aTell
            rw [if_pos hok1, if_pos hocr, if_neg (by rw [hok2]; exact ho6)]
          have es : sTell F (nI k0) (nI oc) = F := by
            unfold sTell
            rw [if_pos hok1, if_pos hocr, if_neg (by rw [hok2]; exact ho6)]
          refine J_callVt [⟨128, 150, 151, 152⟩, ⟨184, 203, 204, 152⟩] ⟨283, 308, 309, 152⟩ [] (As := [_, _]) dL_act_288 ml_L_163 cal_X6_tell im_X6_tell se_X6_tell (hC1.1.at 0 rfl) rfl rfl rfl (Nat.le_of_ble_eq_true rfl) ⟨by decide, by decide⟩ ⟨by omega, by omega⟩ (c_X6_tell hst hC1.1 hC1.2.1 _ _) (lw_x hC1 ea (by decide) rfl es) rfl rfl (by decide) (by decide) cl_L_152 ca_IS (fun A2 hQ2 => ?_)
          have hC2 := hQ2.1
          have hS2 := hS1.cl hQ2.2
          refine J_astore (L' := [(8, _), (7, _), (6, _), (5, _), (4, _), (3, _), (0, _), (1, _), (2, _)]) dL_act_309 (by decide) rfl ?_
          refine J_iload dL_act_311 rfl ?_
          refine J_if_ne (tgt := 320) dL_act_313 rfl (fun h313 => ?_) (fun h313 => ?_)
          · first | exact absurd h313 (by decide) | exact absurd (by decide) h313
          · refine J_iconst (v := 1) dL_act_316 (by decide) ?_
            refine J_goto (tgt := 321) dL_act_317 rfl ?_
            refine J_ireturn dL_act_321 rfl rfl (by omega) (by omega) ?_
            exact ⟨rfl, _, _, _, _, hC2, hS2, hT⟩
        · first | exact absurd h271 (by decide) | exact absurd (by decide) h271
      · refine J_iconst (v := 1) dL_act_252 (by decide) ?_
        refine J_goto (tgt := 257) dL_act_253 rfl ?_
        refine J_istore (L' := [(6, _), (5, _), (4, _), (3, _), (0, _), (1, _), (2, _)]) dL_act_257 (by decide) rfl ?_
        refine J_iload_n dL_act_259 rfl rfl ?_
        refine J_bipush (v := 7) dL_act_260 (by decide) ?_
        refine J_ishr dL_act_262 ?_
        refine J_iconst (v := 3) dL_act_263 (by decide) ?_
        refine J_callSr (As := [_, _]) dL_act_264 ml_L_35 cal_L_below sm_L_below rfl rfl (Nat.le_of_ble_eq_true rfl) ⟨by decide, by decide⟩ ⟨by omega, by omega⟩ (c_L_below hst _ (m := 3) (by omega) (by omega)) ?_
        obtain ⟨oc, hoc, eoc⟩ : ∃ oc, oc < 3 ∧ blw (x >>> ((7 : Int32) &&& 31)) (3) = oc := ⟨_, blw_lt (by omega), rfl⟩
        rw [eoc]
        have hoc3 : nI oc = 0 ∨ nI oc = 1 ∨ nI oc = 2 := by rcases (show oc = 0 ∨ oc = 1 ∨ oc = 2 by omega) with rfl | rfl | rfl <;> decide
        obtain ⟨hok1, hok2⟩ := okB_n hT hk0
        have hocr : 0 ≤ nI oc ∧ nI oc ≤ 2 := by rcases hoc3 with z | z | z <;> rw [z] <;> decide
        refine J_istore (L' := [(7, _), (6, _), (5, _), (4, _), (3, _), (0, _), (1, _), (2, _)]) dL_act_267 (by decide) rfl ?_
        refine J_iload dL_act_269 rfl ?_
        refine J_if_eq (tgt := 283) dL_act_271 rfl (fun h271 => ?_) (fun h271 => ?_)
        · first | exact absurd h271 (by decide) | exact absurd (by decide) h271
        · refine J_aload dL_act_274 rfl ?_
          refine J_iload dL_act_276 rfl ?_
          refine J_aaldR k0 dL_act_278 (Or.inl rfl) a3 rfl (by omega) (by omega) ff ?_
          refine J_iconst (v := 3) dL_act_279 (by decide) ?_
          refine J_iload dL_act_280 rfl ?_
          have ho6 : F.2 6 k0 = -1 := by
            rcases o6 with z | z | z | z
            · exact z
            · exact absurd (by rw [z]; decide) h249
            · exact absurd (by rw [z]; decide) h249
            · exact absurd (by rw [z]; decide) h249
          refine J_iastQ 3 dL_act_282 (hS1.W.2.2.2.2.2.1 i0 hiN) rfl (by decide) (by decide) (fun A2 g2 o2 => ?_)
          have hS2 : sI G b h (rowT S i0 (nI oc)) A2 := hS1.row hiN g2 o2
          have hC2 := hC1.up (fun z hz => o2 z (by have := hS1.hd.2.2.2 i0 hiN; omega))
          have hT2 : tiS (rowT S i0 (nI oc)) (tellF F k0 a c (nI oc)) (nwV G) nb r := by rw [hi0]; exact hT.tell hk0 ho6 h4 h5 ha hc hoc3
          have eW : tlB F (nI k0) (nI oc) = tellF F k0 a c (nI oc) := by
            show tellF F (wi (nI k0)) (wi (F.2 4 (wi (nI k0)))) (wi (F.2 5 (wi (nI k0)))) (nI oc) = _
            rw [hok2, h4, h5, wi_nI (by omega), wi_nI (by omega)]
          have ea : aTell nb F (nI k0) (nI oc) = (0, bx_sum (opn ((tellF F k0 a c (nI oc)).2 6)) nb) := by
            unfold aTell
            rw [if_pos hok1, if_pos hocr, if_pos (by rw [hok2]; exact ho6), eW]
          have es : sTell F (nI k0) (nI oc) = tellF F k0 a c (nI oc) := by
            unfold sTell
            rw [if_pos hok1, if_pos hocr, if_pos (by rw [hok2]; exact ho6), eW]
          refine J_aload_n dL_act_283 rfl rfl ?_
          refine J_iload dL_act_284 rfl ?_
          refine J_iload dL_act_286 rfl ?_
          refine J_callVz (As := [_, _]) dL_act_288 ml_L_163 cal_X6_tell im_X6_tell se_X6_tell (hC2.1.at 0 rfl) rfl rfl rfl (Nat.le_of_ble_eq_true rfl) ⟨by decide, by decide⟩ ⟨by omega, by omega⟩ (c_X6_tell hst hC2.1 hC2.2.1 _ _) (lw_q2 hC2 ea) (fun A61 hQ61 => ?_)
          rw [es] at hQ61
          have hC61 := hQ61.1
          have hS61 := hS2.cl hQ61.2
          refine J_aload_n dL_act_291 rfl rfl ?_
          refine J_callVr (As := []) dL_act_292 ml_L_154 cal_X7_open im_X7_open se_X7_open (hS61.W.1) rfl rfl rfl (Nat.le_of_ble_eq_true rfl) ⟨by decide, by decide⟩ ⟨by omega, by omega⟩ (c_X7_open hst hS61.W hT2.n1 hT2.n3) ?_
          rw [hT2.op.1]
          refine J_icmp_ne (tgt := 307) dL_act_295 rfl (fun h295 => ?_) (fun h295 => ?_)
          · exact absurd rfl h295
          · refine J_iload dL_act_298 rfl ?_
            refine J_if_eq (tgt := 307) dL_act_300 rfl (fun h300 => ?_) (fun h300 => ?_)
            · first | exact absurd h300 (by decide) | exact absurd (by decide) h300
            · refine J_iconst (v := 1) dL_act_303 (by decide) ?_
              refine J_goto (tgt := 308) dL_act_304 rfl ?_
              refine J_ireturn dL_act_308 rfl rfl (by omega) (by omega) ?_
              exact ⟨rfl, _, _, _, _, hC61, hS61, hT2⟩
    · refine J_iconst (v := 1) dL_act_229 (by decide) ?_
      refine J_ireturn dL_act_230 rfl rfl (by omega) (by omega) ?_
      exact ⟨rfl, _, _, _, _, hC1, hS1, hT⟩
end XLA
