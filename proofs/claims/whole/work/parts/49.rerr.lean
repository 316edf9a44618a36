/-! THE REFERENCE: errorOf -/
section XSJ
variable {G : xx_G} {l : Launch} {A A' : xx_H} {n : Nat} {bm bp bs bn ba : Nat} {vL nl : Nat → Int64} {M M' M1 P P' S : xS} {T : xS} {len i j k q s e t d nt tok v m : Nat} {tk : Nat → Nat}
/-- what an item that means m does to a Plan of nw wrestlers -/
def edE (m nw : Nat) (P : xS) (nl : Nat → Int64) (y : Int64) : Int32 := if m = 0 then 0 else if m = 1 then nwE nl y nw else if m = 2 then (if P.1 4 + 1 ≤ 16 then 0 else 4) else if m = 3 then (if 1 ≤ y.toInt32 ∧ y.toInt32 ≤ 999 then 0 else 5) else (if 0 ≤ y.toInt32 ∧ y.toInt32 ≤ 9 then 0 else 5)
def edL (m nw : Nat) (nl : Nat → Int64) (y : Int64) : Nat → Int64 := if m = 1 then nwL nl y nw else nl
def edP (m nw : Nat) (P : xS) (nl : Nat → Int64) (y : Int64) : xS := if m = 0 then P else if m = 1 then nwP P nl y nw else if m = 2 then s_up P 4 (P.1 4 + 1) else if m = 3 then a_up P 2 (upd (P.2 2) (nw - 1) y.toInt32) else a_up P 3 (upd (P.2 3) (m - 4) y.toInt32)
theorem c_X9_errorOf (hst : l.stackTraces = false) (hb48 : bm + 48 ≤ bp) {b0 : Nat} (hM : xx_w bm (layM b0 vL bn ba bm M) A) (hN : xx_w bp (layN nl bp P) A) {nw : Nat} (hn : P.1 0 = nI nw) (h12 : nw ≤ 12) {x : Int32} (hx : x = nI i) (hi : i < 401) (hmn : M.2 13 i = nI m) (hm6 : m ≤ 6) (h3 : m = 3 → 1 ≤ nw) : xx_C G l yX9_errorOf mX9_errorOf 1 24 0 0 [.ref bm, .ref bp, .int x] A n (xx_wr (some (.int (edE m nw P nl (vL i)))) n (fun A' => xx_w bp (layN (edL m nw nl (vL i)) bp (edP m nw P nl (vL i))) A' ∧ xx_same bp (bp + 9) A A')) := by
  refine J_C hst (by decide +kernel) rfl rfl rfl (Nat.le_of_ble_eq_true rfl) ?_
  show xx_J _ _ _ _ _ _ _ _ 0 [(0, _), (1, _), (2, _)] [] _ _ _ _
  refine J_aload_n dX9_errorOf_0 rfl rfl ?_
  refine J_getf dX9_errorOf_1 fl_X9_33 (hM.at 0 rfl) rfl ?_
  refine J_iload_n dX9_errorOf_4 rfl rfl ?_
  refine J_laldN i dX9_errorOf_5 (hM.at 5 rfl) hx (by omega) (by decide) ?_
  refine J_l2i dX9_errorOf_6 rfl ?_
  refine J_istore_n (L' := [(3, _), (0, _), (1, _), (2, _)]) dX9_errorOf_7 rfl (by decide) rfl ?_
  refine J_aload_n dX9_errorOf_8 rfl rfl ?_
  refine J_getf dX9_errorOf_9 fl_X9_30 (hM.at 0 rfl) rfl ?_
  refine J_iload_n dX9_errorOf_12 rfl rfl ?_
  refine J_ialdN i dX9_errorOf_13 (hM.at 4 rfl) hx (by omega) (by decide) ?_
  have hsw14 : ((M.2 13 i)).toInt = 0 ∨ ((M.2 13 i)).toInt = 1 ∨ ((M.2 13 i)).toInt = 2 ∨ ((M.2 13 i)).toInt = 3 ∨ (((M.2 13 i)).toInt < 0 ∨ 3 < ((M.2 13 i)).toInt) := by omega
  rcases hsw14 with hs14 | hs14 | hs14 | hs14 | hs14
  · refine J_tableIn (tgt := 44) dX9_errorOf_14 (by omega) (by omega) (by rw [hs14]; rfl) rfl ?_
    have hmm : m = 0 := by rw [hmn, i_n (by omega)] at hs14; omega
    subst hmm
    refine J_iconst (v := 0) dX9_errorOf_44 (by decide) ?_
    refine J_ireturn dX9_errorOf_45 rfl rfl (by decide) (by decide) ?_
    exact ⟨rfl, rfl, hN, (xx_same.rf (b := bp) (e := bp + 9))⟩
  · refine J_tableIn (tgt := 46) dX9_errorOf_14 (by omega) (by omega) (by rw [hs14]; rfl) rfl ?_
    have hmm : m = 1 := by rw [hmn, i_n (by omega)] at hs14; omega
    subst hmm
    refine J_aload_n dX9_errorOf_46 rfl rfl ?_
    refine J_aload_n dX9_errorOf_47 rfl rfl ?_
    refine J_aload_n dX9_errorOf_48 rfl rfl ?_
    refine J_getf dX9_errorOf_49 fl_X9_33 (hM.at 0 rfl) rfl ?_
    refine J_iload_n dX9_errorOf_52 rfl rfl ?_
    refine J_laldN i dX9_errorOf_53 (hM.at 5 rfl) hx (by omega) (by decide) ?_
    refine J_callVw (As := [_, _]) dX9_errorOf_54 ml_X9_379 cal_X9_newWrestler im_X9_newWrestler se_X9_newWrestler (hM.at 0 rfl) rfl rfl rfl (Nat.le_of_ble_eq_true rfl) ⟨by decide, by decide⟩ ⟨by decide, by decide⟩ (c_X9_newWrestler hst hN hn h12 _) (fun A1 hQ1 => ?_)
    have w1M := layM_sP hM hQ1.2 hb48
    refine J_ireturn dX9_errorOf_57 rfl rfl (by decide) (by decide) ?_
    exact ⟨rfl, rfl, hQ1.1, ((xx_same.rf (b := bp) (e := bp + 9)).trans (hQ1.2.wide (by omega) (by omega)))⟩
  · refine J_tableIn (tgt := 58) dX9_errorOf_14 (by omega) (by omega) (by rw [hs14]; rfl) rfl ?_
    have hmm : m = 2 := by rw [hmn, i_n (by omega)] at hs14; omega
    subst hmm
    refine J_aload_n dX9_errorOf_58 rfl rfl ?_
    refine J_dup dX9_errorOf_59 rfl ?_
    refine J_getf dX9_errorOf_60 fl_X9_192 (hN.at 0 rfl) rfl ?_
    refine J_iconst (v := 1) dX9_errorOf_63 (by decide) ?_
    refine J_iadd dX9_errorOf_64 ?_
    refine J_putf dX9_errorOf_65 fp_X9_192 (fun _ => ⟨rfl, rfl⟩) (hN.at 0 rfl) (Nat.le_of_ble_eq_true rfl) ?_
    refine J_genA (wN_s0_4 hN _) ((xx_same.rf (b := bp) (e := bp + 9)).put (by omega) (by omega) _) (fun A2 w2 s2 o2 => ?_)
    have w2M := layM_o hM o2 (by unfold isM; omega)
    refine J_aload_n dX9_errorOf_68 rfl rfl ?_
    refine J_getf dX9_errorOf_69 fl_X9_192 (w2.at 0 rfl) rfl ?_
    refine J_bipush (v := 16) dX9_errorOf_72 (by decide) ?_
    refine J_icmp_le (tgt := 81) dX9_errorOf_74 rfl (fun h74 => ?_) (fun h74 => ?_)
    · refine J_iconst (v := 0) dX9_errorOf_81 (by decide) ?_
      refine J_ireturn dX9_errorOf_82 rfl rfl (by decide) (by decide) ?_
      have e1 : edE 2 nw P nl (vL i) = 0 := if_pos h74
      rw [e1]
      exact ⟨rfl, rfl, w2, s2⟩
    · refine J_iconst (v := 4) dX9_errorOf_77 (by decide) ?_
      refine J_goto (tgt := 82) dX9_errorOf_78 rfl ?_
      refine J_ireturn dX9_errorOf_82 rfl rfl (by decide) (by decide) ?_
      have e1 : edE 2 nw P nl (vL i) = 4 := if_neg (fun z => h74 z)
      rw [e1]
      exact ⟨rfl, rfl, w2, s2⟩
  · refine J_tableIn (tgt := 83) dX9_errorOf_14 (by omega) (by omega) (by rw [hs14]; rfl) rfl ?_
    have hmm : m = 3 := by rw [hmn, i_n (by omega)] at hs14; omega
    subst hmm
    refine J_aload_n dX9_errorOf_83 rfl rfl ?_
    refine J_getf dX9_errorOf_84 fl_X9_83 (hN.at 0 rfl) rfl ?_
    refine J_aload_n dX9_errorOf_87 rfl rfl ?_
    refine J_getf dX9_errorOf_88 fl_X9_65 (hN.at 0 rfl) rfl ?_
    refine J_iconst (v := 1) dX9_errorOf_91 (by decide) ?_
    refine J_isub dX9_errorOf_92 ?_
    refine J_iload_n dX9_errorOf_93 rfl rfl ?_
    refine J_iastN (nw - 1) dX9_errorOf_94 (hN.at 2 rfl) (show P.1 0 - 1 = nI (nw - 1) by rw [hn]; show nI nw - nI 1 = _; exact pk_sub (h3 rfl)) (by have := h3 rfl; omega) (by decide) ?_
    refine J_genA (wN_a2 hN _) ((xx_same.rf (b := bp) (e := bp + 9)).put (by omega) (by omega) _) (fun A3 w3 s3 o3 => ?_)
    have w3M := layM_o hM o3 (by unfold isM; omega)
    refine J_iload_n dX9_errorOf_95 rfl rfl ?_
    refine J_iconst (v := 1) dX9_errorOf_96 (by decide) ?_
    refine J_sipush (v := 999) dX9_errorOf_97 (by decide) ?_
    refine J_callSr (As := [_, _, _]) dX9_errorOf_100 ml_X9_68 cal_X9_isIn sm_X9_isIn rfl rfl (Nat.le_of_ble_eq_true rfl) ⟨by decide, by decide⟩ ⟨by decide, by decide⟩ (c_X9_isIn hst _ _ _) ?_
    refine J_ifb_eq (tgt := 110) dX9_errorOf_103 rfl (fun h103 => ?_) (fun h103 => ?_)
    · refine J_iconst (v := 5) dX9_errorOf_110 (by decide) ?_
      refine J_ireturn dX9_errorOf_111 rfl rfl (by decide) (by decide) ?_
      have e1 : edE 3 nw P nl (vL i) = 5 := if_neg h103
      rw [e1]
      exact ⟨rfl, rfl, w3, s3⟩
    · refine J_iconst (v := 0) dX9_errorOf_106 (by decide) ?_
      refine J_goto (tgt := 111) dX9_errorOf_107 rfl ?_
      refine J_ireturn dX9_errorOf_111 rfl rfl (by decide) (by decide) ?_
      have e1 : edE 3 nw P nl (vL i) = 0 := if_pos h103
      rw [e1]
      exact ⟨rfl, rfl, w3, s3⟩
  · refine J_tableOut (tgt := 112) dX9_errorOf_14 hs14 rfl ?_
    have hmm : 4 ≤ m := by rw [hmn, i_n (by omega)] at hs14; omega
    have e4 : ¬ m = 0 ∧ ¬ m = 1 ∧ ¬ m = 2 ∧ ¬ m = 3 := by omega
    have ei4 : M.2 13 i - 4 = nI (m - 4) := by rw [hmn]; show nI m - nI 4 = _; exact pk_sub hmm
    refine J_aload_n dX9_errorOf_112 rfl rfl ?_
    refine J_getf dX9_errorOf_113 fl_X9_180 (hN.at 0 rfl) rfl ?_
    refine J_aload_n dX9_errorOf_116 rfl rfl ?_
    refine J_getf dX9_errorOf_117 fl_X9_30 (hM.at 0 rfl) rfl ?_
    refine J_iload_n dX9_errorOf_120 rfl rfl ?_
    refine J_ialdN i dX9_errorOf_121 (hM.at 4 rfl) hx (by omega) (by decide) ?_
    refine J_iconst (v := 4) dX9_errorOf_122 (by decide) ?_
    refine J_isub dX9_errorOf_123 ?_
    refine J_iload_n dX9_errorOf_124 rfl rfl ?_
    refine J_iastN (m - 4) dX9_errorOf_125 (hN.at 3 rfl) ei4 (by omega) (by decide) ?_
    refine J_genA (wN_a3 hN _) ((xx_same.rf (b := bp) (e := bp + 9)).put (by omega) (by omega) _) (fun A4 w4 s4 o4 => ?_)
    have w4M := layM_o hM o4 (by unfold isM; omega)
    refine J_iload_n dX9_errorOf_126 rfl rfl ?_
    refine J_iconst (v := 0) dX9_errorOf_127 (by decide) ?_
    refine J_bipush (v := 9) dX9_errorOf_128 (by decide) ?_
    refine J_callSr (As := [_, _, _]) dX9_errorOf_130 ml_X9_68 cal_X9_isIn sm_X9_isIn rfl rfl (Nat.le_of_ble_eq_true rfl) ⟨by decide, by decide⟩ ⟨by decide, by decide⟩ (c_X9_isIn hst _ _ _) ?_
    refine J_ifb_eq (tgt := 140) dX9_errorOf_133 rfl (fun h133 => ?_) (fun h133 => ?_)
    · refine J_iconst (v := 5) dX9_errorOf_140 (by decide) ?_
      refine J_ireturn dX9_errorOf_141 rfl rfl (by decide) (by decide) ?_
      have e1 : edE m nw P nl (vL i) = 5 := by unfold edE; rw [if_neg e4.1, if_neg e4.2.1, if_neg e4.2.2.1, if_neg e4.2.2.2, if_neg (fun z => h133 z)]
      rw [e1]
      have e2 : edP m nw P nl (vL i) = a_up P 3 (upd (P.2 3) (m - 4) (vL i).toInt32) := by unfold edP; rw [if_neg e4.1, if_neg e4.2.1, if_neg e4.2.2.1, if_neg e4.2.2.2]
      have e3 : edL m nw nl (vL i) = nl := if_neg e4.2.1
      rw [e2, e3]
      exact ⟨rfl, rfl, w4, s4⟩
    · refine J_iconst (v := 0) dX9_errorOf_136 (by decide) ?_
      refine J_goto (tgt := 141) dX9_errorOf_137 rfl ?_
      refine J_ireturn dX9_errorOf_141 rfl rfl (by decide) (by decide) ?_
      have e1 : edE m nw P nl (vL i) = 0 := by unfold edE; rw [if_neg e4.1, if_neg e4.2.1, if_neg e4.2.2.1, if_neg e4.2.2.2, if_pos h133]
      rw [e1]
      have e2 : edP m nw P nl (vL i) = a_up P 3 (upd (P.2 3) (m - 4) (vL i).toInt32) := by unfold edP; rw [if_neg e4.1, if_neg e4.2.1, if_neg e4.2.2.1, if_neg e4.2.2.2]
      have e3 : edL m nw nl (vL i) = nl := if_neg e4.2.1
      rw [e2, e3]
      exact ⟨rfl, rfl, w4, s4⟩
end XSJ
