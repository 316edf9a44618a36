/-! THE REFERENCE: pairs -/
section XS3
variable {G : xx_G} {l : Launch} {A A' : xx_H} {n : Nat} {bm bp bs bn ba : Nat} {vL nl : Nat → Int64} {M M' M1 P S : xS}
/-- only what a pairing and a rule use has changed -/
def scr (M M' : xS) : Prop := (∀ q, ¬ (q = 14 ∨ q = 15) → M'.1 q = M.1 q) ∧ (∀ q, ¬ (43 ≤ q ∧ q ≤ 47) → M'.2 q = M.2 q)
theorem scr.rf : scr M M := ⟨fun _ _ => rfl, fun _ _ => rfl⟩
theorem scr.trans (h : scr M M1) (h' : scr M1 M') : scr M M' := ⟨fun q hq => (h'.1 q hq).trans (h.1 q hq), fun q hq => (h'.2 q hq).trans (h.2 q hq)⟩
theorem scr.s {i : Nat} {x : Int32} (h : scr M M1) (hi : i = 14 ∨ i = 15) : scr M (s_up M1 i x) := ⟨fun q hq => by
  show va_up M1.1 i x q = _
  simp only [va_up]
  rw [if_neg (by omega)]
  exact h.1 q hq, h.2⟩
theorem scr.a {i : Nat} {x : Nat → Int32} (h : scr M M1) (hi : 43 ≤ i ∧ i ≤ 47) : scr M (a_up M1 i x) := ⟨h.1, fun q hq => by
  show va_up M1.2 i x q = _
  simp only [va_up]
  rw [if_neg (by omega)]
  exact h.2 q hq⟩
set_option maxHeartbeats 4000000 in
theorem c_X9_layRow (hst : l.stackTraces = false) (hM : xx_w bm (layM bp vL bn ba bm M) A) (hN : xx_w bp (layN nl bp P) A) (hS : xx_w bs (layS bs S) A) (hap : apR bm bp bs) {nw : Nat} (hn : P.1 0 = nI nw) (h12 : nw ≤ 12) (hbd : bdP (fS S P) nw) {ls : List Nat} (hls : srt (f_R (fS S P) nw) nw ls)  : xx_C G l yX9_layRow mX9_layRow 5 117 0 0 [.ref bm, .ref bs] A n (xx_wr none n (fun A' => ∃ M', scr M M' ∧ M'.1 14 = nI (lup (fS S P) ls nw).length ∧ lnL (M'.2 43) (lup (fS S P) ls nw) ∧ xx_w bm (layM bp vL bn ba bm M') A' ∧ xx_mf bm A A')) := by
  refine J_C hst (by decide +kernel) rfl rfl rfl (Nat.le_of_ble_eq_true rfl) ?_
  show xx_J _ _ _ _ _ _ _ _ 0 [(0, _), (1, _)] [] _ _ _ _
  refine J_aload_n dX9_layRow_0 rfl rfl ?_
  refine J_iconst (v := 0) dX9_layRow_1 (by decide) ?_
  refine J_putf dX9_layRow_2 fp_X9_108 (fun _ => ⟨rfl, rfl⟩) (hM.at 0 rfl) (Nat.le_of_ble_eq_true rfl) ?_
  refine J_genA (wM_s0_14 hM _) ((xx_mf.rf (bm := bm)).put (by omega) (by omega) _) (fun A1 w1 s1 o1 => ?_)
  have w1N := hN.oP o1 hap (by unfold isM; omega)
  have w1S := hS.oS o1 hap (by unfold isM; omega)
  refine J_iconst (v := 0) dX9_layRow_5 (by decide) ?_
  refine J_istore_n (L' := [(2, _), (0, _), (1, _)]) dX9_layRow_6 rfl (by decide) rfl ?_
  have loop : ∀ i, i ≤ nw → ∀ (x : Int32) (A1 : xx_H) (M1 : xS), (x = nI i) → (xx_w bm (layM bp vL bn ba bm M1) A1) → (xx_w bp (layN nl bp P) A1) → (xx_w bs (layS bs S) A1) → (xx_mf bm A A1) → (scr M M1) → (M1.1 14 = nI (lup (fS S P) ls i).length) → (lnL (M1.2 43) (lup (fS S P) ls i)) → xx_J G l mX9_layRow 5 117 0 0 (xx_wr none n (fun A' => ∃ M', scr M M' ∧ M'.1 14 = nI (lup (fS S P) ls nw).length ∧ lnL (M'.2 43) (lup (fS S P) ls nw) ∧ xx_w bm (layM bp vL bn ba bm M') A' ∧ xx_mf bm A A')) 7 [(2, .int x), (0, .ref bm), (1, .ref bs)] [] A1 n 0 0 := by
    refine xx_dn ?_ ?_
    · intro x  A1  M1  hx hM1 hN1 hS1 hs1 hsc hz hl
      have hlen := hls.len
      have ep : (P.1 0).toInt = nw := by rw [hn]; exact i_n (by omega)
      have ex : x.toInt = nw := by rw [hx]; exact i_n (by omega)
      refine J_iload_n dX9_layRow_7 rfl rfl ?_
      refine J_aload_n dX9_layRow_8 rfl rfl ?_
      refine J_getf dX9_layRow_9 fl_X9_20 (hM1.at 0 rfl) rfl ?_
      refine J_getf dX9_layRow_12 fl_X9_65 (hN1.at 0 rfl) rfl ?_
      refine J_icmp_ge (tgt := 63) dX9_layRow_15 rfl (fun h15 => ?_) (fun h15 => ?_)
      · refine J_return dX9_layRow_63 rfl (by decide) (by decide) ?_
        exact ⟨rfl, rfl, M1, hsc, hz, hl, hM1, hs1⟩
      · first | (exfalso; simp only [i_lt, i_le, i_eq, i_0, i_1, i_2, i_3, i_4, i_5, i_6, i_8, i_9, i_10, i_12, i_16, i_20, i_m1, i_400, i_2000] at h15; omega) | (exfalso; simp only [s_up, a_up, va_up, i_lt, i_le, i_eq, i_0, i_1, i_2, i_3, i_4, i_5, i_6, i_8, i_9, i_10, i_12, i_16, i_20, i_m1, i_400, i_2000, ↓reduceIte, Nat.reduceEqDiff] at h15; omega)
    · intro i hii ih x  A1  M1  hx hM1 hN1 hS1 hs1 hsc hz hl
      have hlen := hls.len
      have ep : (P.1 0).toInt = nw := by rw [hn]; exact i_n (by omega)
      have ex : x.toInt = i := by rw [hx]; exact i_n (by omega)
      refine J_iload_n dX9_layRow_7 rfl rfl ?_
      refine J_aload_n dX9_layRow_8 rfl rfl ?_
      refine J_getf dX9_layRow_9 fl_X9_20 (hM1.at 0 rfl) rfl ?_
      refine J_getf dX9_layRow_12 fl_X9_65 (hN1.at 0 rfl) rfl ?_
      refine J_icmp_ge (tgt := 63) dX9_layRow_15 rfl (fun h15 => ?_) (fun h15 => ?_)
      · first | (exfalso; simp only [i_lt, i_le, i_eq, i_0, i_1, i_2, i_3, i_4, i_5, i_6, i_8, i_9, i_10, i_12, i_16, i_20, i_m1, i_400, i_2000] at h15; omega) | (exfalso; simp only [s_up, a_up, va_up, i_lt, i_le, i_eq, i_0, i_1, i_2, i_3, i_4, i_5, i_6, i_8, i_9, i_10, i_12, i_16, i_20, i_m1, i_400, i_2000, ↓reduceIte, Nat.reduceEqDiff] at h15; omega)
      · refine J_aload_n dX9_layRow_18 rfl rfl ?_
        refine J_aload_n dX9_layRow_19 rfl rfl ?_
        refine J_iload_n dX9_layRow_20 rfl rfl ?_
        refine J_callVr (As := [_, _]) dX9_layRow_21 ml_X9_111 cal_X9_at im_X9_at se_X9_at (hM1.at 0 rfl) rfl rfl rfl (Nat.le_of_ble_eq_true rfl) ⟨by decide, by decide⟩ ⟨by decide, by decide⟩ (c_X9_at hst hM1 hN1 hS1 hn h12 hbd hls hx hii) ?_
        refine J_istore_n (L' := [(3, _), (2, _), (0, _), (1, _)]) dX9_layRow_24 rfl (by decide) rfl ?_
        refine J_aload_n dX9_layRow_25 rfl rfl ?_
        refine J_getf dX9_layRow_26 fl_X9_93 (hS1.at 0 rfl) rfl ?_
        refine J_iload_n dX9_layRow_29 rfl rfl ?_
        refine J_zaldN (ls.getD i 0) dX9_layRow_30 (hS1.at 9 rfl) rfl (by have := hls.lt hii; omega) (by decide) ?_
        refine J_if_eq (tgt := 37) dX9_layRow_31 rfl (fun h31 => ?_) (fun h31 => ?_)
        · have e8 : f_at (fS S P) 8 (ls.getD i 0) = if S.2 9 (ls.getD i 0) = 0 then 1 else 0 := fS_c (by have := hls.lt hii; omega)
          have hin : isI (fS S P) (ls.getD i 0) = true := decide_eq_true (by rw [e8, if_pos h31]; decide)
          refine J_aload_n dX9_layRow_37 rfl rfl ?_
          refine J_getf dX9_layRow_38 fl_X9_47 (hM1.at 0 rfl) rfl ?_
          refine J_aload_n dX9_layRow_41 rfl rfl ?_
          refine J_getf dX9_layRow_42 fl_X9_108 (hM1.at 0 rfl) rfl ?_
          refine J_iload_n dX9_layRow_45 rfl rfl ?_
          refine J_iastN (lup (fS S P) ls i).length dX9_layRow_46 (hM1.at 6 rfl) hz (by have := lup_len (F := (fS S P)) (ls := ls) (i := i); omega) (by decide) ?_
          refine J_genA (wM_a43 hM1 _) (hs1.put (by omega) (by omega) _) (fun A52 w52 s52 o52 => ?_)
          have w52N := hN1.oP o52 hap (by unfold isM; omega)
          have w52S := hS1.oS o52 hap (by unfold isM; omega)
          refine J_aload_n dX9_layRow_47 rfl rfl ?_
          refine J_dup dX9_layRow_48 rfl ?_
          refine J_getf dX9_layRow_49 fl_X9_108 (w52.at 0 rfl) rfl ?_
          refine J_iconst (v := 1) dX9_layRow_52 (by decide) ?_
          refine J_iadd dX9_layRow_53 ?_
          refine J_putf dX9_layRow_54 fp_X9_108 (fun _ => ⟨rfl, rfl⟩) (w52.at 0 rfl) (Nat.le_of_ble_eq_true rfl) ?_
          refine J_genA (wM_s0_14 w52 _) (s52.put (by omega) (by omega) _) (fun A53 w53 s53 o53 => ?_)
          have w53N := w52N.oP o53 hap (by unfold isM; omega)
          have w53S := w52S.oS o53 hap (by unfold isM; omega)
          refine J_iinc (v := _ + 1) (L' := [(2, _), (3, _), (0, _), (1, _)]) dX9_layRow_57 rfl rfl (by decide) rfl ?_
          refine J_goto (tgt := 7) dX9_layRow_60 rfl ?_
          refine xx_J.pick [0, 2, 3] rfl ?_
          exact ih _ _ _ (by rw [hx]; exact nI_1 i) w53 w53N w53S s53 ((hsc.a (by decide)).s (Or.inl rfl)) (by rw [lup_s (by omega), if_pos hin, List.length_append]; show M1.1 14 + 1 = _; rw [hz]; exact nI_1 _) (by rw [lup_s (by omega), if_pos hin]; exact lnL_add hl rfl)
        · have e8 : f_at (fS S P) 8 (ls.getD i 0) = if S.2 9 (ls.getD i 0) = 0 then 1 else 0 := fS_c (by have := hls.lt hii; omega)
          have hin : ¬ isI (fS S P) (ls.getD i 0) = true := fun z => (of_decide_eq_true z) (by rw [e8, if_neg h31])
          refine J_goto (tgt := 57) dX9_layRow_34 rfl ?_
          refine J_iinc (v := _ + 1) (L' := [(2, _), (3, _), (0, _), (1, _)]) dX9_layRow_57 rfl rfl (by decide) rfl ?_
          refine J_goto (tgt := 7) dX9_layRow_60 rfl ?_
          refine xx_J.pick [0, 2, 3] rfl ?_
          exact ih _ _ _ (by rw [hx]; exact nI_1 i) hM1 hN1 hS1 hs1 hsc (by rw [lup_s (by omega), if_neg hin]; exact hz) (by rw [lup_s (by omega), if_neg hin]; exact hl)
  refine xx_J.pick [0, 1, 2] rfl ?_
  exact loop 0 (by omega) _ _ _ rfl w1 w1N w1S s1 (scr.rf.s (Or.inl rfl)) rfl (fun q hq => absurd hq (Nat.not_lt_zero q))
theorem wM_uu {i : Nat} {f g : Nat → Int32} (h : xx_w bm (layM bp vL bn ba bm (a_up (a_up M i f) i g)) A) : xx_w bm (layM bp vL bn ba bm (a_up M i g)) A := by
  rw [a_up_u] at h
  exact h
set_option maxHeartbeats 4000000 in
theorem c_X9_letRest (hst : l.stackTraces = false) (hM : xx_w bm (layM bp vL bn ba bm M) A) (hN : xx_w bp (layN nl bp P) A) (hS : xx_w bs (layS bs S) A) (hap : apR bm bp bs) {nw : Nat} (h12 : nw ≤ 12) {k : Nat} {la : Nat → Nat} (hk : M.1 14 = nI k) (h12k : k ≤ 12) (hln : lnk (M.2 43) la k nw)  : xx_C G l yX9_letRest mX9_letRest 0 0 0 0 [.ref bm, .ref bs] A n (xx_wr none n (fun A' => ∃ M', scr M M' ∧ M'.1 14 = nI (rs_k k) ∧ M'.1 15 = rs_r (fS S P) la k ∧ lnk (M'.2 43) (rs_l (fS S P) la k) (rs_k k) nw ∧ xx_w bm (layM bp vL bn ba bm M') A' ∧ xx_mf bm A A')) := by
  refine J_C hst (by decide +kernel) rfl rfl rfl (Nat.le_of_ble_eq_true rfl) ?_
  show xx_J _ _ _ _ _ _ _ _ 0 [(0, _), (1, _)] [] _ _ _ _
  refine J_aload_n dX9_letRest_0 rfl rfl ?_
  refine J_iconst (v := -1) dX9_letRest_1 (by decide) ?_
  refine J_putf dX9_letRest_2 fp_X9_114 (fun _ => ⟨rfl, rfl⟩) (hM.at 0 rfl) (Nat.le_of_ble_eq_true rfl) ?_
  refine J_genA (wM_s0_15 hM _) ((xx_mf.rf (bm := bm)).put (by omega) (by omega) _) (fun A1 w1 s1 o1 => ?_)
  have w1N := hN.oP o1 hap (by unfold isM; omega)
  have w1S := hS.oS o1 hap (by unfold isM; omega)
  refine J_aload_n dX9_letRest_5 rfl rfl ?_
  refine J_getf dX9_letRest_6 fl_X9_108 (w1.at 0 rfl) rfl ?_
  refine J_iconst (v := 2) dX9_letRest_9 (by decide) ?_
  refine J_irem dX9_letRest_10 (by decide) ?_
  change xx_J _ _ _ _ _ _ _ _ _ _ [.int (M.1 14 - M.1 14 / 2 * 2)] _ _ _ _
  rw [hk, rem2 k h12k]
  refine J_if_ne (tgt := 15) dX9_letRest_11 rfl (fun h11 => ?_) (fun h11 => ?_)
  · have hodd : ¬ k % 2 = 0 := fun z => h11 (by rw [z]; rfl)
    have h1k : nI k - 1 = nI (k - 1) := by
      conv => lhs; rw [show k = (k - 1) + 1 by omega]
      exact sub1 _
    refine J_iconst (v := 0) dX9_letRest_15 (by decide) ?_
    refine J_istore_n (L' := [(2, _), (0, _), (1, _)]) dX9_letRest_16 rfl (by decide) rfl ?_
    refine J_iconst (v := 1) dX9_letRest_17 (by decide) ?_
    refine J_istore_n (L' := [(3, _), (2, _), (0, _), (1, _)]) dX9_letRest_18 rfl (by decide) rfl ?_
    have loop : ∀ i, i ≤ k → ∀ (x : Int32) , (x = nI i) → (1 ≤ i) → xx_J G l mX9_letRest 0 0 0 0 (xx_wr none n (fun A' => ∃ M', scr M M' ∧ M'.1 14 = nI (rs_k k) ∧ M'.1 15 = rs_r (fS S P) la k ∧ lnk (M'.2 43) (rs_l (fS S P) la k) (rs_k k) nw ∧ xx_w bm (layM bp vL bn ba bm M') A' ∧ xx_mf bm A A')) 19 [(3, .int x), (2, .int (nI (chs (rst_r (fS S P) la) i))), (0, .ref bm), (1, .ref bs)] [] A1 n 0 0 := by
      refine xx_dn ?_ ?_
      · intro x   hx h1
        have ek : (M.1 14).toInt = k := by rw [hk]; exact i_n (by omega)
        have ex : x.toInt = k := by rw [hx]; exact i_n (by omega)
        refine J_iload_n dX9_letRest_19 rfl rfl ?_
        refine J_aload_n dX9_letRest_20 rfl rfl ?_
        refine J_getf dX9_letRest_21 fl_X9_108 (w1.at 0 rfl) rfl ?_
        refine J_icmp_ge (tgt := 60) dX9_letRest_24 rfl (fun h24 => ?_) (fun h24 => ?_)
        · have hck := chs_lt (r := rst_r (fS S P) la) k (by omega)
          refine J_aload_n dX9_letRest_60 rfl rfl ?_
          refine J_aload_n dX9_letRest_61 rfl rfl ?_
          refine J_getf dX9_letRest_62 fl_X9_47 (w1.at 0 rfl) rfl ?_
          refine J_iload_n dX9_letRest_65 rfl rfl ?_
          refine J_ialdN (chs (rst_r (fS S P) la) k) dX9_letRest_66 (w1.at 6 rfl) rfl (by omega) (by decide) ?_
          refine J_putf dX9_letRest_67 fp_X9_114 (fun _ => ⟨rfl, rfl⟩) (w1.at 0 rfl) (Nat.le_of_ble_eq_true rfl) ?_
          refine J_genA (wM_s0_15 w1 _) (s1.put (by omega) (by omega) _) (fun A22 w22 s22 o22 => ?_)
          have w22N := w1N.oP o22 hap (by unfold isM; omega)
          have w22S := w1S.oS o22 hap (by unfold isM; omega)
          refine J_iload_n dX9_letRest_70 rfl rfl ?_
          refine J_istore_n (L' := [(3, _), (2, _), (0, _), (1, _)]) dX9_letRest_71 rfl (by decide) rfl ?_
          have loop2 : ∀ j, j ≤ (k - 1) → ∀ (y : Int32) (A2 : xx_H) (hh : Nat → Int32), (y = nI j) → (xx_w bm (layM bp vL bn ba bm (a_up (s_up (s_up M 15 (-1)) 15 (M.2 43 (chs (rst_r (fS S P) la) k))) 43 hh)) A2) → (xx_w bp (layN nl bp P) A2) → (xx_w bs (layS bs S) A2) → (xx_mf bm A A2) → ((chs (rst_r (fS S P) la) k) ≤ j) → (∀ q, q < k → hh q = if (chs (rst_r (fS S P) la) k) ≤ q ∧ q < j then M.2 43 (q + 1) else M.2 43 q) → xx_J G l mX9_letRest 0 0 0 0 (xx_wr none n (fun A' => ∃ M', scr M M' ∧ M'.1 14 = nI (rs_k k) ∧ M'.1 15 = rs_r (fS S P) la k ∧ lnk (M'.2 43) (rs_l (fS S P) la k) (rs_k k) nw ∧ xx_w bm (layM bp vL bn ba bm M') A' ∧ xx_mf bm A A')) 72 [(3, .int y), (2, .int (nI (chs (rst_r (fS S P) la) k))), (0, .ref bm), (1, .ref bs)] [] A2 n 0 0 := by
            refine xx_dn ?_ ?_
            · intro y  A2  hh  hy hM2 hN2 hS2 hs2 hcj hv
              have ek : (M.1 14).toInt = k := by rw [hk]; exact i_n (by omega)
              have ey : (y + 1).toInt = ((k : Nat) : Int) := by rw [hy, nI_1, i_n (by omega)]; omega
              refine J_iload_n dX9_letRest_72 rfl rfl ?_
              refine J_iconst (v := 1) dX9_letRest_73 (by decide) ?_
              refine J_iadd dX9_letRest_74 ?_
              refine J_aload_n dX9_letRest_75 rfl rfl ?_
              refine J_getf dX9_letRest_76 fl_X9_108 (hM2.at 0 rfl) rfl ?_
              refine J_icmp_ge (tgt := 102) dX9_letRest_79 rfl (fun h79 => ?_) (fun h79 => ?_)
              · refine J_aload_n dX9_letRest_102 rfl rfl ?_
                refine J_dup dX9_letRest_103 rfl ?_
                refine J_getf dX9_letRest_104 fl_X9_108 (hM2.at 0 rfl) rfl ?_
                refine J_iconst (v := 1) dX9_letRest_107 (by decide) ?_
                refine J_isub dX9_letRest_108 ?_
                refine J_putf dX9_letRest_109 fp_X9_108 (fun _ => ⟨rfl, rfl⟩) (hM2.at 0 rfl) (Nat.le_of_ble_eq_true rfl) ?_
                refine J_genA (wM_s0_14 hM2 _) (hs2.put (by omega) (by omega) _) (fun A43 w43 s43 o43 => ?_)
                have w43N := hN2.oP o43 hap (by unfold isM; omega)
                have w43S := hS2.oS o43 hap (by unfold isM; omega)
                refine J_return dX9_letRest_112 rfl (by decide) (by decide) ?_
                refine ⟨rfl, rfl, _, ?_, ?_, ?_, ?_, w43, s43⟩
                · exact ((((scr.rf.s (Or.inr rfl)).s (Or.inr rfl)).a (by decide)).s (Or.inl rfl))
                · show M.1 14 - 1 = nI (rs_k k)
                  unfold rs_k
                  rw [if_neg hodd, hk, h1k]
                · show M.2 43 (chs (rst_r (fS S P) la) k) = _
                  unfold rs_r
                  rw [if_neg hodd]
                  exact (hln _ hck).1
                · unfold rs_l rs_k
                  rw [if_neg hodd, if_neg hodd]
                  intro q hq
                  show hh q = _ ∧ _
                  rw [hv q (by omega)]
                  by_cases hc : (chs (rst_r (fS S P) la) k) ≤ q
                  · rw [if_pos ⟨hc, hq⟩]
                    simp only [if_neg (show ¬ q < (chs (rst_r (fS S P) la) k) by omega)]
                    exact hln (q + 1) (by omega)
                  · rw [if_neg (by omega)]
                    simp only [if_pos (show q < (chs (rst_r (fS S P) la) k) by omega)]
                    exact hln q (by omega)
              · first | (exfalso; simp only [i_lt, i_le, i_eq, i_0, i_1, i_2, i_3, i_4, i_5, i_6, i_8, i_9, i_10, i_12, i_16, i_20, i_m1, i_400, i_2000] at h79; omega) | (exfalso; simp only [s_up, a_up, va_up, i_lt, i_le, i_eq, i_0, i_1, i_2, i_3, i_4, i_5, i_6, i_8, i_9, i_10, i_12, i_16, i_20, i_m1, i_400, i_2000, ↓reduceIte, Nat.reduceEqDiff] at h79; omega)
            · intro j hij ih y  A2  hh  hy hM2 hN2 hS2 hs2 hcj hv
              have ek : (M.1 14).toInt = k := by rw [hk]; exact i_n (by omega)
              have ey : (y + 1).toInt = ((j + 1 : Nat) : Int) := by rw [hy, nI_1]; exact i_n (by omega)
              refine J_iload_n dX9_letRest_72 rfl rfl ?_
              refine J_iconst (v := 1) dX9_letRest_73 (by decide) ?_
              refine J_iadd dX9_letRest_74 ?_
              refine J_aload_n dX9_letRest_75 rfl rfl ?_
              refine J_getf dX9_letRest_76 fl_X9_108 (hM2.at 0 rfl) rfl ?_
              refine J_icmp_ge (tgt := 102) dX9_letRest_79 rfl (fun h79 => ?_) (fun h79 => ?_)
              · first | (exfalso; simp only [i_lt, i_le, i_eq, i_0, i_1, i_2, i_3, i_4, i_5, i_6, i_8, i_9, i_10, i_12, i_16, i_20, i_m1, i_400, i_2000] at h79; omega) | (exfalso; simp only [s_up, a_up, va_up, i_lt, i_le, i_eq, i_0, i_1, i_2, i_3, i_4, i_5, i_6, i_8, i_9, i_10, i_12, i_16, i_20, i_m1, i_400, i_2000, ↓reduceIte, Nat.reduceEqDiff] at h79; omega)
              · refine J_aload_n dX9_letRest_82 rfl rfl ?_
                refine J_getf dX9_letRest_83 fl_X9_47 (hM2.at 0 rfl) rfl ?_
                refine J_iload_n dX9_letRest_86 rfl rfl ?_
                refine J_aload_n dX9_letRest_87 rfl rfl ?_
                refine J_getf dX9_letRest_88 fl_X9_47 (hM2.at 0 rfl) rfl ?_
                refine J_iload_n dX9_letRest_91 rfl rfl ?_
                refine J_iconst (v := 1) dX9_letRest_92 (by decide) ?_
                refine J_iadd dX9_letRest_93 ?_
                refine J_ialdN (j + 1) dX9_letRest_94 (hM2.at 6 rfl) (by rw [hy]; exact nI_1 j) (by omega) (by decide) ?_
                refine J_iastN j dX9_letRest_95 (hM2.at 6 rfl) hy (by omega) (by decide) ?_
                refine J_genA (wM_a43 hM2 _) (hs2.put (by omega) (by omega) _) (fun A73 w73 s73 o73 => ?_)
                have w73N := hN2.oP o73 hap (by unfold isM; omega)
                have w73S := hS2.oS o73 hap (by unfold isM; omega)
                refine J_iinc (v := _ + 1) (L' := [(3, _), (2, _), (0, _), (1, _)]) dX9_letRest_96 rfl rfl (by decide) rfl ?_
                refine J_goto (tgt := 72) dX9_letRest_99 rfl ?_
                refine xx_J.pick [0, 1, 2, 3] rfl ?_
                exact ih _ _ _ (by rw [hy]; exact nI_1 j) (wM_uu w73) w73N w73S s73 (by omega) (fun q hq => by
                  have e1 : upd ((a_up (s_up (s_up M 15 (-1)) 15 (M.2 43 (chs (rst_r (fS S P) la) k))) 43 hh).2 43) j ((a_up (s_up (s_up M 15 (-1)) 15 (M.2 43 (chs (rst_r (fS S P) la) k))) 43 hh).2 43 (j + 1)) q = if q = j then hh (j + 1) else hh q := rfl
                  refine e1.trans ?_
                  by_cases hqj : q = j
                  · subst hqj
                    rw [if_pos rfl]
                    by_cases hc : (chs (rst_r (fS S P) la) k) ≤ q
                    · rw [if_pos ⟨hc, by omega⟩]
                      exact (hv (q + 1) (by omega)).trans (if_neg (by omega))
                    · exact absurd hcj hc
                  · rw [if_neg hqj, hv q hq]
                    by_cases hc : (chs (rst_r (fS S P) la) k) ≤ q ∧ q < j
                    · rw [if_pos hc, if_pos ⟨hc.1, by omega⟩]
                    · rw [if_neg hc, if_neg (by omega)])
          refine xx_J.pick [0, 1, 2, 3] rfl ?_
          exact loop2 (chs (rst_r (fS S P) la) k) (by omega) _ _ (M.2 43) rfl (by rw [show a_up (s_up (s_up M 15 (-1)) 15 (M.2 43 (chs (rst_r (fS S P) la) k))) 43 (M.2 43) = (s_up (s_up M 15 (-1)) 15 (M.2 43 (chs (rst_r (fS S P) la) k))) from a_up_id]; exact w22) w22N w22S s22 (Nat.le_refl _) (fun q hq => by rw [if_neg (by omega)])
        · first | (exfalso; simp only [i_lt, i_le, i_eq, i_0, i_1, i_2, i_3, i_4, i_5, i_6, i_8, i_9, i_10, i_12, i_16, i_20, i_m1, i_400, i_2000] at h24; omega) | (exfalso; simp only [s_up, a_up, va_up, i_lt, i_le, i_eq, i_0, i_1, i_2, i_3, i_4, i_5, i_6, i_8, i_9, i_10, i_12, i_16, i_20, i_m1, i_400, i_2000, ↓reduceIte, Nat.reduceEqDiff] at h24; omega)
      · intro i hii ih x   hx h1
        have ek : (M.1 14).toInt = k := by rw [hk]; exact i_n (by omega)
        have ex : x.toInt = i := by rw [hx]; exact i_n (by omega)
        have hci := chs_lt (r := rst_r (fS S P) la) i (by omega)
        refine J_iload_n dX9_letRest_19 rfl rfl ?_
        refine J_aload_n dX9_letRest_20 rfl rfl ?_
        refine J_getf dX9_letRest_21 fl_X9_108 (w1.at 0 rfl) rfl ?_
        refine J_icmp_ge (tgt := 60) dX9_letRest_24 rfl (fun h24 => ?_) (fun h24 => ?_)
        · first | (exfalso; simp only [i_lt, i_le, i_eq, i_0, i_1, i_2, i_3, i_4, i_5, i_6, i_8, i_9, i_10, i_12, i_16, i_20, i_m1, i_400, i_2000] at h24; omega) | (exfalso; simp only [s_up, a_up, va_up, i_lt, i_le, i_eq, i_0, i_1, i_2, i_3, i_4, i_5, i_6, i_8, i_9, i_10, i_12, i_16, i_20, i_m1, i_400, i_2000, ↓reduceIte, Nat.reduceEqDiff] at h24; omega)
        · refine J_aload_n dX9_letRest_27 rfl rfl ?_
          refine J_getf dX9_letRest_28 fl_X9_117 (w1S.at 0 rfl) rfl ?_
          refine J_aload_n dX9_letRest_31 rfl rfl ?_
          refine J_getf dX9_letRest_32 fl_X9_47 (w1.at 0 rfl) rfl ?_
          refine J_iload_n dX9_letRest_35 rfl rfl ?_
          refine J_ialdN i dX9_letRest_36 (w1.at 6 rfl) hx (by omega) (by decide) ?_
          refine J_ialdN (la i) dX9_letRest_37 (w1S.at 5 rfl) (hln i hii).1 (by have := (hln i hii).2; omega) (by decide) ?_
          refine J_aload_n dX9_letRest_38 rfl rfl ?_
          refine J_getf dX9_letRest_39 fl_X9_117 (w1S.at 0 rfl) rfl ?_
          refine J_aload_n dX9_letRest_42 rfl rfl ?_
          refine J_getf dX9_letRest_43 fl_X9_47 (w1.at 0 rfl) rfl ?_
          refine J_iload_n dX9_letRest_46 rfl rfl ?_
          refine J_ialdN (chs (rst_r (fS S P) la) i) dX9_letRest_47 (w1.at 6 rfl) rfl (by omega) (by decide) ?_
          refine J_ialdN (la (chs (rst_r (fS S P) la) i)) dX9_letRest_48 (w1S.at 5 rfl) (hln _ (by omega)).1 (by have := (hln (chs (rst_r (fS S P) la) i) (by omega)).2; omega) (by decide) ?_
          refine J_icmp_gt (tgt := 54) dX9_letRest_49 rfl (fun h49 => ?_) (fun h49 => ?_)
          · have ra : S.2 5 (la i) = rst_r (fS S P) la i := (fS_c (S := S) (P := P) (q := 5) (i := la i) (by have := (hln i (by omega)).2; omega)).symm
            have rb : S.2 5 (la (chs (rst_r (fS S P) la) i)) = rst_r (fS S P) la (chs (rst_r (fS S P) la) i) := (fS_c (S := S) (P := P) (q := 5) (i := la (chs (rst_r (fS S P) la) i)) (by have := (hln (chs (rst_r (fS S P) la) i) (by omega)).2; omega)).symm
            have hcs : ¬ rst_r (fS S P) la i ≤ rst_r (fS S P) la (chs (rst_r (fS S P) la) i) := by rw [← ra, ← rb]; exact Int32.not_le.mpr h49
            refine J_iinc (v := _ + 1) (L' := [(3, _), (2, _), (0, _), (1, _)]) dX9_letRest_54 rfl rfl (by decide) rfl ?_
            refine J_goto (tgt := 19) dX9_letRest_57 rfl ?_
            refine xx_J.pick [0, 1, 2, 3] rfl ?_
            have ec : chs (rst_r (fS S P) la) (i + 1) = chs (rst_r (fS S P) la) i := by simp only [chs]; rw [if_neg (by omega), if_neg hcs]
            have ih2 := ih (x + 1) (by rw [hx]; exact nI_1 i) (by omega)
            rw [ec] at ih2
            exact ih2
          · have ra : S.2 5 (la i) = rst_r (fS S P) la i := (fS_c (S := S) (P := P) (q := 5) (i := la i) (by have := (hln i (by omega)).2; omega)).symm
            have rb : S.2 5 (la (chs (rst_r (fS S P) la) i)) = rst_r (fS S P) la (chs (rst_r (fS S P) la) i) := (fS_c (S := S) (P := P) (q := 5) (i := la (chs (rst_r (fS S P) la) i)) (by have := (hln (chs (rst_r (fS S P) la) i) (by omega)).2; omega)).symm
            have hcs : rst_r (fS S P) la i ≤ rst_r (fS S P) la (chs (rst_r (fS S P) la) i) := by rw [← ra, ← rb]; exact Int32.not_lt.mp h49
            refine J_iload_n dX9_letRest_52 rfl rfl ?_
            refine J_istore_n (L' := [(2, _), (3, _), (0, _), (1, _)]) dX9_letRest_53 rfl (by decide) rfl ?_
            refine J_iinc (v := _ + 1) (L' := [(3, _), (2, _), (0, _), (1, _)]) dX9_letRest_54 rfl rfl (by decide) rfl ?_
            refine J_goto (tgt := 19) dX9_letRest_57 rfl ?_
            refine xx_J.pick [0, 1, 2, 3] rfl ?_
            have ec : chs (rst_r (fS S P) la) (i + 1) = i := by simp only [chs]; rw [if_neg (by omega), if_pos hcs]
            have ih2 := ih (x + 1) (by rw [hx]; exact nI_1 i) (by omega)
            rw [ec, ← hx] at ih2
            exact ih2
    refine xx_J.pick [0, 1, 2, 3] rfl ?_
    exact loop 1 (by omega) _  rfl (by omega)
  · have hev : k % 2 = 0 := by
      have z := h11
      rw [i_eq, i_n (by omega), i_0] at z
      omega
    refine J_return dX9_letRest_14 rfl (by decide) (by decide) ?_
    refine ⟨rfl, rfl, _, scr.rf.s (Or.inr rfl), ?_, ?_, ?_, w1, s1⟩
    · show M.1 14 = _
      unfold rs_k
      rw [if_pos hev]; exact hk
    · show (-1 : Int32) = _
      unfold rs_r
      rw [if_pos hev]
    · unfold rs_l rs_k
      rw [if_pos hev, if_pos hev]
      exact hln
theorem c_X9_rematch (hst : l.stackTraces = false) (hM : xx_w bm (layM bp vL bn ba bm M) A) (hN : xx_w bp (layN nl bp P) A) (hS : xx_w bs (layS bs S) A) {nw : Nat} (h12 : nw ≤ 12) {k : Nat} {la : Nat → Nat} (hln : lnk (M.2 43) la k nw) (h12k : k ≤ 12) {a c : Nat} {x y : Int32} (hx : x = nI a) (ha : a < k) (hy : y = nI c) (hc : c < k) : xx_C G l yX9_rematch mX9_rematch 1 22 0 0 [.ref bm, .ref bs, .int x, .int y] A n (xx_ro (some (.int (nI (if metL (fS S P) la a c = true then 1 else 0)))) A n) := by
  refine J_C hst (by decide +kernel) rfl rfl rfl (Nat.le_of_ble_eq_true rfl) ?_
  show xx_J _ _ _ _ _ _ _ _ 0 [(0, _), (1, _), (2, _), (3, _)] [] _ _ _ _
  refine J_aload_n dX9_rematch_0 rfl rfl ?_
  refine J_aload_n dX9_rematch_1 rfl rfl ?_
  refine J_getf dX9_rematch_2 fl_X9_47 (hM.at 0 rfl) rfl ?_
  refine J_iload_n dX9_rematch_5 rfl rfl ?_
  refine J_ialdN a dX9_rematch_6 (hM.at 6 rfl) hx (by omega) (by decide) ?_
  refine J_aload_n dX9_rematch_7 rfl rfl ?_
  refine J_getf dX9_rematch_8 fl_X9_47 (hM.at 0 rfl) rfl ?_
  refine J_iload_n dX9_rematch_11 rfl rfl ?_
  refine J_ialdN c dX9_rematch_12 (hM.at 6 rfl) hy (by omega) (by decide) ?_
  refine J_callVr (As := [_, _]) dX9_rematch_13 ml_X9_72 cal_X8_met im_X8_met se_X8_met (hS.at 0 rfl) rfl rfl rfl (Nat.le_of_ble_eq_true rfl) ⟨by decide, by decide⟩ ⟨by decide, by decide⟩ (c_X8_met hst hS (hln a ha).1 (by have := (hln a ha).2; omega) (hln c hc).1 (by have := (hln c hc).2; omega)) ?_
  refine J_if_le (tgt := 23) dX9_rematch_16 rfl (fun h16 => ?_) (fun h16 => ?_)
  · have hm : ¬ metL (fS S P) la a c = true := fun z => absurd (of_decide_eq_true z) (Int32.not_lt.mpr h16)
    refine J_iconst (v := 0) dX9_rematch_23 (by decide) ?_
    refine J_ireturn dX9_rematch_24 rfl rfl (by decide) (by decide) ?_
    first | exact ⟨by rw [if_pos hm]; rfl, rfl, rfl⟩ | exact ⟨by rw [if_neg hm]; rfl, rfl, rfl⟩
  · have hm : metL (fS S P) la a c = true := decide_eq_true (Int32.not_le.mp h16)
    refine J_iconst (v := 1) dX9_rematch_19 (by decide) ?_
    refine J_goto (tgt := 24) dX9_rematch_20 rfl ?_
    refine J_ireturn dX9_rematch_24 rfl rfl (by decide) (by decide) ?_
    first | exact ⟨by rw [if_pos hm]; rfl, rfl, rfl⟩ | exact ⟨by rw [if_neg hm]; rfl, rfl, rfl⟩
theorem c_X9_lowest (hst : l.stackTraces = false) {s : Nat} {y : Int32} (hy : y = nI s) (hs : s < 4096) (h0 : s ≠ 0) : xx_C G l yX9_lowest mX9_lowest 0 0 0 0 [.ref bm, .int y] A n (xx_ro (some (.int (nI (low s)))) A n) := by
  subst hy
  obtain ⟨g1, g2, g3⟩ := low_spec (k := 12) hs (by omega) h0
  refine J_C hst (by decide +kernel) rfl rfl rfl (Nat.le_of_ble_eq_true rfl) ?_
  show xx_J _ _ _ _ _ _ _ _ 0 [(0, _), (1, _)] [] _ _ _ _
  refine J_iconst (v := 0) dX9_lowest_0 (by decide) ?_
  refine J_istore_n (L' := [(2, _), (0, _), (1, _)]) dX9_lowest_1 rfl (by decide) rfl ?_
  have loop : ∀ i, i ≤ (low s) → ∀ (x : Int32) , (x = nI i) → xx_J G l mX9_lowest 0 0 0 0 (xx_ro (some (.int (nI (low s)))) A n) 2 [(2, .int x), (0, .ref bm), (1, .int (nI s))] [] A n 0 0 := by
    refine xx_dn ?_ ?_
    · intro x   hx
      subst hx
      have hz : ¬ (nI s >>> (nI (low s) &&& 31)) &&& 1 = 0 := fun z => by have := (is_has (by omega) (by omega)).mp z; rw [g1] at this; cases this
      refine J_iload_n dX9_lowest_2 rfl rfl ?_
      refine J_iload_n dX9_lowest_3 rfl rfl ?_
      refine J_ishr dX9_lowest_4 ?_
      refine J_iconst (v := 1) dX9_lowest_5 (by decide) ?_
      refine J_iand dX9_lowest_6 ?_
      refine J_if_ne (tgt := 16) dX9_lowest_7 rfl (fun h7 => ?_) (fun h7 => ?_)
      · refine J_iload_n dX9_lowest_16 rfl rfl ?_
        refine J_ireturn dX9_lowest_17 rfl rfl (by decide) (by decide) ?_
        exact ⟨rfl, rfl, rfl⟩
      · first | exact absurd h7 hz | exact absurd hz h7
    · intro i hii ih x   hx
      subst hx
      have hz : (nI s >>> (nI i &&& 31)) &&& 1 = 0 := (is_has (by omega) (by omega)).mpr (g3 i hii)
      refine J_iload_n dX9_lowest_2 rfl rfl ?_
      refine J_iload_n dX9_lowest_3 rfl rfl ?_
      refine J_ishr dX9_lowest_4 ?_
      refine J_iconst (v := 1) dX9_lowest_5 (by decide) ?_
      refine J_iand dX9_lowest_6 ?_
      refine J_if_ne (tgt := 16) dX9_lowest_7 rfl (fun h7 => ?_) (fun h7 => ?_)
      · first | exact absurd h7 hz | exact absurd hz h7
      · refine J_iinc (v := _ + 1) (L' := [(2, _), (0, _), (1, _)]) dX9_lowest_10 rfl rfl (by decide) rfl ?_
        refine J_goto (tgt := 2) dX9_lowest_13 rfl ?_
        refine xx_J.pick [0, 1, 2] rfl ?_
        exact ih _  (nI_1 i)
  refine xx_J.pick [0, 1, 2] rfl ?_
  exact loop 0 (by omega) _  rfl
/-- the first of the least -/
def psc (t : Nat → Bool) (g : Nat → Nat) : Nat → Nat → Int32 → Nat → Int32 × Nat
  | 0, _, be, le => (be, le)
  | d + 1, b, be, le => if t b = true then (if g b < le then psc t g d (b + 1) (nI b) (g b) else psc t g d (b + 1) be le) else psc t g d (b + 1) be le
theorem psc_s {t : Nat → Bool} {g : Nat → Nat} {k i : Nat} {be : Int32} {le : Nat} (h : i < k) : psc t g (k - i) i be le = if t i = true then (if g i < le then psc t g (k - (i + 1)) (i + 1) (nI i) (g i) else psc t g (k - (i + 1)) (i + 1) be le) else psc t g (k - (i + 1)) (i + 1) be le := by
  rw [show k - i = (k - (i + 1)) + 1 by omega]
  rfl
theorem psc_eq {t : Nat → Bool} {g : Nat → Nat} {a : Nat} : ∀ d b be le, (psc t g d b be le).2 = mnv t g d b le ∧ (psc t g d b be le).1 = if mnv t g d b le < le then nI (secG t g (mnv t g d b le) a d b) else be := by
  intro d
  induction d with
  | zero => intro b be le; exact ⟨rfl, by show be = if le < le then _ else be; rw [if_neg (Nat.lt_irrefl _)]⟩
  | succ d ih =>
    intro b be le
    simp only [psc, mnv, secG]
    by_cases ht : t b = true
    · simp only [if_pos ht]
      by_cases hg : g b < le
      · simp only [if_pos hg]
        obtain ⟨i1, i2⟩ := ih (b + 1) (nI b) (g b)
        have hle := mnv_le (t := t) (g := g) d (b + 1) (g b)
        refine ⟨i1, ?_⟩
        rw [i2, if_pos (show mnv t g d (b + 1) (g b) < le by omega)]
        by_cases hw : mnv t g d (b + 1) (g b) < g b
        · rw [if_pos hw, if_neg (fun z => by have := z.2; omega)]
        · rw [if_neg hw, if_pos ⟨ht, by omega⟩]
      · simp only [if_neg hg]
        obtain ⟨i1, i2⟩ := ih (b + 1) be le
        refine ⟨i1, ?_⟩
        rw [i2]
        by_cases hw : mnv t g d (b + 1) le < le
        · rw [if_pos hw, if_pos hw, if_neg (fun z => by have := z.2; omega)]
        · rw [if_neg hw, if_neg hw]
    · simp only [if_neg ht]
      obtain ⟨i1, i2⟩ := ih (b + 1) be le
      refine ⟨i1, ?_⟩
      rw [i2]
      by_cases hw : mnv t g d (b + 1) le < le
      · rw [if_pos hw, if_pos hw, if_neg (fun z => ht z.1)]
      · rw [if_neg hw, if_neg hw]
/-- the fewest of the sets below j -/
def fwO (met : Nat → Nat → Bool) (k j : Nat) (fw : Nat → Int32) : Prop := ∀ t, t < j → ∀ p, pcn t 12 = 2 * p → fw t = nI (mr met k p t)
set_option maxHeartbeats 4000000 in
theorem c_X9_partner (hst : l.stackTraces = false) (hM : xx_w bm (layM bp vL bn ba bm M) A) (hN : xx_w bp (layN nl bp P) A) (hS : xx_w bs (layS bs S) A) (hap : apR bm bp bs) {nw : Nat} (h12 : nw ≤ 12) {k : Nat} {la : Nat → Nat} (hk : M.1 14 = nI k) (h12k : k ≤ 12) (hln : lnk (M.2 43) la k nw) {s p : Nat} {y : Int32} (hy : y = nI s) (hs : s < 2 ^ k) (hpc : pcn s 12 = 2 * (p + 1)) (hp6 : p + 1 ≤ 6) (hfw : fwO (metL (fS S P) la) k s (M.2 44)) : xx_C G l yX9_partner mX9_partner 2 45 0 0 [.ref bm, .ref bs, .int y] A n (xx_wr (some (.int (nI (prt (metL (fS S P) la) k p s)))) n (fun A' => xx_w bm (layM bp vL bn ba bm (a_up M 44 (upd (M.2 44) s (nI (mr (metL (fS S P) la) k (p + 1) s))))) A' ∧ xx_mf bm A A')) := by
  subst hy
  obtain ⟨h0, hl1, hl2, hl3, hev⟩ := ev_step h12k hs hpc
  have h4 := pw12 h12k
  refine J_C hst (by decide +kernel) rfl rfl rfl (Nat.le_of_ble_eq_true rfl) ?_
  show xx_J _ _ _ _ _ _ _ _ 0 [(0, _), (1, _), (2, _)] [] _ _ _ _
  refine J_aload_n dX9_partner_0 rfl rfl ?_
  refine J_iload_n dX9_partner_1 rfl rfl ?_
  refine J_callVr (As := [_]) dX9_partner_2 ml_X9_119 cal_X9_lowest im_X9_lowest se_X9_lowest (hM.at 0 rfl) rfl rfl rfl (Nat.le_of_ble_eq_true rfl) ⟨by decide, by decide⟩ ⟨by decide, by decide⟩ (c_X9_lowest hst rfl (by omega) h0) ?_
  refine J_istore_n (L' := [(3, _), (0, _), (1, _), (2, _)]) dX9_partner_5 rfl (by decide) rfl ?_
  refine J_iconst (v := -1) dX9_partner_6 (by decide) ?_
  refine J_istore (L' := [(4, _), (3, _), (0, _), (1, _), (2, _)]) dX9_partner_7 (by decide) rfl ?_
  refine J_bipush (v := 99) dX9_partner_9 (by decide) ?_
  refine J_istore (L' := [(5, _), (4, _), (3, _), (0, _), (1, _), (2, _)]) dX9_partner_11 (by decide) rfl ?_
  refine J_iload_n dX9_partner_13 rfl rfl ?_
  refine J_iconst (v := 1) dX9_partner_14 (by decide) ?_
  refine J_iadd dX9_partner_15 ?_
  refine J_istore (L' := [(6, _), (5, _), (4, _), (3, _), (0, _), (1, _), (2, _)]) dX9_partner_16 (by decide) rfl ?_
  have loop : ∀ i, i ≤ k → ∀ (x be : Int32) (le : Nat) , (x = nI i) → (low s + 1 ≤ i) → (le ≤ 99) → (psc (mr_t s) (mr_g (metL (fS S P) la) k p s) (k - i) i be le = psc (mr_t s) (mr_g (metL (fS S P) la) k p s) (k - (low s + 1)) (low s + 1) (-1) 99) → xx_J G l mX9_partner 2 45 0 0 (xx_wr (some (.int (nI (prt (metL (fS S P) la) k p s)))) n (fun A' => xx_w bm (layM bp vL bn ba bm (a_up M 44 (upd (M.2 44) s (nI (mr (metL (fS S P) la) k (p + 1) s))))) A' ∧ xx_mf bm A A')) 18 [(6, .int x), (5, .int (nI le)), (4, .int be), (3, .int (nI (low s))), (0, .ref bm), (1, .ref bs), (2, .int (nI s))] [] A n 0 0 := by
    refine xx_dn ?_ ?_
    · intro x be  le   hx hlo hl9 hv
      subst hx
      have ek : (M.1 14).toInt = k := by rw [hk]; exact i_n (by omega)
      have ex : (nI k).toInt = k := i_n (by omega)
      refine J_iload dX9_partner_18 rfl ?_
      refine J_aload_n dX9_partner_20 rfl rfl ?_
      refine J_getf dX9_partner_21 fl_X9_108 (hM.at 0 rfl) rfl ?_
      refine J_icmp_ge (tgt := 93) dX9_partner_24 rfl (fun h24 => ?_) (fun h24 => ?_)
      · refine J_aload_n dX9_partner_93 rfl rfl ?_
        refine J_getf dX9_partner_94 fl_X9_50 (hM.at 0 rfl) rfl ?_
        refine J_iload_n dX9_partner_97 rfl rfl ?_
        refine J_iload dX9_partner_98 rfl ?_
        refine J_iastN s dX9_partner_100 (hM.at 7 rfl) rfl (by omega) (by decide) ?_
        refine J_genA (wM_a44 hM _) ((xx_mf.rf (bm := bm)).put (by omega) (by omega) _) (fun A21 w21 s21 o21 => ?_)
        have w21N := hN.oP o21 hap (by unfold isM; omega)
        have w21S := hS.oS o21 hap (by unfold isM; omega)
        refine J_iload dX9_partner_101 rfl ?_
        refine J_ireturn dX9_partner_103 rfl rfl (by decide) (by decide) ?_
        have e9 := psc_eq (t := mr_t s) (g := (mr_g (metL (fS S P) la) k p s)) (a := low s) (k - (low s + 1)) (low s + 1) (-1) 99
        rw [← hv, Nat.sub_self] at e9
        have em : mnv (mr_t s) (mr_g (metL (fS S P) la) k p s) (k - (low s + 1)) (low s + 1) 99 = mr (metL (fS S P) la) k (p + 1) s := rfl
        have el := mr_le (met := (metL (fS S P) la)) h12k (p + 1) s hs hpc
        rw [em, if_pos (by omega)] at e9
        obtain ⟨e1, e2⟩ := e9
        have e1b : le = mr (metL (fS S P) la) k (p + 1) s := e1
        have e2b : be = nI (prt (metL (fS S P) la) k p s) := e2
        exact ⟨by rw [e2b], rfl, by rw [← e1b]; exact w21, s21⟩
      · first | (exfalso; simp only [i_lt, i_le, i_eq, i_0, i_1, i_2, i_3, i_4, i_5, i_6, i_8, i_9, i_10, i_12, i_16, i_20, i_m1, i_400, i_2000] at h24; omega) | (exfalso; simp only [s_up, a_up, va_up, i_lt, i_le, i_eq, i_0, i_1, i_2, i_3, i_4, i_5, i_6, i_8, i_9, i_10, i_12, i_16, i_20, i_m1, i_400, i_2000, ↓reduceIte, Nat.reduceEqDiff] at h24; omega)
    · intro i hii ih x be  le   hx hlo hl9 hv
      subst hx
      have ek : (M.1 14).toInt = k := by rw [hk]; exact i_n (by omega)
      have ex : (nI i).toInt = i := i_n (by omega)
      refine J_iload dX9_partner_18 rfl ?_
      refine J_aload_n dX9_partner_20 rfl rfl ?_
      refine J_getf dX9_partner_21 fl_X9_108 (hM.at 0 rfl) rfl ?_
      refine J_icmp_ge (tgt := 93) dX9_partner_24 rfl (fun h24 => ?_) (fun h24 => ?_)
      · first | (exfalso; simp only [i_lt, i_le, i_eq, i_0, i_1, i_2, i_3, i_4, i_5, i_6, i_8, i_9, i_10, i_12, i_16, i_20, i_m1, i_400, i_2000] at h24; omega) | (exfalso; simp only [s_up, a_up, va_up, i_lt, i_le, i_eq, i_0, i_1, i_2, i_3, i_4, i_5, i_6, i_8, i_9, i_10, i_12, i_16, i_20, i_m1, i_400, i_2000, ↓reduceIte, Nat.reduceEqDiff] at h24; omega)
      · refine J_iload_n dX9_partner_27 rfl rfl ?_
        refine J_iload dX9_partner_28 rfl ?_
        refine J_ishr dX9_partner_30 ?_
        refine J_iconst (v := 1) dX9_partner_31 (by decide) ?_
        refine J_iand dX9_partner_32 ?_
        refine J_if_ne (tgt := 39) dX9_partner_33 rfl (fun h33 => ?_) (fun h33 => ?_)
        · have hsb : s.testBit i = true := by
            cases z : s.testBit i with
            | true => rfl
            | false => exact absurd ((is_has (by omega) (by omega)).mpr z) h33
          have htb : mr_t s i = true := by show (clr s (low s)).testBit i = true; rw [clr_t, hsb, decide_eq_false (by omega)]; rfl
          have hgl : (mr_g (metL (fS S P) la) k p s) i ≤ 99 := by
            have q := mr_le (met := (metL (fS S P) la)) h12k p _ (hev i htb).2.2.1 (hev i htb).2.2.2.2
            show mr _ k p _ + (if _ then 1 else 0) ≤ 99
            split <;> omega
          refine J_aload_n dX9_partner_39 rfl rfl ?_
          refine J_aload_n dX9_partner_40 rfl rfl ?_
          refine J_iload_n dX9_partner_41 rfl rfl ?_
          refine J_iload dX9_partner_42 rfl ?_
          refine J_callVr (As := [_, _, _]) dX9_partner_44 ml_X9_123 cal_X9_rematch im_X9_rematch se_X9_rematch (hM.at 0 rfl) rfl rfl rfl (Nat.le_of_ble_eq_true rfl) ⟨by decide, by decide⟩ ⟨by decide, by decide⟩ (c_X9_rematch hst hM hN hS h12 hln h12k rfl hl2 rfl hii) ?_
          refine J_aload_n dX9_partner_47 rfl rfl ?_
          refine J_getf dX9_partner_48 fl_X9_50 (hM.at 0 rfl) rfl ?_
          refine J_iload_n dX9_partner_51 rfl rfl ?_
          refine J_iconst (v := 1) dX9_partner_52 (by decide) ?_
          refine J_iload_n dX9_partner_53 rfl rfl ?_
          refine J_ishl dX9_partner_54 ?_
          refine J_iconst (v := -1) dX9_partner_55 (by decide) ?_
          refine J_ixor dX9_partner_56 ?_
          refine J_iand dX9_partner_57 ?_
          refine J_iconst (v := 1) dX9_partner_58 (by decide) ?_
          refine J_iload dX9_partner_59 rfl ?_
          refine J_ishl dX9_partner_61 ?_
          refine J_iconst (v := -1) dX9_partner_62 (by decide) ?_
          refine J_ixor dX9_partner_63 ?_
          refine J_iand dX9_partner_64 ?_
          rw [is_clr (show low s < 31 by omega), is_clr (show i < 31 by omega)]
          refine J_ialdN (clr (clr s (low s)) i) dX9_partner_65 (hM.at 7 rfl) rfl (by have := (hev i htb).2.2.2.1; omega) (by decide) ?_
          refine J_iadd dX9_partner_66 ?_
          have eg : nI (if metL (fS S P) la (low s) i = true then 1 else 0) + M.2 44 (clr (clr s (low s)) i) = nI ((mr_g (metL (fS S P) la) k p s) i) := by
            rw [hfw _ (hev i htb).2.2.2.1 p (hev i htb).2.2.2.2, nI_add, Nat.add_comm]
          rw [eg]
          refine J_istore (L' := [(7, _), (6, _), (5, _), (4, _), (3, _), (0, _), (1, _), (2, _)]) dX9_partner_67 (by decide) rfl ?_
          refine J_iload dX9_partner_69 rfl ?_
          refine J_iload dX9_partner_71 rfl ?_
          refine J_icmp_lt (tgt := 79) dX9_partner_73 rfl (fun h73 => ?_) (fun h73 => ?_)
          · have hgl2 : (mr_g (metL (fS S P) la) k p s) i < le := by
              rw [i_lt, i_n (by omega), i_n (by omega)] at h73
              omega
            refine J_iload dX9_partner_79 rfl ?_
            refine J_istore (L' := [(4, _), (7, _), (6, _), (5, _), (3, _), (0, _), (1, _), (2, _)]) dX9_partner_81 (by decide) rfl ?_
            refine J_iload dX9_partner_83 rfl ?_
            refine J_istore (L' := [(5, _), (4, _), (7, _), (6, _), (3, _), (0, _), (1, _), (2, _)]) dX9_partner_85 (by decide) rfl ?_
            refine J_iinc (v := _ + 1) (L' := [(6, _), (5, _), (4, _), (7, _), (3, _), (0, _), (1, _), (2, _)]) dX9_partner_87 rfl rfl (by decide) rfl ?_
            refine J_goto (tgt := 18) dX9_partner_90 rfl ?_
            refine xx_J.pick [0, 1, 2, 4, 5, 6, 7] rfl ?_
            exact ih _ _ _  (nI_1 i) (by omega) (by omega) (by rw [← hv, psc_s hii]; first | rw [if_neg htb] | rw [if_pos htb, if_pos hgl2] | rw [if_pos htb, if_neg hgl2])
          · have hgl2 : ¬ (mr_g (metL (fS S P) la) k p s) i < le := fun z => h73 (by rw [i_lt, i_n (by omega), i_n (by omega)]; omega)
            refine J_goto (tgt := 87) dX9_partner_76 rfl ?_
            refine J_iinc (v := _ + 1) (L' := [(6, _), (7, _), (5, _), (4, _), (3, _), (0, _), (1, _), (2, _)]) dX9_partner_87 rfl rfl (by decide) rfl ?_
            refine J_goto (tgt := 18) dX9_partner_90 rfl ?_
            refine xx_J.pick [0, 2, 3, 4, 5, 6, 7] rfl ?_
            exact ih _ _ _  (nI_1 i) (by omega) (by omega) (by rw [← hv, psc_s hii]; first | rw [if_neg htb] | rw [if_pos htb, if_pos hgl2] | rw [if_pos htb, if_neg hgl2])
        · have htb : ¬ mr_t s i = true := fun z => by
            have z2 : (clr s (low s)).testBit i = true := z
            rw [clr_t, (is_has (by omega) (by omega)).mp h33] at z2
            cases z2
          refine J_goto (tgt := 87) dX9_partner_36 rfl ?_
          refine J_iinc (v := _ + 1) (L' := [(6, _), (5, _), (4, _), (3, _), (0, _), (1, _), (2, _)]) dX9_partner_87 rfl rfl (by decide) rfl ?_
          refine J_goto (tgt := 18) dX9_partner_90 rfl ?_
          refine xx_J.pick [0, 1, 2, 3, 4, 5, 6] rfl ?_
          exact ih _ _ _  (nI_1 i) (by omega) (by omega) (by rw [← hv, psc_s hii]; first | rw [if_neg htb] | rw [if_pos htb, if_pos hgl2] | rw [if_pos htb, if_neg hgl2])
  refine xx_J.pick [0, 1, 2, 3, 4, 5, 6] rfl ?_
  exact loop (low s + 1) (by omega) _ _ _  (nI_1 _) (Nat.le_refl _) (Nat.le_of_ble_eq_true rfl) rfl
end XS3
