/-! THE REFERENCE: cutIntoTokens -/
section XSC2
variable {G : xx_G} {l : Launch} {A A' : xx_H} {n : Nat} {bm bp bs bn ba : Nat} {vL nl : Nat → Int64} {M M' M1 P S : xS} {T : xS} {len i j k q s e t d nt : Nat}
/-- what the Model keeps of the tokens below m: kinds, places, what they mean, numbers and words -/
def tkR (T : xS) (len m : Nat) (M : xS) (vL : Nat → Int64) : Prop := ∀ q, q < m → M.2 11 q = nI (kdR (scG T len q)) ∧ M.2 12 q = nI (scS T len q) ∧ M.2 13 q = 0 ∧ (scG T len q = 36 → vL q = (nmF T len (scE T len q - scS T len q) (scS T len q) 0).toInt64) ∧ (scG T len q < 20 ∨ scG T len q = 35 → vL q = hsh (tpw T len (scS T len q)) (scE T len q - scS T len q))
/-- only the rows of tokens have changed -/
def tkS (M M' : xS) : Prop := M'.1 = M.1 ∧ ∀ k, ¬ (k = 11 ∨ k = 12 ∨ k = 13) → M'.2 k = M.2 k
theorem tkS.rf : tkS M M := ⟨rfl, fun _ _ => rfl⟩
theorem tkS.a {c : Nat} {f : Nat → Int32} (h : tkS M M1) (hc : c = 11 ∨ c = 12 ∨ c = 13) : tkS M (a_up M1 c f) := ⟨h.1, fun k hk => by
  show va_up M1.2 c f k = _
  simp only [va_up]
  rw [if_neg (by omega)]
  exact h.2 k hk⟩
theorem tkS.tp (h : tkS M M1) (htp : tpR M T len) : tpR M1 T len := ⟨by rw [h.1]; exact htp.1, htp.2.1, fun q hq => by rw [h.2 1 (by decide)]; exact htp.2.2 q hq⟩
theorem scG_e (hne : ∀ q, q < k → ¬ scG T len q = 37 ∧ ¬ scG T len q = 38) (hk : k ≤ 400) : k = 400 ∧ (¬ sgF T len (scS T len k) (scE T len k) = 37) ∧ scG T len k = 38 ∨ scG T len k = sgF T len (scS T len k) (scE T len k) := by
  unfold scG
  split
  · rename_i h; exact Or.inl ⟨h.1, h.2, rfl⟩
  · exact Or.inr rfl
theorem kd_37 : ∀ g, g < 39 → ((nI (kdR g) : Int32) = 33 ↔ g = 37) ∧ ((nI (kdR g) : Int32) = 32 ↔ g = 38) := by decide +kernel
theorem scS_s : scS T len (k + 1) = bbl T len (len - scE T len k) (scE T len k) := rfl
theorem sc_end (h : ¬ scS T len k < len) : scG T len k = 37 := by
  unfold scG sgF
  rw [if_neg h, if_neg (fun z => z.2 rfl)]
theorem sc_lt (h : ¬ scG T len k = 37) : scS T len k < len := by
  by_cases c : scS T len k < len
  · exact c
  · exact absurd (sc_end c) h
def ctP (T : xS) (len : Nat) (bm bp bn ba n : Nat) (M : xS) (A : xx_H) : xx_Q := xx_wr none n (fun A' => ∃ nt M' vL', (0 < nt ∧ nt ≤ 401 ∧ (∀ q, q + 1 < nt → ¬ scG T len q = 37 ∧ ¬ scG T len q = 38) ∧ (scG T len (nt - 1) = 37 ∨ scG T len (nt - 1) = 38)) ∧ tkR T len nt M' vL' ∧ tkS M M' ∧ xx_w bm (layM bp vL' bn ba bm M') A' ∧ xx_mf bm A A')
theorem tkR.st {M2 : xS} {v2 : Nat → Int64} (h : tkR T len k M1 vL) (h11 : ∀ q, M2.2 11 q = if q = k then nI (kdR (scG T len k)) else M1.2 11 q) (h12 : ∀ q, M2.2 12 q = if q = k then nI (scS T len k) else M1.2 12 q) (h13 : ∀ q, M2.2 13 q = if q = k then 0 else M1.2 13 q) (hv : ∀ q, ¬ q = k → v2 q = vL q) (hg : (scG T len k = 36 → v2 k = (nmF T len (scE T len k - scS T len k) (scS T len k) 0).toInt64) ∧ (scG T len k < 20 ∨ scG T len k = 35 → v2 k = hsh (tpw T len (scS T len k)) (scE T len k - scS T len k))) : tkR T len (k + 1) M2 v2 := fun q hq => by
  rw [h11, h12, h13]
  by_cases c : q = k
  · subst c
    exact ⟨if_pos rfl, if_pos rfl, if_pos rfl, hg.1, hg.2⟩
  · rw [if_neg c, if_neg c, if_neg c, hv q c]
    exact h q (by omega)
abbrev scX (T : xS) (len k : Nat) : Nat := if scS T len k < len then eotF T len (scS T len k) else scS T len k + 1
theorem scX_lt (h : scS T len k < len) : scX T len k = scE T len k := if_pos h
theorem sgX : sgF T len (scS T len k) (scX T len k) = sgF T len (scS T len k) (scE T len k) := by
  by_cases c : scS T len k < len
  · rw [scX_lt c]
  · unfold sgF; rw [if_neg c, if_neg c]
theorem sg_lt (h : ¬ sgF T len (scS T len k) (scX T len k) = 37) : scS T len k < len := by
  by_cases c : scS T len k < len
  · exact c
  · exact absurd (if_neg c) h
set_option maxHeartbeats 2000000 in
theorem c_X9_cutIntoTokens (hst : l.stackTraces = false) (hM : xx_w bm (layM bp vL bn ba bm M) A) (htp : tpR M T len)  : xx_C G l yX9_cutIntoTokens mX9_cutIntoTokens 7 164 0 0 [.ref bm] A n (ctP T len bm bp bn ba n M A) := by
  have h2k := htp.2.1
  refine J_C hst (by decide +kernel) rfl rfl rfl (Nat.le_of_ble_eq_true rfl) ?_
  show xx_J _ _ _ _ _ _ _ _ 0 [(0, _)] [] _ _ _ _
  refine J_iconst (v := 0) dX9_cutIntoTokens_0 (by decide) ?_
  refine J_istore_n (L' := [(1, _), (0, _)]) dX9_cutIntoTokens_1 rfl (by decide) rfl ?_
  refine J_iconst (v := 0) dX9_cutIntoTokens_2 (by decide) ?_
  refine J_istore_n (L' := [(2, _), (1, _), (0, _)]) dX9_cutIntoTokens_3 rfl (by decide) rfl ?_
  have loop : ∀ k, k ≤ 401 → ∀ (x y : Int32) (A1 : xx_H) (M1 : xS) (v1 : Nat → Int64), (x = nI k) → (y = nI (scA T len k)) → (xx_w bm (layM bp v1 bn ba bm M1) A1) → (xx_mf bm A A1) → (tkR T len k M1 v1) → (tkS M M1) → (∀ q, q < k → ¬ scG T len q = 37 ∧ ¬ scG T len q = 38) → xx_J G l mX9_cutIntoTokens 7 164 0 0 (ctP T len bm bp bn ba n M A) 4 [(2, .int x), (1, .int y), (0, .ref bm)] [] A1 n 0 0 := by
    refine xx_dn ?_ ?_
    · intro x y  A1  M1  v1  hx hy hM1 hs1 htk hts hne
      have ex : x.toInt = 401 := by rw [hx]; rfl
      have e400 := i_400
      refine J_iload_n dX9_cutIntoTokens_4 rfl rfl ?_
      refine J_sipush (v := 400) dX9_cutIntoTokens_5 (by decide) ?_
      refine J_icmp_gt (tgt := 127) dX9_cutIntoTokens_8 rfl (fun h8 => ?_) (fun h8 => ?_)
      · refine J_return dX9_cutIntoTokens_127 rfl (by decide) (by decide) ?_
        exact absurd (scG_400 (T := T) (len := len)) (fun z => z.elim (hne 400 (by omega)).1 (hne 400 (by omega)).2)
      · first | (exfalso; simp only [i_lt, i_le, i_eq, i_0, i_1, i_2, i_3, i_4, i_5, i_6, i_8, i_9, i_10, i_12, i_16, i_20, i_m1, i_400, i_2000] at h8; omega) | (exfalso; simp only [s_up, a_up, va_up, i_lt, i_le, i_eq, i_0, i_1, i_2, i_3, i_4, i_5, i_6, i_8, i_9, i_10, i_12, i_16, i_20, i_m1, i_400, i_2000, ↓reduceIte, Nat.reduceEqDiff] at h8; omega)
    · intro k hik ih x y  A1  M1  v1  hx hy hM1 hs1 htk hts hne
      have ex : x.toInt = k := by rw [hx]; exact i_n (by omega)
      have e400 := i_400
      have hsa := scA_le (T := T) (len := len) k
      refine J_iload_n dX9_cutIntoTokens_4 rfl rfl ?_
      refine J_sipush (v := 400) dX9_cutIntoTokens_5 (by decide) ?_
      refine J_icmp_gt (tgt := 127) dX9_cutIntoTokens_8 rfl (fun h8 => ?_) (fun h8 => ?_)
      · first | (exfalso; simp only [i_lt, i_le, i_eq, i_0, i_1, i_2, i_3, i_4, i_5, i_6, i_8, i_9, i_10, i_12, i_16, i_20, i_m1, i_400, i_2000] at h8; omega) | (exfalso; simp only [s_up, a_up, va_up, i_lt, i_le, i_eq, i_0, i_1, i_2, i_3, i_4, i_5, i_6, i_8, i_9, i_10, i_12, i_16, i_20, i_m1, i_400, i_2000, ↓reduceIte, Nat.reduceEqDiff] at h8; omega)
      · have fin : ∀ (A3 : xx_H) (M3 : xS) (v3 : Nat → Int64), (xx_w bm (layM bp v3 bn ba bm M3) A3) → (xx_mf bm A A3) → (tkR T len (k + 1) M3 v3) → (tkS M M3) → xx_J G l mX9_cutIntoTokens 7 164 0 0 (ctP T len bm bp bn ba n M A) 96 [(3, .int (nI (scX T len k))), (2, .int x), (1, .int (nI (scS T len k))), (0, .ref bm)] [] A3 n 0 0 := by
          intro A3 M3 v3 hM3 hs3 htk3 hts3
          have ex : x.toInt = k := by rw [hx]; exact i_n (by omega)
          refine J_aload_n dX9_cutIntoTokens_96 rfl rfl ?_
          refine J_getf dX9_cutIntoTokens_97 fl_X9_24 (hM3.at 0 rfl) rfl ?_
          refine J_iload_n dX9_cutIntoTokens_100 rfl rfl ?_
          refine J_ialdN k dX9_cutIntoTokens_101 (hM3.at 2 rfl) hx (by omega) (by decide) ?_
          refine J_bipush (v := 32) dX9_cutIntoTokens_102 (by decide) ?_
          refine J_icmp_eq (tgt := 118) dX9_cutIntoTokens_104 rfl (fun h104 => ?_) (fun h104 => ?_)
          · have hend : scG T len k = 37 ∨ scG T len k = 38 := Or.inr ((kd_37 _ (scG_lt k)).2.mp ((htk3 k (by omega)).1.symm.trans h104))
            refine J_return dX9_cutIntoTokens_118 rfl (by decide) (by decide) ?_
            exact ⟨rfl, rfl, k + 1, M3, v3, ⟨by omega, by omega, fun q hq => hne q (by omega), by rw [Nat.add_sub_cancel]; exact hend⟩, htk3, hts3, hM3, hs3⟩
          · have hn38 : ¬ scG T len k = 38 := fun z => h104 ((htk3 k (by omega)).1.trans ((kd_37 _ (scG_lt k)).2.mpr z))
            refine J_aload_n dX9_cutIntoTokens_107 rfl rfl ?_
            refine J_getf dX9_cutIntoTokens_108 fl_X9_24 (hM3.at 0 rfl) rfl ?_
            refine J_iload_n dX9_cutIntoTokens_111 rfl rfl ?_
            refine J_ialdN k dX9_cutIntoTokens_112 (hM3.at 2 rfl) hx (by omega) (by decide) ?_
            refine J_bipush (v := 33) dX9_cutIntoTokens_113 (by decide) ?_
            refine J_icmp_ne (tgt := 119) dX9_cutIntoTokens_115 rfl (fun h115 => ?_) (fun h115 => ?_)
            · have hn37 : ¬ scG T len k = 37 := fun z => h115 ((htk3 k (by omega)).1.trans ((kd_37 _ (scG_lt k)).1.mpr z))
              refine J_iload_n dX9_cutIntoTokens_119 rfl rfl ?_
              refine J_istore_n (L' := [(1, _), (3, _), (2, _), (0, _)]) dX9_cutIntoTokens_120 rfl (by decide) rfl ?_
              refine J_iinc (v := _ + 1) (L' := [(2, _), (1, _), (3, _), (0, _)]) dX9_cutIntoTokens_121 rfl rfl (by decide) rfl ?_
              refine J_goto (tgt := 4) dX9_cutIntoTokens_124 rfl ?_
              refine xx_J.pick [0, 1, 3] rfl ?_
              exact ih _ _ _ _ _ (by rw [hx]; exact nI_1 k) (congrArg nI (scX_lt (sc_lt hn37))) hM3 hs3 htk3 hts3 (fun q hq => by
                by_cases c : q = k
                · rw [c]; exact ⟨hn37, hn38⟩
                · exact hne q (by omega))
            · have hend : scG T len k = 37 ∨ scG T len k = 38 := Or.inl ((kd_37 _ (scG_lt k)).1.mp ((htk3 k (by omega)).1.symm.trans h115))
              refine J_return dX9_cutIntoTokens_118 rfl (by decide) (by decide) ?_
              exact ⟨rfl, rfl, k + 1, M3, v3, ⟨by omega, by omega, fun q hq => hne q (by omega), by rw [Nat.add_sub_cancel]; exact hend⟩, htk3, hts3, hM3, hs3⟩
        have rest : ∀ (_u : Unit), (True) → xx_J G l mX9_cutIntoTokens 7 164 0 0 (ctP T len bm bp bn ba n M A) 37 [(2, .int x), (1, .int (nI (scS T len k))), (0, .ref bm)] [] A1 n 0 0 := by
          intro _u hu
          refine J_aload_n dX9_cutIntoTokens_37 rfl rfl ?_
          refine J_iload_n dX9_cutIntoTokens_38 rfl rfl ?_
          refine J_callVr (As := [_]) dX9_cutIntoTokens_39 ml_X9_299 cal_X9_endOf im_X9_endOf se_X9_endOf (hM1.at 0 rfl) rfl rfl rfl (Nat.le_of_ble_eq_true rfl) ⟨by decide, by decide⟩ ⟨by decide, by decide⟩ (c_X9_endOf hst hM1 (hts.tp htp) rfl (scS_le k)) ?_
          refine J_istore_n (L' := [(3, _), (2, _), (1, _), (0, _)]) dX9_cutIntoTokens_42 rfl (by decide) rfl ?_
          refine J_aload_n dX9_cutIntoTokens_43 rfl rfl ?_
          refine J_getf dX9_cutIntoTokens_44 fl_X9_27 (hM1.at 0 rfl) rfl ?_
          refine J_iload_n dX9_cutIntoTokens_47 rfl rfl ?_
          refine J_iload_n dX9_cutIntoTokens_48 rfl rfl ?_
          refine J_iastN k dX9_cutIntoTokens_49 (hM1.at 3 rfl) hx (by omega) (by decide) ?_
          refine J_genA (wM_a12 hM1 _) (hs1.put (by omega) (by omega) _) (fun A201 w201 s201 o201 => ?_)
          refine J_aload_n dX9_cutIntoTokens_50 rfl rfl ?_
          refine J_getf dX9_cutIntoTokens_51 fl_X9_30 (w201.at 0 rfl) rfl ?_
          refine J_iload_n dX9_cutIntoTokens_54 rfl rfl ?_
          refine J_iconst (v := 0) dX9_cutIntoTokens_55 (by decide) ?_
          refine J_iastN k dX9_cutIntoTokens_56 (w201.at 4 rfl) hx (by omega) (by decide) ?_
          refine J_genA (wM_a13 w201 _) (s201.put (by omega) (by omega) _) (fun A202 w202 s202 o202 => ?_)
          refine J_aload_n dX9_cutIntoTokens_57 rfl rfl ?_
          refine J_getf dX9_cutIntoTokens_58 fl_X9_24 (w202.at 0 rfl) rfl ?_
          refine J_iload_n dX9_cutIntoTokens_61 rfl rfl ?_
          refine J_aload_n dX9_cutIntoTokens_62 rfl rfl ?_
          refine J_iload_n dX9_cutIntoTokens_63 rfl rfl ?_
          refine J_iload_n dX9_cutIntoTokens_64 rfl rfl ?_
          refine J_iload_n dX9_cutIntoTokens_65 rfl rfl ?_
          refine J_callVw (As := [_, _, _]) dX9_cutIntoTokens_66 ml_X9_302 cal_X9_kindOf im_X9_kindOf se_X9_kindOf (w202.at 0 rfl) rfl rfl rfl (Nat.le_of_ble_eq_true rfl) ⟨by decide, by decide⟩ ⟨by decide, by decide⟩ (c_X9_kindOf (t := k) hst w202 (((hts.a (by decide)).a (by decide)).tp htp) hx (by omega) rfl rfl (scS_le k) rfl) (fun A203 hQ203 => ?_)
          obtain ⟨v2, hv2, hv36, hvw, hMk, hsk⟩ := hQ203
          rw [sgX] at hv36 hvw
          have hvv : (sgF T len (scS T len k) (scE T len k) = 36 → v2 k = (nmF T len (scE T len k - scS T len k) (scS T len k) 0).toInt64) ∧ (sgF T len (scS T len k) (scE T len k) < 20 ∨ sgF T len (scS T len k) (scE T len k) = 35 → v2 k = hsh (tpw T len (scS T len k)) (scE T len k - scS T len k)) := by
            by_cases c : scS T len k < len
            · rw [if_pos c] at hv36 hvw
              exact ⟨hv36, hvw⟩
            · have h37 : sgF T len (scS T len k) (scE T len k) = 37 := if_neg c
              rw [h37]
              exact ⟨fun z => absurd z (by decide), fun z => absurd z (by decide)⟩
          refine J_iastN k dX9_cutIntoTokens_69 (hMk.at 2 rfl) hx (by omega) (by decide) ?_
          refine J_genA (wM_a11 hMk _) ((s202.trans hsk).put (by omega) (by omega) _) (fun A204 w204 s204 o204 => ?_)
          refine J_iload_n dX9_cutIntoTokens_70 rfl rfl ?_
          refine J_sipush (v := 400) dX9_cutIntoTokens_71 (by decide) ?_
          refine J_icmp_ne (tgt := 96) dX9_cutIntoTokens_74 rfl (fun h74 => ?_) (fun h74 => ?_)
          · have hge : scG T len k = sgF T len (scS T len k) (scE T len k) := if_neg (fun z => h74 (by rw [hx, z.1]; rfl))
            have hgk : nI (kdR (sgF T len (scS T len k) (scX T len k))) = nI (kdR (scG T len k)) := by rw [hge, sgX]
            refine xx_J.pick [0, 1, 2, 3] rfl ?_
            exact fin _ _ v2 w204 s204 (htk.st (fun q => by rw [← hgk]; rfl) (fun _ => rfl) (fun _ => rfl) hv2 (by rw [hge]; exact hvv)) (((hts.a (by decide)).a (by decide)).a (by decide))
          · have hk4 : k = 400 := by rw [hx, i_eq, i_n (by omega), i_400] at h74; omega
            have hcell : ∀ (f : Nat → Int32) v, upd f k v k = v := fun f v => if_pos rfl
            refine J_aload_n dX9_cutIntoTokens_77 rfl rfl ?_
            refine J_getf dX9_cutIntoTokens_78 fl_X9_24 (w204.at 0 rfl) rfl ?_
            refine J_iload_n dX9_cutIntoTokens_81 rfl rfl ?_
            refine J_ialdN k dX9_cutIntoTokens_82 (w204.at 2 rfl) hx (by omega) (by decide) ?_
            refine J_bipush (v := 33) dX9_cutIntoTokens_83 (by decide) ?_
            refine J_icmp_eq (tgt := 96) dX9_cutIntoTokens_85 rfl (fun h85 => ?_) (fun h85 => ?_)
            · have hsg7 : sgF T len (scS T len k) (scE T len k) = 37 := by rw [← sgX]; exact (kd_37 _ (sgF_lt _ _ _ _)).1.mp ((hcell _ _).symm.trans h85)
              have hge : scG T len k = sgF T len (scS T len k) (scE T len k) := if_neg (fun z => z.2 hsg7)
              have hgk : nI (kdR (sgF T len (scS T len k) (scX T len k))) = nI (kdR (scG T len k)) := by rw [hge, sgX]
              refine xx_J.pick [0, 1, 2, 3] rfl ?_
              exact fin _ _ v2 w204 s204 (htk.st (fun q => by rw [← hgk]; rfl) (fun _ => rfl) (fun _ => rfl) hv2 (by rw [hge]; exact hvv)) (((hts.a (by decide)).a (by decide)).a (by decide))
            · have hsg7 : ¬ sgF T len (scS T len k) (scE T len k) = 37 := fun z => h85 ((hcell _ _).trans ((kd_37 _ (sgF_lt _ _ _ _)).1.mpr (sgX.trans z)))
              have hg38 : scG T len k = 38 := if_pos ⟨hk4, hsg7⟩
              refine J_aload_n dX9_cutIntoTokens_88 rfl rfl ?_
              refine J_getf dX9_cutIntoTokens_89 fl_X9_24 (w204.at 0 rfl) rfl ?_
              refine J_iload_n dX9_cutIntoTokens_92 rfl rfl ?_
              refine J_bipush (v := 32) dX9_cutIntoTokens_93 (by decide) ?_
              refine J_iastN k dX9_cutIntoTokens_95 (w204.at 2 rfl) hx (by omega) (by decide) ?_
              refine J_genA (wM_a11 w204 _) (s204.put (by omega) (by omega) _) (fun A205 w205 s205 o205 => ?_)
              refine xx_J.pick [0, 1, 2, 3] rfl ?_
              exact fin _ _ v2 w205 s205 (htk.st (fun q => by
                rw [hg38]
                by_cases c : q = k
                · rw [if_pos c]; exact if_pos c
                · rw [if_neg c]; exact (if_neg c).trans (if_neg c)) (fun _ => rfl) (fun _ => rfl) hv2 ⟨fun z => by rw [hg38] at z; exact absurd z (by decide), fun z => by rw [hg38] at z; exact absurd z (by decide)⟩) ((((hts.a (by decide)).a (by decide)).a (by decide)).a (by decide))
        have skipb : ∀ i, i ≤ len → ∀ (z : Int32) , (z = nI i) → (bbl T len (len - i) i = scS T len k) → xx_J G l mX9_cutIntoTokens 7 164 0 0 (ctP T len bm bp bn ba n M A) 11 [(2, .int x), (1, .int z), (0, .ref bm)] [] A1 n 0 0 := by
          refine xx_dn ?_ ?_
          · intro z   hz hbb
            refine J_aload_n dX9_cutIntoTokens_11 rfl rfl ?_
            refine J_iload_n dX9_cutIntoTokens_12 rfl rfl ?_
            refine J_callVr (As := [_]) dX9_cutIntoTokens_13 ml_X9_262 cal_X9_byteOf im_X9_byteOf se_X9_byteOf (hM1.at 0 rfl) rfl rfl rfl (Nat.le_of_ble_eq_true rfl) ⟨by decide, by decide⟩ ⟨by decide, by decide⟩ (c_X9_byteOf hst hM1 (hts.tp htp) hz (by omega)) ?_
            refine J_bipush (v := 32) dX9_cutIntoTokens_16 (by decide) ?_
            refine J_icmp_eq (tgt := 31) dX9_cutIntoTokens_18 rfl (fun h18 => ?_) (fun h18 => ?_)
            · exact absurd h18 (by rw [rB_ni (Nat.lt_irrefl len)]; decide)
            · refine J_aload_n dX9_cutIntoTokens_21 rfl rfl ?_
              refine J_iload_n dX9_cutIntoTokens_22 rfl rfl ?_
              refine J_callVr (As := [_]) dX9_cutIntoTokens_23 ml_X9_262 cal_X9_byteOf im_X9_byteOf se_X9_byteOf (hM1.at 0 rfl) rfl rfl rfl (Nat.le_of_ble_eq_true rfl) ⟨by decide, by decide⟩ ⟨by decide, by decide⟩ (c_X9_byteOf hst hM1 (hts.tp htp) hz (by omega)) ?_
              refine J_bipush (v := 10) dX9_cutIntoTokens_26 (by decide) ?_
              refine J_icmp_ne (tgt := 37) dX9_cutIntoTokens_28 rfl (fun h28 => ?_) (fun h28 => ?_)
              · refine xx_J.pick [0, 1, 2] rfl ?_
                rw [show z = nI (scS T len k) by rw [hz, ← hbb, Nat.sub_self]; rfl]
                exact rest () trivial
              · exact absurd h28 (by rw [rB_ni (Nat.lt_irrefl len)]; decide)
          · intro i hii ih z   hz hbb
            refine J_aload_n dX9_cutIntoTokens_11 rfl rfl ?_
            refine J_iload_n dX9_cutIntoTokens_12 rfl rfl ?_
            refine J_callVr (As := [_]) dX9_cutIntoTokens_13 ml_X9_262 cal_X9_byteOf im_X9_byteOf se_X9_byteOf (hM1.at 0 rfl) rfl rfl rfl (Nat.le_of_ble_eq_true rfl) ⟨by decide, by decide⟩ ⟨by decide, by decide⟩ (c_X9_byteOf hst hM1 (hts.tp htp) hz (by omega)) ?_
            refine J_bipush (v := 32) dX9_cutIntoTokens_16 (by decide) ?_
            refine J_icmp_eq (tgt := 31) dX9_cutIntoTokens_18 rfl (fun h18 => ?_) (fun h18 => ?_)
            · have hor : bat T len i = 32 ∨ bat T len i = 10 := Or.inl ((rB_c htp (by decide) (by decide) i).mp h18)
              refine J_iinc (v := _ + 1) (L' := [(1, _), (2, _), (0, _)]) dX9_cutIntoTokens_31 rfl rfl (by decide) rfl ?_
              refine J_goto (tgt := 11) dX9_cutIntoTokens_34 rfl ?_
              refine xx_J.pick [1, 0, 2] rfl ?_
              exact ih _  (by rw [hz]; exact nI_1 i) (by rw [← hbb, bbl_s hii, if_pos hor])
            · refine J_aload_n dX9_cutIntoTokens_21 rfl rfl ?_
              refine J_iload_n dX9_cutIntoTokens_22 rfl rfl ?_
              refine J_callVr (As := [_]) dX9_cutIntoTokens_23 ml_X9_262 cal_X9_byteOf im_X9_byteOf se_X9_byteOf (hM1.at 0 rfl) rfl rfl rfl (Nat.le_of_ble_eq_true rfl) ⟨by decide, by decide⟩ ⟨by decide, by decide⟩ (c_X9_byteOf hst hM1 (hts.tp htp) hz (by omega)) ?_
              refine J_bipush (v := 10) dX9_cutIntoTokens_26 (by decide) ?_
              refine J_icmp_ne (tgt := 37) dX9_cutIntoTokens_28 rfl (fun h28 => ?_) (fun h28 => ?_)
              · refine xx_J.pick [0, 1, 2] rfl ?_
                rw [show z = nI (scS T len k) by rw [hz, ← hbb, bbl_s hii, if_neg (fun w => w.elim (fun w => h18 ((rB_c htp (by decide) (by decide) i).mpr w)) (fun w => h28 ((rB_c htp (by decide) (by decide) i).mpr w)))]]
                exact rest () trivial
              · have hor : bat T len i = 32 ∨ bat T len i = 10 := Or.inr ((rB_c htp (by decide) (by decide) i).mp h28)
                refine J_iinc (v := _ + 1) (L' := [(1, _), (2, _), (0, _)]) dX9_cutIntoTokens_31 rfl rfl (by decide) rfl ?_
                refine J_goto (tgt := 11) dX9_cutIntoTokens_34 rfl ?_
                refine xx_J.pick [1, 0, 2] rfl ?_
                exact ih _  (by rw [hz]; exact nI_1 i) (by rw [← hbb, bbl_s hii, if_pos hor])
        refine xx_J.pick [0, 1, 2] rfl ?_
        exact skipb (scA T len k) (by omega) _  hy rfl
  refine xx_J.pick [0, 1, 2] rfl ?_
  exact loop 0 (by omega) _ _ _ _ _ rfl rfl hM (xx_mf.rf (bm := bm)) (fun q hq => absurd hq (Nat.not_lt_zero q)) tkS.rf (fun q hq => absurd hq (Nat.not_lt_zero q))
end XSC2
