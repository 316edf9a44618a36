/-! THE REFERENCE: ruled, tellAll -/
section XS9
variable {G : xx_G} {l : Launch} {A A' : xx_H} {n : Nat} {bm bp bs bn ba : Nat} {vL nl : Nat → Int64} {M M' M1 P S S1 : xS}
/-- does rule r hold -/
def hdR (S P : xS) (i j r : Nat) : Bool := decide (((runR S P i j ((P.2 6 r).toNatClampNeg - (P.2 5 r).toNatClampNeg) (P.2 5 r).toNatClampNeg []).getD []).headD 1 = 1)
def outR (S P : xS) (i j : Nat) : Nat → Nat → Int32
  | 0, _ => 1
  | d + 1, r => if hdR S P i j r = true then P.2 4 r else outR S P i j d (r + 1)
theorem outR_s {i j t r : Nat} (h : r < t) : outR S P i j (t - r) r = if hdR S P i j r = true then P.2 4 r else outR S P i j (t - (r + 1)) (r + 1) := by
  rw [show t - r = (t - (r + 1)) + 1 by omega]
  rfl
/-- a plan whose rules can be done -/
def plV (P : xS) (nr : Nat) : Prop := P.1 4 = nI nr ∧ nr ≤ 16 ∧ ∀ r, r < nr → ∃ f t, P.2 5 r = nI f ∧ P.2 6 r = nI t ∧ f ≤ t ∧ t ≤ 400 ∧ (∀ S i j, ∃ sf, runR S P i j (t - f) f [] = some sf ∧ sf.length ≤ 1) ∧ (P.2 4 r = 0 ∨ P.2 4 r = 1 ∨ P.2 4 r = 2)
theorem outR_v {nr : Nat} (h : plV P nr) (S : xS) (i j : Nat) : ∀ d r, r + d = nr → outR S P i j d r = 0 ∨ outR S P i j d r = 1 ∨ outR S P i j d r = 2 := by
  intro d
  induction d with
  | zero => intro r _; exact Or.inr (Or.inl rfl)
  | succ d ih =>
    intro r hr
    simp only [outR]
    split
    · obtain ⟨f, t, -, -, -, -, -, g⟩ := h.2.2 r (by omega)
      exact g
    · exact ih (r + 1) (by omega)
set_option maxHeartbeats 2000000 in
theorem c_X9_ruled (hst : l.stackTraces = false) (hM : xx_w bm (layM bp vL bn ba bm M) A) (hN : xx_w bp (layN nl bp P) A) (hS : xx_w bs (layS bs S) A) (hap : apR bm bp bs) {q : Nat} {x : Int32} (hx : x = nI q) (hq : q < 6) {i j : Nat} (hr : S.2 11 q = nI i) (hi : i < 12) (hl : S.2 12 q = nI j) (hj : j < 12) {nr : Nat} (hpl : plV P nr)  : xx_C G l yX9_ruled mX9_ruled 3 73 0 0 [.ref bm, .ref bs, .int x] A n (xx_wr (some (.int (outR S P i j nr 0))) n (fun A' => ∃ M', scr M M' ∧ xx_w bm (layM bp vL bn ba bm M') A' ∧ xx_mf bm A A')) := by
  obtain ⟨hpl1, hpl2, hpl3⟩ := id hpl
  refine J_C hst (by decide +kernel) rfl rfl rfl (Nat.le_of_ble_eq_true rfl) ?_
  show xx_J _ _ _ _ _ _ _ _ 0 [(0, _), (1, _), (2, _)] [] _ _ _ _
  refine J_iconst (v := 0) dX9_ruled_0 (by decide) ?_
  refine J_istore_n (L' := [(3, _), (0, _), (1, _), (2, _)]) dX9_ruled_1 rfl (by decide) rfl ?_
  have loop : ∀ r, r ≤ nr → ∀ (y : Int32) (A1 : xx_H) (M1 : xS), (y = nI r) → (xx_w bm (layM bp vL bn ba bm M1) A1) → (xx_w bp (layN nl bp P) A1) → (xx_w bs (layS bs S) A1) → (xx_mf bm A A1) → (scr M M1) → (outR S P i j (nr - r) r = outR S P i j nr 0) → xx_J G l mX9_ruled 3 73 0 0 (xx_wr (some (.int (outR S P i j nr 0))) n (fun A' => ∃ M', scr M M' ∧ xx_w bm (layM bp vL bn ba bm M') A' ∧ xx_mf bm A A')) 2 [(3, .int y), (0, .ref bm), (1, .ref bs), (2, .int x)] [] A1 n 0 0 := by
    refine xx_dn ?_ ?_
    · intro y  A1  M1  hy hM1 hN1 hS1 hs1 hsc hv
      have ey : y.toInt = nr := by rw [hy]; exact i_n (by omega)
      have en : (P.1 4).toInt = nr := by rw [hpl1]; exact i_n (by omega)
      refine J_iload_n dX9_ruled_2 rfl rfl ?_
      refine J_aload_n dX9_ruled_3 rfl rfl ?_
      refine J_getf dX9_ruled_4 fl_X9_20 (hM1.at 0 rfl) rfl ?_
      refine J_getf dX9_ruled_7 fl_X9_192 (hN1.at 0 rfl) rfl ?_
      refine J_icmp_ge (tgt := 39) dX9_ruled_10 rfl (fun h10 => ?_) (fun h10 => ?_)
      · refine J_iconst (v := 1) dX9_ruled_39 (by decide) ?_
        refine J_ireturn dX9_ruled_40 rfl rfl (by decide) (by decide) ?_
        exact ⟨by rw [← hv, Nat.sub_self]; rfl, rfl, M1, hsc, hM1, hs1⟩
      · first | (exfalso; simp only [i_lt, i_le, i_eq, i_0, i_1, i_2, i_3, i_4, i_5, i_6, i_8, i_9, i_10, i_12, i_16, i_20, i_m1, i_400, i_2000] at h10; omega) | (exfalso; simp only [s_up, a_up, va_up, i_lt, i_le, i_eq, i_0, i_1, i_2, i_3, i_4, i_5, i_6, i_8, i_9, i_10, i_12, i_16, i_20, i_m1, i_400, i_2000, ↓reduceIte, Nat.reduceEqDiff] at h10; omega)
    · intro r hir ih y  A1  M1  hy hM1 hN1 hS1 hs1 hsc hv
      have ey : y.toInt = r := by rw [hy]; exact i_n (by omega)
      have en : (P.1 4).toInt = nr := by rw [hpl1]; exact i_n (by omega)
      obtain ⟨f, t, hf, ht, hft, ht4, hrn, htl⟩ := hpl3 r hir
      obtain ⟨sf, hrun, hsf⟩ := hrn S i j
      refine J_iload_n dX9_ruled_2 rfl rfl ?_
      refine J_aload_n dX9_ruled_3 rfl rfl ?_
      refine J_getf dX9_ruled_4 fl_X9_20 (hM1.at 0 rfl) rfl ?_
      refine J_getf dX9_ruled_7 fl_X9_192 (hN1.at 0 rfl) rfl ?_
      refine J_icmp_ge (tgt := 39) dX9_ruled_10 rfl (fun h10 => ?_) (fun h10 => ?_)
      · first | (exfalso; simp only [i_lt, i_le, i_eq, i_0, i_1, i_2, i_3, i_4, i_5, i_6, i_8, i_9, i_10, i_12, i_16, i_20, i_m1, i_400, i_2000] at h10; omega) | (exfalso; simp only [s_up, a_up, va_up, i_lt, i_le, i_eq, i_0, i_1, i_2, i_3, i_4, i_5, i_6, i_8, i_9, i_10, i_12, i_16, i_20, i_m1, i_400, i_2000, ↓reduceIte, Nat.reduceEqDiff] at h10; omega)
      · refine J_aload_n dX9_ruled_13 rfl rfl ?_
        refine J_aload_n dX9_ruled_14 rfl rfl ?_
        refine J_iload_n dX9_ruled_15 rfl rfl ?_
        refine J_iload_n dX9_ruled_16 rfl rfl ?_
        refine J_callVw (As := [_, _, _]) dX9_ruled_17 ml_X9_195 cal_X9_holds im_X9_holds se_X9_holds (hM1.at 0 rfl) rfl rfl rfl (Nat.le_of_ble_eq_true rfl) ⟨by decide, by decide⟩ ⟨by decide, by decide⟩ (c_X9_holds (M := M1) hst hM1 hN1 hS1 hap hx hq hr hi hl hj hy (by omega) hf ht hft ht4 hrun hsf) (fun A51 hQ51 => ?_)
        obtain ⟨Mh, sch, hM_51, hs_51⟩ := hQ51
        have hN_51 := hN1.mf hs_51 (m := 9) rfl hap.p
        have hS_51 := hS1.mf hs_51 (m := 14) rfl hap.s
        refine J_ifb_eq (tgt := 33) dX9_ruled_20 rfl (fun h20 => ?_) (fun h20 => ?_)
        · have hh : ¬ hdR S P i j r = true := fun z => h20 (by have z2 := of_decide_eq_true z; rw [hf, ht, nI_clamp (by omega), nI_clamp (by omega), hrun] at z2; exact z2)
          refine J_iinc (v := _ + 1) (L' := [(3, _), (0, _), (1, _), (2, _)]) dX9_ruled_33 rfl rfl (by decide) rfl ?_
          refine J_goto (tgt := 2) dX9_ruled_36 rfl ?_
          refine xx_J.pick [0, 1, 2, 3] rfl ?_
          exact ih _ _ Mh (by rw [hy]; exact nI_1 r) hM_51 hN_51 hS_51 (hs1.trans hs_51) (hsc.trans sch) (by rw [← hv, outR_s hir, if_neg hh])
        · have hh : hdR S P i j r = true := decide_eq_true (by rw [hf, ht, nI_clamp (by omega), nI_clamp (by omega), hrun]; exact h20)
          refine J_aload_n dX9_ruled_23 rfl rfl ?_
          refine J_getf dX9_ruled_24 fl_X9_20 (hM_51.at 0 rfl) rfl ?_
          refine J_getf dX9_ruled_27 fl_X9_198 (hN_51.at 0 rfl) rfl ?_
          refine J_iload_n dX9_ruled_30 rfl rfl ?_
          refine J_ialdN r dX9_ruled_31 (hN_51.at 4 rfl) hy (by omega) (by decide) ?_
          refine J_ireturn dX9_ruled_32 rfl rfl (by decide) (by decide) ?_
          exact ⟨by rw [← hv, outR_s hir, if_pos hh], rfl, Mh, hsc.trans sch, hM_51, (hs1.trans hs_51)⟩
  refine xx_J.pick [0, 1, 2, 3] rfl ?_
  exact loop 0 (by omega) _ _ M rfl hM hN hS (xx_mf.rf (bm := bm)) scr.rf rfl
/-- all bouts that have no outcome are told by ru; how many red wins -/
def tlP (ru : xS → Nat → Nat → Int32) : Nat → Nat → xS → Int32 → xS × Int32
  | 0, _, F, c => (F, c)
  | d + 1, k, F, c => if F.2 6 k = -1 then tlP ru d (k + 1) (tellF F k (F.2 4 k).toNatClampNeg (F.2 5 k).toNatClampNeg (ru F (F.2 4 k).toNatClampNeg (F.2 5 k).toNatClampNeg)) (c + (if ru F (F.2 4 k).toNatClampNeg (F.2 5 k).toNatClampNeg = 0 then 1 else 0)) else tlP ru d (k + 1) F c
theorem tlP_s {ru : xS → Nat → Nat → Int32} {t k : Nat} {F : xS} {c : Int32} (h : k < t) : tlP ru (t - k) k F c = if F.2 6 k = -1 then tlP ru (t - (k + 1)) (k + 1) (tellF F k (F.2 4 k).toNatClampNeg (F.2 5 k).toNatClampNeg (ru F (F.2 4 k).toNatClampNeg (F.2 5 k).toNatClampNeg)) (c + (if ru F (F.2 4 k).toNatClampNeg (F.2 5 k).toNatClampNeg = 0 then 1 else 0)) else tlP ru (t - (k + 1)) (k + 1) F c := by
  rw [show t - k = (t - (k + 1)) + 1 by omega]
  rfl
/-- the bouts are of two -/
def bdV (F : xS) (nw nb : Nat) : Prop := ∀ q, q < nb → ∃ i j, F.2 4 q = nI i ∧ i < nw ∧ F.2 5 q = nI j ∧ j < nw ∧ ¬ i = j
theorem tellF_k {F : xS} {q i j : Nat} {v : Int32} : (tellF F q i j v).1 = F.1 ∧ (∀ k, ¬ k = 2 → ¬ k = 6 → (tellF F q i j v).2 k = F.2 k) ∧ (tellF F q i j v).2 6 = upd (F.2 6) q v := by
  unfold tellF
  split
  · refine ⟨rfl, fun k h2 h6 => ?_, ?_⟩
    · unfold drawF; simp [va_up, h2, h6]
    · unfold drawF; simp [va_up]
  split
  · refine ⟨rfl, fun k h2 h6 => ?_, ?_⟩
    · unfold winF; simp [va_up, h2, h6]
    · unfold winF; simp [va_up]
  · refine ⟨rfl, fun k h2 h6 => ?_, ?_⟩
    · unfold winF; simp [va_up, h2, h6]
    · unfold winF; simp [va_up]
theorem bdV_tell {F : xS} {nw nb q i j : Nat} {v : Int32} (h : bdV F nw nb) : bdV (tellF F q i j v) nw nb := fun k hk => by
  obtain ⟨a, c, h1, h2, h3, h4, h5⟩ := h k hk
  refine ⟨a, c, ?_, h2, ?_, h4, h5⟩
  · rw [(tellF_k (F := F)).2.1 4 (by decide) (by decide)]; exact h1
  · rw [(tellF_k (F := F)).2.1 5 (by decide) (by decide)]; exact h3
set_option maxHeartbeats 2000000 in
theorem c_X9_tellAll (hst : l.stackTraces = false) (hM : xx_w bm (layM bp vL bn ba bm M) A) (hN : xx_w bp (layN nl bp P) A) (hS : xx_w bs (layS bs S) A) (hap : apR bm bp bs) {nw : Nat} (h12 : nw ≤ 12) {nr : Nat} (hpl : plV P nr) {ru : xS → Nat → Nat → Int32} (hru : ∀ S i j, i < nw → j < nw → outR S P i j nr 0 = ru (fS S P) i j) {nb : Nat} (hb : S.1 1 = nI nb) (h6 : nb ≤ 6) (hbd : bdV (fS S P) nw nb)  : xx_C G l yX9_tellAll mX9_tellAll 4 96 0 0 [.ref bm, .ref bs] A n (xx_wr (some (.int (tlP ru nb 0 (fS S P) 0).2)) n (fun A' => ∃ M' S', scr M M' ∧ xx_w bm (layM bp vL bn ba bm M') A' ∧ xx_w bp (layN nl bp P) A' ∧ xx_w bs (layS bs S') A' ∧ xx_rf bm bs A A' ∧ fS S' P = (tlP ru nb 0 (fS S P) 0).1 ∧ S'.2 9 = S.2 9)) := by
  obtain ⟨hap1, hap2, hap3⟩ := id hap
  refine J_C hst (by decide +kernel) rfl rfl rfl (Nat.le_of_ble_eq_true rfl) ?_
  show xx_J _ _ _ _ _ _ _ _ 0 [(0, _), (1, _)] [] _ _ _ _
  refine J_iconst (v := 0) dX9_tellAll_0 (by decide) ?_
  refine J_istore_n (L' := [(2, _), (0, _), (1, _)]) dX9_tellAll_1 rfl (by decide) rfl ?_
  refine J_iconst (v := 0) dX9_tellAll_2 (by decide) ?_
  refine J_istore_n (L' := [(3, _), (2, _), (0, _), (1, _)]) dX9_tellAll_3 rfl (by decide) rfl ?_
  have loop : ∀ k, k ≤ nb → ∀ (x c : Int32) (A1 : xx_H) (M1 S1 : xS), (x = nI k) → (xx_w bm (layM bp vL bn ba bm M1) A1) → (xx_w bp (layN nl bp P) A1) → (xx_w bs (layS bs S1) A1) → (xx_rf bm bs A A1) → (scr M M1) → (tlP ru (nb - k) k (fS S1 P) c = (tlP ru nb 0 (fS S P) 0)) → (bdV (fS S1 P) nw nb) → (S1.1 = S.1) → (S1.2 9 = S.2 9) → xx_J G l mX9_tellAll 4 96 0 0 (xx_wr (some (.int (tlP ru nb 0 (fS S P) 0).2)) n (fun A' => ∃ M' S', scr M M' ∧ xx_w bm (layM bp vL bn ba bm M') A' ∧ xx_w bp (layN nl bp P) A' ∧ xx_w bs (layS bs S') A' ∧ xx_rf bm bs A A' ∧ fS S' P = (tlP ru nb 0 (fS S P) 0).1 ∧ S'.2 9 = S.2 9)) 4 [(3, .int x), (2, .int c), (0, .ref bm), (1, .ref bs)] [] A1 n 0 0 := by
    refine xx_dn ?_ ?_
    · intro x c  A1  M1 S1  hx hM1 hN1 hS1 hs1 hsc hv hbd1 hi1 h91
      have ex : x.toInt = nb := by rw [hx]; exact i_n (by omega)
      have eb : (S1.1 1).toInt = nb := by rw [hi1, hb]; exact i_n (by omega)
      refine J_iload_n dX9_tellAll_4 rfl rfl ?_
      refine J_aload_n dX9_tellAll_5 rfl rfl ?_
      refine J_getf dX9_tellAll_6 fl_X9_151 (hS1.at 0 rfl) rfl ?_
      refine J_icmp_ge (tgt := 60) dX9_tellAll_9 rfl (fun h9 => ?_) (fun h9 => ?_)
      · refine J_iload_n dX9_tellAll_60 rfl rfl ?_
        refine J_ireturn dX9_tellAll_61 rfl rfl (by decide) (by decide) ?_
        have hv2 : (fS S1 P, c) = (tlP ru nb 0 (fS S P) 0) := by rw [← hv, Nat.sub_self]; rfl
        exact ⟨by rw [← hv2], rfl, M1, S1, hsc, hM1, hN1, hS1, hs1, by rw [← hv2], h91⟩
      · first | (exfalso; simp only [i_lt, i_le, i_eq, i_0, i_1, i_2, i_3, i_4, i_5, i_6, i_8, i_9, i_10, i_12, i_16, i_20, i_m1, i_400, i_2000] at h9; omega) | (exfalso; simp only [s_up, a_up, va_up, i_lt, i_le, i_eq, i_0, i_1, i_2, i_3, i_4, i_5, i_6, i_8, i_9, i_10, i_12, i_16, i_20, i_m1, i_400, i_2000, ↓reduceIte, Nat.reduceEqDiff] at h9; omega)
    · intro k hik ih x c  A1  M1 S1  hx hM1 hN1 hS1 hs1 hsc hv hbd1 hi1 h91
      have ex : x.toInt = k := by rw [hx]; exact i_n (by omega)
      have eb : (S1.1 1).toInt = nb := by rw [hi1, hb]; exact i_n (by omega)
      obtain ⟨i, j, e4, hi, e5, hj, eij⟩ := hbd1 k hik
      have hruv := hru S1 i j hi hj
      refine J_iload_n dX9_tellAll_4 rfl rfl ?_
      refine J_aload_n dX9_tellAll_5 rfl rfl ?_
      refine J_getf dX9_tellAll_6 fl_X9_151 (hS1.at 0 rfl) rfl ?_
      refine J_icmp_ge (tgt := 60) dX9_tellAll_9 rfl (fun h9 => ?_) (fun h9 => ?_)
      · first | (exfalso; simp only [i_lt, i_le, i_eq, i_0, i_1, i_2, i_3, i_4, i_5, i_6, i_8, i_9, i_10, i_12, i_16, i_20, i_m1, i_400, i_2000] at h9; omega) | (exfalso; simp only [s_up, a_up, va_up, i_lt, i_le, i_eq, i_0, i_1, i_2, i_3, i_4, i_5, i_6, i_8, i_9, i_10, i_12, i_16, i_20, i_m1, i_400, i_2000, ↓reduceIte, Nat.reduceEqDiff] at h9; omega)
      · refine J_aload_n dX9_tellAll_12 rfl rfl ?_
        refine J_getf dX9_tellAll_13 fl_X9_177 (hS1.at 0 rfl) rfl ?_
        refine J_iload_n dX9_tellAll_16 rfl rfl ?_
        refine J_ialdN k dX9_tellAll_17 (hS1.at 13 rfl) hx (by omega) (by decide) ?_
        refine J_iconst (v := -1) dX9_tellAll_18 (by decide) ?_
        refine J_icmp_eq (tgt := 25) dX9_tellAll_19 rfl (fun h19 => ?_) (fun h19 => ?_)
        · have hop : (fS S1 P).2 6 k = -1 := h19
          refine J_aload_n dX9_tellAll_25 rfl rfl ?_
          refine J_aload_n dX9_tellAll_26 rfl rfl ?_
          refine J_iload_n dX9_tellAll_27 rfl rfl ?_
          refine J_callVw (As := [_, _]) dX9_tellAll_28 ml_X9_201 cal_X9_ruled im_X9_ruled se_X9_ruled (hM1.at 0 rfl) rfl rfl rfl (Nat.le_of_ble_eq_true rfl) ⟨by decide, by decide⟩ ⟨by decide, by decide⟩ (c_X9_ruled (S := S1) hst hM1 hN1 hS1 hap hx (by omega) e4 (by omega) e5 (by omega) hpl) (fun A51 hQ51 => ?_)
          obtain ⟨Mh, sch, hM_51, hs_51⟩ := hQ51
          have hN_51 := hN1.mf hs_51 (m := 9) rfl hap.p
          have hS_51 := hS1.mf hs_51 (m := 14) rfl hap.s
          refine J_istore (L' := [(4, _), (3, _), (2, _), (0, _), (1, _)]) dX9_tellAll_31 (by decide) rfl ?_
          refine J_aload_n dX9_tellAll_33 rfl rfl ?_
          refine J_aload_n dX9_tellAll_34 rfl rfl ?_
          refine J_iload_n dX9_tellAll_35 rfl rfl ?_
          refine J_iload dX9_tellAll_36 rfl ?_
          refine J_callVw (As := [_, _, _]) dX9_tellAll_38 ml_X9_204 cal_X9_tell im_X9_tell se_X9_tell (hM_51.at 0 rfl) rfl rfl rfl (Nat.le_of_ble_eq_true rfl) ⟨by decide, by decide⟩ ⟨by decide, by decide⟩ (c_X9_tell (S := S1) (P := P) hst hM_51 hN_51 hS_51 hap hx (by omega) e4 (by omega) e5 (by omega) eij (outR_v hpl S1 i j nr 0 (by omega))) (fun A52 hQ52 => ?_)
          obtain ⟨St, hSt, hst_, hFt, hit, h9t⟩ := hQ52
          have hM_52 := layM_sS hM_51 hst_ hap
          have hN_52 := hN_51.s2 hst_ (m := 9) rfl (by omega)
          refine J_iload_n dX9_tellAll_41 rfl rfl ?_
          refine J_iload dX9_tellAll_42 rfl ?_
          refine J_if_ne (tgt := 51) dX9_tellAll_44 rfl (fun h44 => ?_) (fun h44 => ?_)
          · have h44b : ¬ ru (fS S1 P) i j = 0 := by rw [← hruv]; exact h44
            refine J_iconst (v := 0) dX9_tellAll_51 (by decide) ?_
            refine J_iadd dX9_tellAll_52 ?_
            refine J_istore_n (L' := [(2, _), (4, _), (3, _), (0, _), (1, _)]) dX9_tellAll_53 rfl (by decide) rfl ?_
            refine J_iinc (v := _ + 1) (L' := [(3, _), (2, _), (4, _), (0, _), (1, _)]) dX9_tellAll_54 rfl rfl (by decide) rfl ?_
            refine J_goto (tgt := 4) dX9_tellAll_57 rfl ?_
            refine xx_J.pick [0, 1, 3, 4] rfl ?_
            exact ih _ _ _ _ _ (by rw [hx]; exact nI_1 k) hM_52 hN_52 hSt ((hs1.trans hs_51.toR).trans hst_.toR) (hsc.trans sch) (by rw [← hv, tlP_s hik, if_pos hop, e4, e5, nI_clamp (by omega), nI_clamp (by omega), hFt, hruv]; first | rw [if_pos h44b] | rw [if_neg h44b]) (by rw [hFt]; exact bdV_tell hbd1) (hit.trans hi1) (h9t.trans h91)
          · have h44b : ru (fS S1 P) i j = 0 := by rw [← hruv]; exact h44
            refine J_iconst (v := 1) dX9_tellAll_47 (by decide) ?_
            refine J_goto (tgt := 52) dX9_tellAll_48 rfl ?_
            refine J_iadd dX9_tellAll_52 ?_
            refine J_istore_n (L' := [(2, _), (4, _), (3, _), (0, _), (1, _)]) dX9_tellAll_53 rfl (by decide) rfl ?_
            refine J_iinc (v := _ + 1) (L' := [(3, _), (2, _), (4, _), (0, _), (1, _)]) dX9_tellAll_54 rfl rfl (by decide) rfl ?_
            refine J_goto (tgt := 4) dX9_tellAll_57 rfl ?_
            refine xx_J.pick [0, 1, 3, 4] rfl ?_
            exact ih _ _ _ _ _ (by rw [hx]; exact nI_1 k) hM_52 hN_52 hSt ((hs1.trans hs_51.toR).trans hst_.toR) (hsc.trans sch) (by rw [← hv, tlP_s hik, if_pos hop, e4, e5, nI_clamp (by omega), nI_clamp (by omega), hFt, hruv]; first | rw [if_pos h44b] | rw [if_neg h44b]) (by rw [hFt]; exact bdV_tell hbd1) (hit.trans hi1) (h9t.trans h91)
        · have hop : ¬ (fS S1 P).2 6 k = -1 := h19
          refine J_goto (tgt := 54) dX9_tellAll_22 rfl ?_
          refine J_iinc (v := _ + 1) (L' := [(3, _), (2, _), (0, _), (1, _)]) dX9_tellAll_54 rfl rfl (by decide) rfl ?_
          refine J_goto (tgt := 4) dX9_tellAll_57 rfl ?_
          refine xx_J.pick [0, 1, 2, 3] rfl ?_
          exact ih _ _ _ _ _ (by rw [hx]; exact nI_1 k) hM1 hN1 hS1 hs1 hsc (by rw [← hv, tlP_s hik, if_neg hop]) hbd1 hi1 h91
  refine xx_J.pick [0, 1, 2, 3] rfl ?_
  exact loop 0 (by omega) _ _ _ M S rfl hM hN hS (xx_rf.rf (bm := bm) (bs := bs)) scr.rf rfl hbd rfl rfl
end XS9
