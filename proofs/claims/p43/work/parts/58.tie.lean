/-! THE REFERENCE: its calls that change nothing -/
section XSN
variable {G : xx_G} {l : Launch} {A A' : xx_H} {n : Nat} {bm bp bs bn ba : Nat} {vL nl : Nat → Int64} {M M' M1 P P' S S1 : xS} {T : xS} {len i j k q s e t d nt tok v m nw nb r : Nat} {tk : Nat → Nat}
theorem xx_w.cell {b z : Nat} {e : va_E} (h : A (b + z) = some e) : xx_w (b + z) [(0, e)] A := xx_w_cons h xx_w_nil
end XSN
/-! THE REFERENCE: its calls, on -/
section XSO
variable {G : xx_G} {l : Launch} {A A' : xx_H} {n : Nat} {bm bp bs bn ba : Nat} {vL nl : Nat → Int64} {M M' M1 P P' S S1 : xS} {T : xS} {len i j k q s e t d nt tok v m nw nb r : Nat} {tk : Nat → Nat}
theorem wi_nI {a : Nat} (h : a < 1000) : wi (nI a) = a := nI_clamp (by omega)
end XSO
/-! THE REFERENCE: its calls that change something -/
section XSP
variable {G : xx_G} {l : Launch} {A A' : xx_H} {n : Nat} {bm bp bs bn ba : Nat} {vL nl : Nat → Int64} {M M' M1 P P' S S1 : xS} {T : xS} {len i j k q s e t d nt tok v m nw nb r : Nat} {tk : Nat → Nat}
theorem v012 {v : Int32} (h : 0 ≤ v ∧ v ≤ 2) : v = 0 ∨ v = 1 ∨ v = 2 := by
  have e0 : (0 : Int32).toInt = 0 := rfl
  have e2 : (2 : Int32).toInt = 2 := rfl
  rw [Int32.le_iff_toInt_le, Int32.le_iff_toInt_le, e0, e2] at h
  rcases (show v.toInt = 0 ∨ v.toInt = 1 ∨ v.toInt = 2 by omega) with z | z | z
  · exact Or.inl (Int32.toInt_inj.mp z)
  · exact Or.inr (Or.inl (Int32.toInt_inj.mp z))
  · exact Or.inr (Or.inr (Int32.toInt_inj.mp z))
end XSP
/-! THE REFERENCE: what would be -/
section XSQ
variable {G : xx_G} {l : Launch} {A A' : xx_H} {n : Nat} {bm bp bs bn ba : Nat} {vL nl : Nat → Int64} {M M' M1 P P' S S1 F F' : xS} {T : xS} {len i j k q s e t d nt tok v m nw nb r : Nat} {tk : Nat → Nat} {ru ru' : xS → Nat → Nat → Int32}
theorem ga_eq (hrv : ∀ F i j, ru F i j = 0 ∨ ru F i j = 1 ∨ ru F i j = 2) (hrc : ∀ nb F F' i j, eqF nw nb F F' → i < nw → j < nw → ru F i j = ru' F' i j) (h : eqF nw nb F F') (hok : okF F nw nb r) (m : Nat) : ∃ nb' r', eqF nw nb' (gaF ru nw nb m F) (gaF ru' nw nb m F') ∧ okF (gaF ru nw nb m F) nw nb' r' := by
  have t := eqF.tl (ru := ru) (ru' := ru') hok.1.2 (hrc nb) nb 0 F F' 0 (by omega) h hok.2.2.2.2.2.2.1
  have ok := (okF.tla hrv hok).1
  obtain ⟨r', k⟩ := okF.ga hrv m _ nb r ok
  exact ⟨_, r', (eqF.ga hrv hrc m _ _ nb r t.1 ok).2, k⟩
theorem r10 {w : Int32} (h : 1 ≤ w ∧ w ≤ 10) : w = nI (wi w) ∧ wi w ≤ 10 := by
  have e0 : (1 : Int32).toInt = 1 := rfl
  have e2 : (10 : Int32).toInt = 10 := rfl
  rw [Int32.le_iff_toInt_le, Int32.le_iff_toInt_le, e0, e2] at h
  have hw : (wi w : Int) = w.toInt := by
    show ((w.toInt.toNat : Nat) : Int) = _
    omega
  refine ⟨?_, by omega⟩
  apply Int32.toInt_inj.mp
  rw [i_n (by omega)]
  exact hw.symm
/-- trim: what it answers, and the tape behind it -/
def aTrim (len : Nat) (w : Int32) : Ans := if 0 ≤ w ∧ w ≤ nI len then (0, w) else (1, 0)
def nTrim (len : Nat) (w : Int32) : Nat := if 0 ≤ w ∧ w ≤ nI len then wi w else len
theorem trim_i {w : Int32} (h20 : len ≤ 2000) (h : 0 ≤ w ∧ w ≤ nI len) : w = nI (wi w) ∧ wi w ≤ len := by
  have e0 : (0 : Int32).toInt = 0 := rfl
  rw [Int32.le_iff_toInt_le, Int32.le_iff_toInt_le, e0, i_n (by omega)] at h
  have hw : (wi w : Int) = w.toInt := by
    show ((w.toInt.toNat : Nat) : Int) = _
    omega
  refine ⟨?_, by omega⟩
  apply Int32.toInt_inj.mp
  rw [i_n (by omega)]
  exact hw.symm
end XSQ
/-! THE ANSWERS ARE THE SAME OVER FIELDS THAT AGREE -/
section XTI
variable {F F' : xS} {nw nb r : Nat} {w v x : Int32} {ru : xS → Nat → Nat → Int32}
theorem if_c {α : Type} {p c : Prop} [Decidable p] [Decidable c] (h : p ↔ c) {a a' b : α} (ha : p → a = a') : (if p then a else b) = if c then a' else b := by
  by_cases hp : p
  · rw [if_pos hp, if_pos (h.mp hp), ha hp]
  · rw [if_neg hp, if_neg (fun z => hp (h.mpr z))]
theorem aOf_c (he : eqF nw nb F F') (hok : okF F nw nb r) {c : Nat} (hc : c < 10) : aOf c F w = aOf c F' w :=
  if_c he.oW fun h => by rw [he.2.2.1 c _ hc (h.i hok.1.1 hok.1.2).2]
theorem aRpt_c (he : eqF nw nb F F') (hok : okF F nw nb r) : aRpt nw F w = aRpt nw F' w :=
  if_c he.oW fun h => by rw [he.rp (h.i hok.1.1 hok.1.2).2]
theorem rkN_c (he : eqF nw nb F F') {i : Nat} (hi : i < nw) : rkN (f_R F nw) nw i = rkN (f_R F' nw) nw i := by
  unfold rkN
  exact List.countP_congr fun a ha => by rw [he.R (List.mem_range.mp ha) hi]
theorem aRnk_c (he : eqF nw nb F F') (hok : okF F nw nb r) : aRnk nw F w = aRnk nw F' w :=
  if_c he.oW fun h => by rw [rkN_c he (h.i hok.1.1 hok.1.2).2]
theorem aIn_c (he : eqF nw nb F F') (hok : okF F nw nb r) : aIn F w = aIn F' w :=
  if_c he.oW fun h => by rw [he.2.2.1 8 _ (by decide) (h.i hok.1.1 hok.1.2).2]
theorem aAt_c (he : eqF nw nb F F') : aAt nw F w = aAt nw F' w :=
  if_c he.oW fun _ => by rw [he.ls]
theorem aMet_c (he : eqF nw nb F F') (hok : okF F nw nb r) : aMet F w v = aMet F' w v :=
  if_c he.oW fun h => if_c he.oW fun h2 => by rw [he.2.2.2.1 _ _ (h.i hok.1.1 hok.1.2).2 (h2.i hok.1.1 hok.1.2).2]
theorem aRed_c (he : eqF nw nb F F') (hok : okF F nw nb r) : aRed F w = aRed F' w :=
  if_c he.oB fun h => by rw [(he.2.2.2.2 _ (h.i hok.2.1.1 hok.2.1.2).2).1]
theorem aBlu_c (he : eqF nw nb F F') (hok : okF F nw nb r) : aBlu F w = aBlu F' w :=
  if_c he.oB fun h => by rw [(he.2.2.2.2 _ (h.i hok.2.1.1 hok.2.1.2).2).2.1]
theorem aOut_c (he : eqF nw nb F F') (hok : okF F nw nb r) : aOut F w = aOut F' w :=
  if_c he.oB fun h => by rw [(he.2.2.2.2 _ (h.i hok.2.1.1 hok.2.1.2).2).2.2]
theorem aRul_c (hrc : ∀ nb F F' i j, eqF nw nb F F' → i < nw → j < nw → ru F i j = ru F' i j) (he : eqF nw nb F F') (hok : okF F nw nb r) : aRul ru F w = aRul ru F' w :=
  if_c he.oB fun h => by
    have hq := (h.i hok.2.1.1 hok.2.1.2).2
    obtain ⟨i, j, e4, hi, e5, hj, -⟩ := hok.2.2.2.2.2.2.1 _ hq
    have h12 := hok.1.2
    rw [← (he.2.2.2.2 _ hq).1, ← (he.2.2.2.2 _ hq).2.1, e4, e5, wi_nI (by omega), wi_nI (by omega), hrc nb F F' i j he hi hj]
theorem riv_c {f g f' g' : Nat → Int32} : ∀ d i, (∀ q, q < i + d → f q = f' q ∧ g q = g' q) → rivAt f g w d i = rivAt f' g' w d i := by
  intro d
  induction d with
  | zero => intro i _; rfl
  | succ d ih =>
    intro i h
    show (if f i = w then g i else if g i = w then f i else rivAt f g w d (i + 1)) = if f' i = w then g' i else if g' i = w then f' i else rivAt f' g' w d (i + 1)
    rw [(h i (by omega)).1, (h i (by omega)).2, ih (i + 1) (fun q hq => h q (by omega))]
theorem aOpp_c (he : eqF nw nb F F') : aOpp nb F w = aOpp nb F' w :=
  if_c he.oW fun _ => by rw [riv_c nb 0 (fun q hq => ⟨(he.2.2.2.2 q (by omega)).1, (he.2.2.2.2 q (by omega)).2.1⟩)]
theorem aRst_c (he : eqF nw nb F F') : aRst F = aRst F' := by unfold aRst; rw [he.1.2.2.2]
theorem can_c (he : eqF nw nb F F') : canB F nw nb = true ↔ canB F' nw nb = true := by rw [he.can]
theorem aPair_c (he : eqF nw nb F F') (hok : okF F nw nb r) : aPair nw nb F = aPair nw nb F' :=
  if_c (can_c he) fun h => by rw [(he.pairs (hok.rnd h).2.2.1).1]
theorem rnd_c (he : eqF nw nb F F') (hok : okF F nw nb r) (h : canB F nw nb = true) : eqF nw (npF F nw) (roundF F nw) (roundF F' nw) := by
  obtain ⟨e1, e2, e3, e4, -⟩ := he.pairs (hok.rnd h).2.2.1
  obtain ⟨p1, p2⟩ := prs_ok (F := F) hok.1.2
  unfold roundF
  rw [← e1, ← e2, ← e3, ← e4]
  exact he.round hok.1.2 p1 p2
theorem tlB_c (he : eqF nw nb F F') (hok : okF F nw nb r) (h : okB F w) : eqF nw nb (tlB F w v) (tlB F' w v) := by
  have hq := (h.i hok.2.1.1 hok.2.1.2).2
  obtain ⟨i, j, e4, hi, e5, hj, -⟩ := hok.2.2.2.2.2.2.1 _ hq
  have h12 := hok.1.2
  show eqF nw nb (tellF F (wi w) (wi (F.2 4 (wi w))) (wi (F.2 5 (wi w))) v) (tellF F' (wi w) (wi (F'.2 4 (wi w))) (wi (F'.2 5 (wi w))) v)
  rw [← (he.2.2.2.2 _ hq).1, ← (he.2.2.2.2 _ hq).2.1, e4, e5, wi_nI (by omega), wi_nI (by omega)]
  exact he.tell h12 hi hj
theorem aTell_c (he : eqF nw nb F F') (hok : okF F nw nb r) : aTell nb F w v = aTell nb F' w v :=
  if_c he.oB fun h => by
    have hq := (h.i hok.2.1.1 hok.2.1.2).2
    rw [(he.2.2.2.2 _ hq).2.2, opn_congr (fun q hq => ((tlB_c (v := v) he hok h).2.2.2.2 q hq).2.2)]
theorem sTell_c (he : eqF nw nb F F') (hok : okF F nw nb r) : eqF nw nb (sTell F w v) (sTell F' w v) := by
  unfold sTell
  by_cases h : okB F w
  · rw [if_pos h, if_pos (he.oB.mp h)]
    by_cases h2 : 0 ≤ v ∧ v ≤ 2
    · rw [if_pos h2, if_pos h2, (he.2.2.2.2 _ (h.i hok.2.1.1 hok.2.1.2).2).2.2]
      by_cases h3 : F'.2 6 (wi w) = -1
      · rw [if_pos h3, if_pos h3]; exact tlB_c he hok h
      · rw [if_neg h3, if_neg h3]; exact he
    · rw [if_neg h2, if_neg h2]; exact he
  · rw [if_neg h, if_neg (fun z => h (he.oB.mpr z))]; exact he
theorem tlB_ok (hok : okF F nw nb r) (h : okB F w) (h2 : 0 ≤ v ∧ v ≤ 2) (h3 : F.2 6 (wi w) = -1) : okF (tlB F w v) nw nb r := by
  have hq := (h.i hok.2.1.1 hok.2.1.2).2
  obtain ⟨i, j, e4, hi, e5, hj, hij⟩ := hok.2.2.2.2.2.2.1 _ hq
  have h12 := hok.1.2
  show okF (tellF F (wi w) (wi (F.2 4 (wi w))) (wi (F.2 5 (wi w))) v) nw nb r
  rw [e4, e5, wi_nI (by omega), wi_nI (by omega)]
  exact hok.tell hq h3 hi hj hij (v012 h2)
theorem op_c (he : eqF nw nb F F') : bx_sum (opn (F.2 6)) nb = bx_sum (opn (F'.2 6)) nb := opn_congr fun q hq => (he.2.2.2.2 q hq).2.2
theorem tl_c (hrc : ∀ nb F F' i j, eqF nw nb F F' → i < nw → j < nw → ru F i j = ru F' i j) (he : eqF nw nb F F') (hok : okF F nw nb r) : eqF nw nb (tlP ru nb 0 F 0).1 (tlP ru nb 0 F' 0).1 ∧ (tlP ru nb 0 F 0).2 = (tlP ru nb 0 F' 0).2 :=
  eqF.tl (ru := ru) (ru' := ru) hok.1.2 (hrc nb) nb 0 F F' 0 (by omega) he hok.2.2.2.2.2.2.1
theorem aTBR_c (hrc : ∀ nb F F' i j, eqF nw nb F F' → i < nw → j < nw → ru F i j = ru F' i j) (he : eqF nw nb F F') (hok : okF F nw nb r) : aTBR ru nb F = aTBR ru nb F' := by
  unfold aTBR
  rw [op_c he, (tl_c hrc he hok).2]
theorem sTBR_c (hrc : ∀ nb F F' i j, eqF nw nb F F' → i < nw → j < nw → ru F i j = ru F' i j) (he : eqF nw nb F F') (hok : okF F nw nb r) : eqF nw nb (sTBR ru nb F) (sTBR ru nb F') := by
  unfold sTBR
  rw [op_c he]
  split
  · exact he
  · exact (tl_c hrc he hok).1
theorem tuF_at {i c q : Nat} (hc : c < 12) (hw : wi w < 12) : (tuF F w).2 2 (q * 12 + c) = if q = 8 ∧ c = wi w then 1 - F.2 2 (8 * 12 + wi w) else F.2 2 (q * 12 + c) := by
  show upd (F.2 2) (8 * 12 + wi w) (1 - F.2 2 (8 * 12 + wi w)) (q * 12 + c) = _
  simp only [upd]
  by_cases h : q = 8 ∧ c = wi w
  · rw [if_pos h, if_pos (by omega)]
  · rw [if_neg h, if_neg (by omega)]
theorem tuF_c (he : eqF nw nb F F') (h12 : nw ≤ 12) (hw : wi w < nw) : eqF nw nb (tuF F w) (tuF F' w) := by
  refine ⟨he.1, he.2.1, fun c i hc hi => ?_, he.2.2.2.1, he.2.2.2.2⟩
  rw [tuF_at (i := 0) (by omega) (by omega), tuF_at (i := 0) (by omega) (by omega), he.2.2.1 8 _ (by decide) hw, he.2.2.1 c i hc hi]
theorem tuF_ok (hok : okF F nw nb r) (hw : wi w < nw) : okF (tuF F w) nw nb r := by
  obtain ⟨a1, a2, a3, a4, a5, a6, a7, a8, a9⟩ := hok
  have h12 := a1.2
  refine ⟨a1, a2, a3, fun i hi => ?_, a5, a6, a7, fun i hi => ?_, a9⟩
  · rw [tuF_at (i := 0) (by omega) (by omega), if_neg (by omega)]; exact a4 i hi
  · rw [tuF_at (i := 0) (by omega) (by omega)]
    split
    · rcases a8 (wi w) hw with h | h <;> rw [h]
      · exact Or.inr rfl
      · exact Or.inl rfl
    · exact a8 i hi
theorem aTurn_c (he : eqF nw nb F F') (hok : okF F nw nb r) : aTurn F w = aTurn F' w :=
  if_c he.oW fun h => by rw [he.2.2.1 8 _ (by decide) (h.i hok.1.1 hok.1.2).2]
theorem sTurn_c (he : eqF nw nb F F') (hok : okF F nw nb r) : eqF nw nb (sTurn F w) (sTurn F' w) := by
  unfold sTurn
  by_cases h : okW F w
  · rw [if_pos h, if_pos (he.oW.mp h)]; exact tuF_c he hok.1.2 (h.i hok.1.1 hok.1.2).2
  · rw [if_neg h, if_neg (fun z => h (he.oW.mpr z))]; exact he
theorem aNxt_c (he : eqF nw nb F F') (hok : okF F nw nb r) : aNxt nw nb F w = aNxt nw nb F' w :=
  if_c he.oW fun _ => if_c (can_c he) fun h => by
    obtain ⟨e1, e2, e3, e4, -⟩ := he.pairs (hok.rnd h).2.2.1
    unfold rivN
    rw [e1, e3, e4]
theorem rm_mr (h12 : nw ≤ 12) : rmN F (p1F F nw) (p2F F nw) (npF F nw) = nI (mr (fd_m F (lsF F nw) nw) (fd_k F (lsF F nw) nw) (npF F nw) (2 ^ fd_k F (lsF F nw) nw - 1)) := by
  obtain ⟨met, hmet⟩ : ∃ m, m = fd_m F (lsF F nw) nw := ⟨_, rfl⟩
  obtain ⟨k, hk⟩ : ∃ k, k = fd_k F (lsF F nw) nw := ⟨_, rfl⟩
  have hk12 : k ≤ 12 := by rw [hk]; exact Nat.le_trans (rs_le _) (Nat.le_trans lup_len h12)
  have hke : k = 2 * npF F nw := by
    have := rs_ev2 (lup F (lsF F nw) nw).length
    rw [hk]; exact this
  have key : ∀ i, i ≤ npF F nw → ∃ ri, rmN F (p1F F nw) (p2F F nw) i = nI ri ∧ ri + mr met k (npF F nw - i) (setAt met k (npF F nw) i) = mr met k (npF F nw) (2 ^ k - 1) := by
    intro i
    induction i with
    | zero => intro _; exact ⟨0, rfl, by rw [Nat.zero_add]; rfl⟩
    | succ i ih =>
      intro hi
      obtain ⟨ri, e1, e2⟩ := ih (by omega)
      obtain ⟨s1, s2⟩ := setAt_ok (met := met) hk12 hke i (by omega)
      have hp : npF F nw - i = (npF F nw - (i + 1)) + 1 := by omega
      rw [hp] at s2
      obtain ⟨-, g2, -⟩ := prt_spec (met := met) hk12 s1 s2 (by omega)
      have hm : (F.2 3 (p1F F nw i * 12 + p2F F nw i) > 0) ↔ met (low (setAt met k (npF F nw) i)) (prt met k (npF F nw - (i + 1)) (setAt met k (npF F nw) i)) = true := by
        subst hmet hk
        exact decide_eq_true_iff.symm
      have st : rmN F (p1F F nw) (p2F F nw) (i + 1) = rmN F (p1F F nw) (p2F F nw) i + (if F.2 3 (p1F F nw i * 12 + p2F F nw i) > 0 then 1 else 0) := rfl
      have sa : setAt met k (npF F nw) (i + 1) = clr (clr (setAt met k (npF F nw) i) (low (setAt met k (npF F nw) i))) (prt met k (npF F nw - (i + 1)) (setAt met k (npF F nw) i)) := rfl
      rw [hp, ← g2] at e2
      by_cases c : F.2 3 (p1F F nw i * 12 + p2F F nw i) > 0
      · refine ⟨ri + 1, by rw [st, if_pos c, e1]; exact nI_1 ri, ?_⟩
        have e3 : mr_g met k (npF F nw - (i + 1)) (setAt met k (npF F nw) i) (prt met k (npF F nw - (i + 1)) (setAt met k (npF F nw) i)) = mr met k (npF F nw - (i + 1)) (setAt met k (npF F nw) (i + 1)) + 1 := by
          rw [sa]; show _ + (if met _ _ = true then 1 else 0) = _; rw [if_pos (hm.mp c)]
        rw [e3] at e2
        omega
      · refine ⟨ri, by rw [st, if_neg c, e1]; exact Int32.add_zero _, ?_⟩
        have e3 : mr_g met k (npF F nw - (i + 1)) (setAt met k (npF F nw) i) (prt met k (npF F nw - (i + 1)) (setAt met k (npF F nw) i)) = mr met k (npF F nw - (i + 1)) (setAt met k (npF F nw) (i + 1)) + 0 := by
          rw [sa]; show _ + (if met _ _ = true then 1 else 0) = _; rw [if_neg (fun z => c (hm.mpr z))]
        rw [e3] at e2
        omega
  obtain ⟨ri, e1, e2⟩ := key (npF F nw) (Nat.le_refl _)
  rw [Nat.sub_self] at e2
  have e0 : mr met k 0 (setAt met k (npF F nw) (npF F nw)) = 0 := rfl
  rw [e0, Nat.add_zero] at e2
  rw [e1, e2, hmet, hk]
theorem aRem_c (he : eqF nw nb F F') (hok : okF F nw nb r) : aRem nw nb F = aRem nw nb F' :=
  if_c (can_c he) fun h => by
    obtain ⟨e1, e2, e3, e4, e5⟩ := he.pairs (hok.rnd h).2.2.1
    rw [rm_mr hok.1.2, rm_mr hok.1.2, e5]
theorem aLead_c (hrv : ∀ F i j, ru F i j = 0 ∨ ru F i j = 1 ∨ ru F i j = 2) (hrc : ∀ nb F F' i j, eqF nw nb F F' → i < nw → j < nw → ru F i j = ru F' i j) (he : eqF nw nb F F') (hok : okF F nw nb r) : aLead ru nw nb F w = aLead ru nw nb F' w := by
  unfold aLead
  rw [he.1.1]
  obtain ⟨nb', r', e, -⟩ := ga_eq (ru := ru) (ru' := ru) hrv hrc he hok (wi w)
  rw [e.ls]
theorem aPtA_c (hrv : ∀ F i j, ru F i j = 0 ∨ ru F i j = 1 ∨ ru F i j = 2) (hrc : ∀ nb F F' i j, eqF nw nb F F' → i < nw → j < nw → ru F i j = ru F' i j) (he : eqF nw nb F F') (hok : okF F nw nb r) : aPtA ru nw nb F w v = aPtA ru nw nb F' w v :=
  if_c he.oW fun h => by
    obtain ⟨nb', r', e, -⟩ := ga_eq (ru := ru) (ru' := ru) hrv hrc he hok (wi v)
    rw [e.2.2.1 1 _ (by decide) (h.i hok.1.1 hok.1.2).2]
end XTI
/-! THE REFERENCE: feed -/
section XSR
variable {G : xx_G} {l : Launch} {A A' : xx_H} {n : Nat} {bm bp bs bn ba : Nat} {vL nl : Nat → Int64} {M M' M1 P P' S S1 F F' : xS} {T : xS} {len i j k q s e t d nt tok v m nw nb r : Nat} {tk : Nat → Nat}
/-- feed: what it answers, how many bytes behind it, the bytes -/
def aFeed (len : Nat) : Ans := if len ≤ 1980 then (0, nI (len + 20)) else (1, 0)
def nFeed (len : Nat) : Nat := if len ≤ 1980 then len + 20 else len
end XSR
