/-! THE LANGUAGE: lines, and what is checked behind -/
section XBK
/-- fits; at which token; (token, what it means) in their order; the rules: outcome and steps -/
abbrev BRes : Type := Bool × Nat × List (Nat × Nat) × List (Int32 × List (Int32 × Int32))
variable (tk : Nat → Nat) (num : Nat → Int32)
def wrsW (k : Nat) : BRes := if ¬ tk k = 35 then (false, k, [], []) else if ¬ tk (k + 1) = 1 then (false, k + 1, [], []) else if ¬ tk (k + 2) = 36 then (false, k + 2, [], []) else (true, k + 3, [(k, 1), (k + 2, 3)], [])
def ptsW (k : Nat) : BRes := if ¬ tk k = 36 then (false, k, [], []) else if ¬ tk (k + 1) = 36 then (false, k + 1, [], []) else if ¬ tk (k + 2) = 36 then (false, k + 2, [], []) else (true, k + 3, [(k, 4), (k + 1, 5), (k + 2, 6)], [])
/-- an outcome (-1: none) and the token behind -/
def oucW (k : Nat) : Int32 × Nat := if tk k = 3 then (1, k + 1) else if tk k = 6 then (if tk (k + 1) = 8 then (0, k + 2) else (-1, k + 1)) else if tk k = 7 then (if tk (k + 1) = 8 then (2, k + 2) else (-1, k + 1)) else (-1, k)
def rulW (k : Nat) : BRes := if (oucW tk k).1 = -1 then (false, (oucW tk k).2, [], []) else if tk (oucW tk k).2 = 9 then (if (pT tk num ((oucW tk k).2 + 1)).1 = true then (true, (pT tk num ((oucW tk k).2 + 1)).2.1, [(k - 1, 2)], [((oucW tk k).1, (pT tk num ((oucW tk k).2 + 1)).2.2)]) else (false, (pT tk num ((oucW tk k).2 + 1)).2.1, [], [])) else (true, (oucW tk k).2, [(k - 1, 2)], [((oucW tk k).1, [])])
def linW (k : Nat) : BRes := if tk k = 0 then wrsW tk (k + 1) else if tk k = 2 then ptsW tk (k + 1) else if tk k = 5 then rulW tk num (k + 1) else (false, k, [], [])
def bokW : Nat → Nat → List (Nat × Nat) → List (Int32 × List (Int32 × Int32)) → BRes
  | 0, k, its, rs => (true, k, its, rs)
  | f + 1, k, its, rs => if tk k = 37 then (true, k, its, rs) else if (linW tk num k).1 = true then (if tk (linW tk num k).2.1 = 24 then bokW f ((linW tk num k).2.1 + 1) (its ++ (linW tk num k).2.2.1) (rs ++ (linW tk num k).2.2.2) else (false, (linW tk num k).2.1, its, rs)) else (false, (linW tk num k).2.1, its, rs)
/-- an error is noted, the first one only -/
def noteC (E : Int32 × Int32) (c p : Int32) : Int32 × Int32 := if E.1 = 0 ∧ ¬ c = 0 then (c, p) else E
/-- what is told: wrestlers (token of the name, how strong), the name that waits, the worths, how many rules, the error and its place -/
abbrev Told : Type := List (Nat × Int32) × Nat × (Nat → Int32) × Nat × (Int32 × Int32)
def told0 : Told := ([], 0, fun q => if q = 1 then 1 else 2, 0, (0, -1))
def dupK (same : Nat → Nat → Bool) (L : List (Nat × Int32)) (t : Nat) : Bool := (L.take 12).any (fun q => same q.1 t)
def chkS (same : Nat → Nat → Bool) (num : Nat → Int32) (pos : Nat → Int32) (s : Told) (it : Nat × Nat) : Told := match it.2 with
  | 1 => (s.1, it.1, s.2.2.1, s.2.2.2.1, noteC s.2.2.2.2 (if dupK same s.1 it.1 = true then 2 else if 12 ≤ s.1.length then 4 else 0) (pos it.1))
  | 2 => (s.1, s.2.1, s.2.2.1, s.2.2.2.1 + 1, noteC s.2.2.2.2 (if 16 ≤ s.2.2.2.1 then 4 else 0) (pos it.1))
  | 3 => (s.1 ++ [(s.2.1, num it.1)], s.2.1, s.2.2.1, s.2.2.2.1, noteC s.2.2.2.2 (if num it.1 < 1 ∨ 999 < num it.1 then 5 else 0) (pos it.1))
  | m => (s.1, s.2.1, upd s.2.2.1 (m - 4) (num it.1), s.2.2.2.1, noteC s.2.2.2.2 (if num it.1 < 0 ∨ 9 < num it.1 then 5 else 0) (pos it.1))
def chkL (same : Nat → Nat → Bool) (num : Nat → Int32) (pos : Nat → Int32) (its : List (Nat × Nat)) : Told := its.foldl (chkS same num pos) told0
variable {tk : Nat → Nat} {num : Nat → Int32} {tok : Nat}
/-- where a line ends -/
theorem wrs_ok (hn : nxt tk tok) {k : Nat} (hk : k < tok) : k ≤ (wrsW tk k).2.1 ∧ (wrsW tk k).2.1 < tok := by
  unfold wrsW
  split
  · simp; exact hk
  rename_i h1
  have := hn k hk (by omega) (by omega)
  split
  · simp; exact this
  rename_i h2
  have := hn _ this (by omega) (by omega)
  split
  · simp; exact this
  rename_i h3
  have := hn (k + 2) this (by omega) (by omega)
  simp; exact this
theorem pts_ok (hn : nxt tk tok) {k : Nat} (hk : k < tok) : k ≤ (ptsW tk k).2.1 ∧ (ptsW tk k).2.1 < tok := by
  unfold ptsW
  split
  · simp; exact hk
  rename_i h1
  have := hn k hk (by omega) (by omega)
  split
  · simp; exact this
  rename_i h2
  have := hn _ this (by omega) (by omega)
  split
  · simp; exact this
  rename_i h3
  have := hn (k + 2) this (by omega) (by omega)
  simp; exact this
theorem ouc_ok (hn : nxt tk tok) {k : Nat} (hk : k < tok) : k ≤ (oucW tk k).2 ∧ (oucW tk k).2 < tok := by
  unfold oucW
  split
  · rename_i h; have := hn k hk (by omega) (by omega); simp; exact this
  split
  · rename_i h
    have := hn k hk (by omega) (by omega)
    split
    · rename_i h2; have := hn _ this (by omega) (by omega); simp; exact this
    · simp; exact this
  split
  · rename_i h
    have := hn k hk (by omega) (by omega)
    split
    · rename_i h2; have := hn _ this (by omega) (by omega); simp; exact this
    · simp; exact this
  · simp; exact hk
theorem rul_ok (hn : nxt tk tok) {k : Nat} (hk : k < tok) : k ≤ (rulW tk num k).2.1 ∧ (rulW tk num k).2.1 < tok := by
  have a := ouc_ok hn hk
  unfold rulW
  split
  · exact a
  split
  · rename_i h
    have c := hn _ a.2 (by omega) (by omega)
    have e := ok_pT (num := num) hn _ c
    have e1 := e.1
    have e2 : k ≤ (pT tk num ((oucW tk k).2 + 1)).2.1 := by omega
    split <;> exact ⟨e2, e.2.1⟩
  · exact a
theorem lin_ok (hn : nxt tk tok) {k : Nat} (hk : k < tok) : k ≤ (linW tk num k).2.1 ∧ (linW tk num k).2.1 < tok := by
  unfold linW
  split
  · have := wrs_ok hn (hn k hk (by omega) (by omega)); omega
  split
  · have := pts_ok hn (hn k hk (by omega) (by omega)); omega
  split
  · have := rul_ok (num := num) hn (hn k hk (by omega) (by omega)); omega
  · exact ⟨Nat.le_refl _, hk⟩
theorem noteC_e {E : Int32 × Int32} {c p : Int32} (h : ¬ E.1 = 0) : noteC E c p = E := by unfold noteC; rw [if_neg (fun z => h z.1)]
theorem noteC_0 {E : Int32 × Int32} {p : Int32} : noteC E 0 p = E := by unfold noteC; rw [if_neg (fun z => z.2 rfl)]
theorem noteC_c {E : Int32 × Int32} {c p : Int32} (h : E.1 = 0) (hc : ¬ c = 0) : noteC E c p = (c, p) := by unfold noteC; rw [if_pos ⟨h, hc⟩]
theorem noteC_2 {E : Int32 × Int32} {c d p : Int32} (hc : ¬ c = 0) : noteC (noteC E c p) d p = noteC E c p := by
  by_cases h : E.1 = 0
  · rw [noteC_c h hc]; exact noteC_e hc
  · rw [noteC_e h]; exact noteC_e h
end XBK
/-! READER: lines -/
section XRB
variable {G : xx_G} {l : Launch} {A A' : xx_H} {n : Nat} {b bt bu : Nat} {D T R : xS} {sg : Nat → Option Nat} {T0 : xS} {len tok k : Nat}
theorem atD_id (h : D.1 6 = nI k) : atD D k = D := by
  refine Prod.ext ?_ rfl
  funext q
  show va_up D.1 6 (nI k) q = D.1 q
  simp only [va_up]
  split
  · rename_i hq; rw [hq, h]
  · rfl
theorem wD_at (w : xx_w b (layD bt bu b D) A) (h : D.1 6 = nI k) : xx_w b (layD bt bu b (atD D k)) A := by rw [atD_id h]; exact w
theorem wD_1 (w : xx_w b (layD bt bu b (s_up D 6 (D.1 6 + 1))) A) (h : D.1 6 = nI k) : xx_w b (layD bt bu b (atD D (k + 1))) A := by rw [h, nI_1] at w; exact w
/-- D' is D but for the error -/
def rdF (D D' : xS) (E : Int32 × Int32) : Prop := D'.1 5 = D.1 5 ∧ D'.1 6 = D.1 6 ∧ D'.2 = D.2 ∧ (D'.1 7, D'.1 8) = E
theorem neD_f (D T : xS) {e : Int32} (he : ¬ e = 0) (t : Nat) : rdF D (neD D T e t) (noteC (D.1 7, D.1 8) e (T.2 3 t)) := by
  unfold neD
  split
  · rename_i h; exact ⟨rfl, rfl, rfl, (noteC_c h he).symm⟩
  · rename_i h; exact ⟨rfl, rfl, rfl, (noteC_e h).symm⟩
theorem tnD_f (D T : xS) (v lo hi : Int32) (k : Nat) : (tnD D T v lo hi k).1 5 = D.1 5 ∧ (tnD D T v lo hi k).1 6 = D.1 6 + 1 ∧ (tnD D T v lo hi k).2 = D.2 ∧ ((tnD D T v lo hi k).1 7, (tnD D T v lo hi k).1 8) = noteC (D.1 7, D.1 8) (if v < lo ∨ hi < v then 5 else 0) (T.2 3 k) := by
  have key : rdF D (tnE D T v lo hi k) (noteC (D.1 7, D.1 8) (if v < lo ∨ hi < v then 5 else 0) (T.2 3 k)) := by
    unfold tnE
    split
    · exact neD_f D T (by decide) k
    · exact ⟨rfl, rfl, rfl, noteC_0.symm⟩
  obtain ⟨h1, h2, h3, h4⟩ := key
  refine ⟨h1, ?_, h3, h4⟩
  show (tnE D T v lo hi k).1 6 + 1 = _
  rw [h2]
def samB (T0 : xS) (len t u : Nat) : Bool := decide (scE T0 len t - scS T0 len t = scE T0 len u - scS T0 len u) && smF T0 len (scE T0 len t - scS T0 len t) (scS T0 len t) (scS T0 len u)
def dupN (T0 : xS) (len : Nat) (nm : Nat → Nat) (t : Nat) : Nat → Bool
  | 0 => false
  | i + 1 => dupN T0 len nm t i || samB T0 len (nm i) t
/-- a result of a line -/
def lnQ (b n : Nat) (T : xS) (sg : Nat → Option Nat) (ok : Bool) (k' : Nat) (P : xS → xS → Prop) (A : xx_H) : xx_Q := xx_wr (some (.int (xx_b (ok = true)))) n (fun A' => ∃ D' R', rdW b D' T R' sg A' ∧ xx_same b (b + 15) A A' ∧ D'.1 6 = nI k' ∧ (ok = true → P D' R'))
theorem lnR {ok : Bool} {k' : Nat} {P : xS → xS → Prop} {v : Int32} (D' R' : xS) (hv : v = xx_b (ok = true)) (w : rdW b D' T R' sg A') (s : xx_same b (b + 15) A A') (h : D'.1 6 = nI k') (hP : ok = true → P D' R') : lnQ b n T sg ok k' P A (.inl (some (.int v))) A' n := by
  subst hv
  exact ⟨rfl, rfl, D', R', w, s, h, hP⟩
theorem samB_i {t u : Nat} : samB T0 len t u = true ↔ scE T0 len t - scS T0 len t = scE T0 len u - scS T0 len u ∧ smF T0 len (scE T0 len t - scS T0 len t) (scS T0 len t) (scS T0 len u) = true := by
  unfold samB
  rw [Bool.and_eq_true, decide_eq_true_iff]
theorem rdF_ne {D D1 : xS} {E : Int32 × Int32} (h : rdF D D1 E) {e : Int32} (he : ¬ e = 0) (t : Nat) : rdF D (neD D1 T e t) (noteC E e (T.2 3 t)) := by
  obtain ⟨h1, h2, h3, h4⟩ := h
  obtain ⟨k1, k2, k3, k4⟩ := neD_f D1 T he t
  exact ⟨k1.trans h1, k2.trans h2, k3.trans h3, by rw [k4, h4]⟩
theorem rdF_yes {D D1 : xS} {nm : Nat → Nat} {i : Nat} (h : rdF D D1 (noteC (D.1 7, D.1 8) (if dupN T0 len nm k i = true then 2 else 0) (T.2 3 k))) (hs : scE T0 len (nm i) - scS T0 len (nm i) = scE T0 len k - scS T0 len k ∧ smF T0 len (scE T0 len (nm i) - scS T0 len (nm i)) (scS T0 len (nm i)) (scS T0 len k) = true) : rdF D (neD D1 T 2 k) (noteC (D.1 7, D.1 8) (if dupN T0 len nm k (i + 1) = true then 2 else 0) (T.2 3 k)) := by
  have e : dupN T0 len nm k (i + 1) = true := by
    show (_ || samB T0 len (nm i) k) = true
    rw [samB_i.mpr hs, Bool.or_true]
  have z := rdF_ne (T := T) h (e := 2) (by decide) k
  rw [if_pos e]
  by_cases h9 : dupN T0 len nm k i = true
  · rw [if_pos h9, noteC_2 (by decide)] at z; exact z
  · rw [if_neg h9, noteC_0] at z; exact z
theorem rdF_no {D D1 : xS} {nm : Nat → Nat} {i : Nat} (h : rdF D D1 (noteC (D.1 7, D.1 8) (if dupN T0 len nm k i = true then 2 else 0) (T.2 3 k))) (hs : ¬ (scE T0 len (nm i) - scS T0 len (nm i) = scE T0 len k - scS T0 len k ∧ smF T0 len (scE T0 len (nm i) - scS T0 len (nm i)) (scS T0 len (nm i)) (scS T0 len k) = true)) : rdF D D1 (noteC (D.1 7, D.1 8) (if dupN T0 len nm k (i + 1) = true then 2 else 0) (T.2 3 k)) := by
  have e : dupN T0 len nm k (i + 1) = dupN T0 len nm k i := by
    show (_ || samB T0 len (nm i) k) = _
    cases h9 : samB T0 len (nm i) k with
    | true => exact absurd (samB_i.mp h9) hs
    | false => rw [Bool.or_false]
  rw [e]
  exact h
theorem rdF_end {D D1 : xS} {nm : Nat → Nat} {nw : Nat} (h : rdF D D1 (noteC (D.1 7, D.1 8) (if dupN T0 len nm k nw = true then 2 else 0) (T.2 3 k))) (hn : ¬ nw = 12) : rdF D D1 (noteC (D.1 7, D.1 8) (if dupN T0 len nm k nw = true then 2 else if nw = 12 then 4 else 0) (T.2 3 k)) := by
  rw [if_neg hn]; exact h
theorem rdF_12 {D D1 : xS} {nm : Nat → Nat} {nw : Nat} (h : rdF D D1 (noteC (D.1 7, D.1 8) (if dupN T0 len nm k nw = true then 2 else 0) (T.2 3 k))) (hn : nw = 12) : rdF D (neD D1 T 4 k) (noteC (D.1 7, D.1 8) (if dupN T0 len nm k nw = true then 2 else if nw = 12 then 4 else 0) (T.2 3 k)) := by
  rw [if_pos hn]
  have z := rdF_ne (T := T) h (e := 4) (by decide) k
  by_cases h9 : dupN T0 len nm k nw = true
  · rw [if_pos h9] at z ⊢; rw [noteC_2 (by decide)] at z; exact z
  · rw [if_neg h9] at z ⊢; rw [noteC_0] at z; exact z
set_option maxHeartbeats 4000000 in
theorem c_X2_checkName (hst : l.stackTraces = false) (hW : rdW b D T R sg A) (hc : tkc T0 len tok sg T) (hat : D.1 6 = nI k) (hk : k < tok) {nw : Nat} (hw : D.1 5 = nI nw) (h12 : nw ≤ 12) {nm : Nat → Nat} (hnm : ∀ i, i < nw → D.2 13 i = nI (nm i) ∧ nm i < tok) : xx_C G l yX2_checkName mX2_checkName 3 64 0 0 [.ref b] A n (xx_wr none n (fun A' => ∃ D', rdW b D' T R sg A' ∧ xx_same b (b + 15) A A' ∧ rdF D D' (noteC (D.1 7, D.1 8) (if dupN T0 len nm k nw = true then 2 else if nw = 12 then 4 else 0) (T.2 3 k)))) := by
  obtain ⟨hD, hT, hR⟩ := hW
  obtain ⟨hl1, hl2, ht0, ht1, hscn, hnx, hlast⟩ := id hc

  refine J_C hst (by decide +kernel) rfl rfl rfl (Nat.le_of_ble_eq_true rfl) ?_
  show xx_J _ _ _ _ _ _ _ _ 0 [(0, _)] [] _ _ _ _
  refine J_iconst (v := 0) dX2_checkName_0 (by decide) ?_
  refine J_istore_n (L' := [(1, _), (0, _)]) dX2_checkName_1 rfl (by decide) rfl ?_
  have loop : ∀ i, i ≤ nw → ∀ (x : Int32) (A1 : xx_H) (D1 : xS), (x = nI i) → (rdW b D1 T R sg A1) → (xx_same b (b + 15) A A1) → (rdF D D1 (noteC (D.1 7, D.1 8) (if dupN T0 len nm k i = true then 2 else 0) (T.2 3 k))) → xx_J G l mX2_checkName 3 64 0 0 (xx_wr none n (fun A' => ∃ D', rdW b D' T R sg A' ∧ xx_same b (b + 15) A A' ∧ rdF D D' (noteC (D.1 7, D.1 8) (if dupN T0 len nm k nw = true then 2 else if nw = 12 then 4 else 0) (T.2 3 k)))) 2 [(1, .int x), (0, .ref b)] [] A1 n 0 0 := by
    refine xx_dn ?_ ?_
    · intro x  A1  D1  hx hW1 hs1 hF1
      obtain ⟨hD1, hT1, hR1⟩ := hW1
      have en : (D1.1 5).toInt = nw := by rw [hF1.1, hw]; exact i_n (by omega)
      have ex : x.toInt = nw := by rw [hx]; exact i_n (by omega)
      refine J_iload_n dX2_checkName_2 rfl rfl ?_
      refine J_aload_n dX2_checkName_3 rfl rfl ?_
      refine J_getf dX2_checkName_4 fl_X2_35 (hD1.at 0 rfl) rfl ?_
      refine J_icmp_ge (tgt := 45) dX2_checkName_7 rfl (fun h7 => ?_) (fun h7 => ?_)
      · refine J_aload_n dX2_checkName_45 rfl rfl ?_
        refine J_getf dX2_checkName_46 fl_X2_35 (hD1.at 0 rfl) rfl ?_
        refine J_bipush (v := 12) dX2_checkName_49 (by decide) ?_
        refine J_icmp_ne (tgt := 63) dX2_checkName_51 rfl (fun h51 => ?_) (fun h51 => ?_)
        · refine J_return dX2_checkName_63 rfl (by decide) (by decide) ?_
          first | exact ⟨rfl, rfl, _, ⟨hD1, hT1, hR1⟩, hs1, rdF_end hF1 (fun z => h51 (by rw [hF1.1, hw, z]; rfl))⟩ | exact ⟨rfl, rfl, _, ⟨hD1, hT1, hR1⟩, hs1, rdF_12 hF1 (by have z : D1.1 5 = 12 := h51; rw [hF1.1, hw, i_eq, i_n (by omega), i_12] at z; omega)⟩
        · refine J_aload_n dX2_checkName_54 rfl rfl ?_
          refine J_iconst (v := 4) dX2_checkName_55 (by decide) ?_
          refine J_aload_n dX2_checkName_56 rfl rfl ?_
          refine J_getf dX2_checkName_57 fl_X2_39 (hD1.at 0 rfl) rfl ?_
          refine J_callVw (As := [_, _]) dX2_checkName_60 ml_X2_116 cal_X2_noteError im_X2_noteError se_X2_noteError (hD1.at 0 rfl) rfl rfl rfl (Nat.le_of_ble_eq_true rfl) ⟨by decide, by decide⟩ ⟨by decide, by decide⟩ (c_X2_noteError hst ⟨hD1, hT1, hR1⟩ hc 4 (show D1.1 6 = nI k by rw [hF1.2.1]; exact hat) hk) (fun A21 hQ21 => ?_)
          obtain ⟨⟨wD21, wT21, wR21⟩, wS21⟩ := hQ21
          refine J_return dX2_checkName_63 rfl (by decide) (by decide) ?_
          first | exact ⟨rfl, rfl, _, ⟨wD21, wT21, wR21⟩, (hs1.trans wS21), rdF_end hF1 (fun z => h51 (by rw [hF1.1, hw, z]; rfl))⟩ | exact ⟨rfl, rfl, _, ⟨wD21, wT21, wR21⟩, (hs1.trans wS21), rdF_12 hF1 (by have z : D1.1 5 = 12 := h51; rw [hF1.1, hw, i_eq, i_n (by omega), i_12] at z; omega)⟩
      · first | (exfalso; simp only [i_lt, i_le, i_eq, i_0, i_1, i_2, i_3, i_4, i_5, i_6, i_8, i_9, i_10, i_12, i_16, i_20, i_m1, i_400, i_2000] at h7; omega) | (exfalso; simp only [s_up, a_up, va_up, i_lt, i_le, i_eq, i_0, i_1, i_2, i_3, i_4, i_5, i_6, i_8, i_9, i_10, i_12, i_16, i_20, i_m1, i_400, i_2000, ↓reduceIte, Nat.reduceEqDiff] at h7; omega)
    · intro i hii ih x  A1  D1  hx hW1 hs1 hF1
      obtain ⟨hD1, hT1, hR1⟩ := hW1
      have en : (D1.1 5).toInt = nw := by rw [hF1.1, hw]; exact i_n (by omega)
      have ex : x.toInt = i := by rw [hx]; exact i_n (by omega)
      refine J_iload_n dX2_checkName_2 rfl rfl ?_
      refine J_aload_n dX2_checkName_3 rfl rfl ?_
      refine J_getf dX2_checkName_4 fl_X2_35 (hD1.at 0 rfl) rfl ?_
      refine J_icmp_ge (tgt := 45) dX2_checkName_7 rfl (fun h7 => ?_) (fun h7 => ?_)
      · first | (exfalso; simp only [i_lt, i_le, i_eq, i_0, i_1, i_2, i_3, i_4, i_5, i_6, i_8, i_9, i_10, i_12, i_16, i_20, i_m1, i_400, i_2000] at h7; omega) | (exfalso; simp only [s_up, a_up, va_up, i_lt, i_le, i_eq, i_0, i_1, i_2, i_3, i_4, i_5, i_6, i_8, i_9, i_10, i_12, i_16, i_20, i_m1, i_400, i_2000, ↓reduceIte, Nat.reduceEqDiff] at h7; omega)
      · refine J_aload_n dX2_checkName_10 rfl rfl ?_
        refine J_getf dX2_checkName_11 fl_X2_12 (hD1.at 0 rfl) rfl ?_
        refine J_aload_n dX2_checkName_14 rfl rfl ?_
        refine J_getf dX2_checkName_15 fl_X2_29 (hD1.at 0 rfl) rfl ?_
        refine J_iload_n dX2_checkName_18 rfl rfl ?_
        refine J_ialdN i dX2_checkName_19 (hD1.at 2 rfl) hx (by omega) (by decide) ?_
        refine J_aload_n dX2_checkName_20 rfl rfl ?_
        refine J_getf dX2_checkName_21 fl_X2_39 (hD1.at 0 rfl) rfl ?_
        refine J_callVr (As := [_, _]) dX2_checkName_24 ml_X2_112 cal_X5_sameText im_X5_sameText se_X5_sameText (hT1.at 0 rfl) rfl rfl rfl (Nat.le_of_ble_eq_true rfl) ⟨by decide, by decide⟩ ⟨by decide, by decide⟩ ((by have z := c_X5_sameText (G := G) (n := n) hst hT1 (hscn.2.1.trans hl1) hl2 hscn.1 ht1 (show D1.2 13 i = nI (nm i) by rw [hF1.2.2.1]; exact (hnm i hii).1) (hnm i hii).2 (show D1.1 6 = nI k by rw [hF1.2.1]; exact hat) hk ⟨(hscn.2.2.2 _ (hnm i hii).2).2.2, (hscn.2.2.2 _ (hnm i hii).2).2.1, (scE_le _).2, (scE_le _).1⟩ ⟨(hscn.2.2.2 _ hk).2.2, (hscn.2.2.2 _ hk).2.1, (scE_le _).2, (scE_le _).1⟩; rw [smF_c hscn.2.2.1] at z; exact z : xx_C G l yX5_sameText mX5_sameText 1 21 0 0 [.ref (b + 1), .int (D1.2 13 i), .int (D1.1 6)] _ n (xx_ro (some (.int (xx_b (scE T0 len (nm i) - scS T0 len (nm i) = scE T0 len k - scS T0 len k ∧ smF T0 len (scE T0 len (nm i) - scS T0 len (nm i)) (scS T0 len (nm i)) (scS T0 len k) = true)))) _ n))) ?_
        refine J_ifb_eq (tgt := 39) dX2_checkName_27 rfl (fun h27 => ?_) (fun h27 => ?_)
        · refine J_iinc (v := _ + 1) (L' := [(1, _), (0, _)]) dX2_checkName_39 rfl rfl (by decide) rfl ?_
          refine J_goto (tgt := 2) dX2_checkName_42 rfl ?_
          refine xx_J.pick [0, 1] rfl ?_
          exact ih _ _ _ (by rw [hx]; exact nI_1 i) ⟨hD1, hT1, hR1⟩ hs1 (rdF_no hF1 h27)
        · refine J_aload_n dX2_checkName_30 rfl rfl ?_
          refine J_iconst (v := 2) dX2_checkName_31 (by decide) ?_
          refine J_aload_n dX2_checkName_32 rfl rfl ?_
          refine J_getf dX2_checkName_33 fl_X2_39 (hD1.at 0 rfl) rfl ?_
          refine J_callVw (As := [_, _]) dX2_checkName_36 ml_X2_116 cal_X2_noteError im_X2_noteError se_X2_noteError (hD1.at 0 rfl) rfl rfl rfl (Nat.le_of_ble_eq_true rfl) ⟨by decide, by decide⟩ ⟨by decide, by decide⟩ (c_X2_noteError hst ⟨hD1, hT1, hR1⟩ hc 2 (show D1.1 6 = nI k by rw [hF1.2.1]; exact hat) hk) (fun A51 hQ51 => ?_)
          obtain ⟨⟨wD51, wT51, wR51⟩, wS51⟩ := hQ51
          refine J_iinc (v := _ + 1) (L' := [(1, _), (0, _)]) dX2_checkName_39 rfl rfl (by decide) rfl ?_
          refine J_goto (tgt := 2) dX2_checkName_42 rfl ?_
          refine xx_J.pick [0, 1] rfl ?_
          exact ih _ _ _ (by rw [hx]; exact nI_1 i) ⟨wD51, wT51, wR51⟩ (hs1.trans wS51) (rdF_yes hF1 h27)
  refine xx_J.pick [0, 1] rfl ?_
  exact loop 0 (by omega) _ _ D rfl ⟨hD, hT, hR⟩ (xx_same.rf (b := b) (e := b + 15)) ⟨rfl, rfl, rfl, noteC_0.symm⟩
end XRB
