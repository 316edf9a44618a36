/-! ROUNDS AHEAD; THE REFERENCE: goAhead -/
section XSA
variable {G : xx_G} {l : Launch} {A A' : xx_H} {n : Nat} {bm bp bs bn ba : Nat} {vL nl : Nat → Int64} {M M' M1 P S S1 : xS} {F F' : xS} {nw nb r : Nat}
def canB (F : xS) (nw nb : Nat) : Bool := decide (bx_sum (opn (F.2 6)) nb = 0 ∧ F.1 1 < 20 ∧ ¬ bx_sum (fun w => F.2 2 (8 * 12 + w)) nw < 2)
noncomputable def roundF (F : xS) (nw : Nat) : xS := startRoundF F (pX (npF F nw) (rsF F nw)) (p1F F nw) (p2F F nw) (npF F nw)
noncomputable def gaP (ru : xS → Nat → Nat → Int32) (nw : Nat) : Nat → xS → Nat → xS × Nat
  | 0, F, nb => (F, nb)
  | d + 1, F, nb => if canB F nw nb = true then gaP ru nw d (tlP ru (npF F nw) 0 (roundF F nw) 0).1 (npF F nw) else (F, nb)
theorem gaP_s {ru : xS → Nat → Nat → Int32} {t k : Nat} (h : k < t) : gaP ru nw (t - k) F nb = if canB F nw nb = true then gaP ru nw (t - (k + 1)) (tlP ru (npF F nw) 0 (roundF F nw) 0).1 (npF F nw) else (F, nb) := by
  rw [show t - k = (t - (k + 1)) + 1 by omega]
  rfl
theorem canB_i : canB F nw nb = true ↔ bx_sum (opn (F.2 6)) nb = 0 ∧ F.1 1 < 20 ∧ ¬ bx_sum (fun w => F.2 2 (8 * 12 + w)) nw < 2 := by
  unfold canB; rw [decide_eq_true_iff]
theorem opn_congr (h : ∀ q, q < nb → F.2 6 q = F'.2 6 q) : bx_sum (opn (F.2 6)) nb = bx_sum (opn (F'.2 6)) nb := bx_congr nb fun q hq => by unfold opn; rw [h q hq]
theorem eqF.can (h : eqF nw nb F F') : canB F nw nb = canB F' nw nb := by
  unfold canB
  rw [opn_congr fun q hq => (h.2.2.2.2 q hq).2.2, h.1.2.1, h.sum (by decide)]
theorem prs_ok (h12 : nw ≤ 12) : prV (p1F F nw) (p2F F nw) (npF F nw) nw ∧ (rsF F nw = -1 ∨ ∃ w, w < nw ∧ rsF F nw = nI w) := by
  have hls := lsF_ok F nw
  have hk12 : fd_k F (lsF F nw) nw ≤ 12 := Nat.le_trans (rs_le _) (Nat.le_trans lup_len h12)
  refine ⟨⟨by unfold npF; omega, fun q hq => ?_⟩, ?_⟩
  · obtain ⟨a1, a2, a3⟩ := fd_prop hls h12 hq
    exact ⟨a1, a2, (fR_pts a3).2⟩
  · by_cases e : rsF F nw = -1
    · exact Or.inl e
    · obtain ⟨e1, e2⟩ := rsr_ok hls h12 e
      exact Or.inr ⟨_, e2, e1⟩
theorem okF.rnd (h : okF F nw nb r) (hc : canB F nw nb = true) : opN F nb = 0 ∧ r < 20 ∧ 0 < nw ∧ okF (roundF F nw) nw (npF F nw) (r + 1) := by
  obtain ⟨h1, h2, h3⟩ := canB_i.mp hc
  have ho : opN F nb = 0 := by
    rw [opN_sum, i_eq, i_0, i_n (by have := opN_le (F := F) nb; have := h.2.1.2; omega)] at h1
    omega
  have hr : r < 20 := by
    have hr2 := h.2.2.1.2
    rw [h.2.2.1.1, i_lt, i_n (by omega), i_20] at h2
    omega
  have h0 : 0 < nw := by
    rcases Nat.eq_zero_or_pos nw with e | e
    · subst e; exact absurd (by decide : (0 : Int32) < 2) h3
    · exact e
  obtain ⟨p1, p2⟩ := prs_ok (F := F) h.1.2
  exact ⟨ho, hr, h0, h.round ho hr p1 p2⟩
theorem okF.tla {ru : xS → Nat → Nat → Int32} (hru : ∀ F i j, ru F i j = 0 ∨ ru F i j = 1 ∨ ru F i j = 2) (h : okF F nw nb r) : okF (tlP ru nb 0 F 0).1 nw nb r ∧ opN (tlP ru nb 0 F 0).1 nb = 0 :=
  okF.tl hru nb 0 F 0 (by omega) (fun q hq => absurd hq (Nat.not_lt_zero q)) h
theorem okF.ga {ru : xS → Nat → Nat → Int32} (hru : ∀ F i j, ru F i j = 0 ∨ ru F i j = 1 ∨ ru F i j = 2) : ∀ m F nb r, okF F nw nb r → ∃ r', okF (gaP ru nw m F nb).1 nw (gaP ru nw m F nb).2 r' := by
  intro m
  induction m with
  | zero => intro F nb r h; exact ⟨r, h⟩
  | succ m ih =>
    intro F nb r h
    simp only [gaP]
    split
    · rename_i hc
      exact ih _ _ _ ((h.rnd hc).2.2.2.tla hru).1
    · exact ⟨r, h⟩
theorem eqF.ga {ru ru' : xS → Nat → Nat → Int32} (hrv : ∀ F i j, ru F i j = 0 ∨ ru F i j = 1 ∨ ru F i j = 2) (hru : ∀ nb F F' i j, eqF nw nb F F' → i < nw → j < nw → ru F i j = ru' F' i j) : ∀ m F F' nb r, eqF nw nb F F' → okF F nw nb r → (gaP ru nw m F nb).2 = (gaP ru' nw m F' nb).2 ∧ eqF nw (gaP ru nw m F nb).2 (gaP ru nw m F nb).1 (gaP ru' nw m F' nb).1 := by
  intro m
  induction m with
  | zero => intro F F' nb r h _; exact ⟨rfl, h⟩
  | succ m ih =>
    intro F F' nb r h k
    simp only [gaP]
    rw [← h.can]
    split
    · rename_i hc
      obtain ⟨h1, h2, h3, h4⟩ := k.rnd hc
      obtain ⟨e1, e2, e3, e4, -⟩ := h.pairs h3
      obtain ⟨p1, p2⟩ := prs_ok (F := F) k.1.2
      have er : eqF nw (npF F nw) (roundF F nw) (roundF F' nw) := by
        unfold roundF
        rw [← e1, ← e2, ← e3, ← e4]
        exact h.round k.1.2 p1 p2
      have et := eqF.tl (ru := ru) (ru' := ru') k.1.2 (hru (npF F nw)) (npF F nw) 0 _ _ 0 (by omega) er h4.2.2.2.2.2.2.1
      rw [← e1]
      exact ih _ _ _ _ et.1 (h4.tla hrv).1
    · exact ⟨rfl, h⟩
theorem cpa_lt {f g : Nat → Int32} {z : Int32} {n i : Nat} (hz : z.toNatClampNeg = n) (hi : i < n) : cpa f g z i = f i := by
  unfold cpa va_cpy
  rw [hz]
  have e0 : (0 : Int32).toNatClampNeg = 0 := rfl
  simp [e0, hi]
end XSA
