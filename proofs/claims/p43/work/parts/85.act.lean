/-! isOpen, act -/
section XAC
variable {G : xx_G} {l : Launch} {A A' : xx_H} {n : Nat} {k j i q s e t d : Nat}
theorem ca_IS : Cond.castable eIS eIS ∈ xx_N := List.mem_filter.mpr ⟨by decide +kernel, rfl⟩
theorem ans_v {a : Ans} {ex : Int32 → String} {v : Option Value} (h : (.inl v : xx_R) = ansR ex a) : a.1 = 0 ∧ v = some (.int a.2) := by
  unfold ansR at h
  by_cases c : a.1 = 0
  · rw [if_pos c] at h; cases h; exact ⟨c, rfl⟩
  · rw [if_neg c] at h; cases h
theorem ans_x {a : Ans} {ex : Int32 → String} {E : String} (h : (.inr E : xx_R) = ansR ex a) : ¬ a.1 = 0 ∧ E = ex a.1 := by
  unfold ansR at h
  by_cases c : a.1 = 0
  · rw [if_pos c] at h; cases h
  · rw [if_neg c] at h; cases h; exact ⟨c, rfl⟩
theorem c_L_isOpen (hst : l.stackTraces = false) {b : Nat} {ru : xS → Nat → Nat → Int32} {cr nw nb r : Nat} {FF : xS} (hX : xx_w b (layX b) A) (hG : gI b ru cr nw nb r FF A) (w : Int32) (hok : okB FF w) : xx_C G l yL_isOpen mL_isOpen 8 140 2 12 [.ref b, .int w] A n (fun r' A' n' => r' = .inl (some (.int (xx_b (FF.2 6 (wi w) = -1 ∨ FF.2 6 (wi w) < 0)))) ∧ n ≤ n' ∧ gI b ru cr nw nb r FF A' ∧ xx_same (b + 16) (b + 46) A A') := by
  refine J_CH hst (by decide +kernel) rfl rfl rfl (Nat.le_of_ble_eq_true rfl) ?_
  show xx_J _ _ _ _ _ _ _ _ 0 [(0, _), (1, _)] [] _ _ _ _
  refine J_aload_n dL_isOpen_0 rfl rfl ?_
  refine J_iload_n dL_isOpen_1 rfl rfl ?_
  refine J_callV (As := [_]) dL_isOpen_2 ml_L_254 cal_X6_outcomeOf im_X6_outcomeOf se_X6_outcomeOf (hX.at 0 rfl) rfl rfl rfl (Nat.le_of_ble_eq_true rfl) ⟨by decide, by decide⟩ ⟨by decide, by decide⟩ (c_X6_outcomeOf hst hX hG w) (fun E1 A1 n1 _ hQ1 => ?_) (fun v1 A1 n1 _ hQ1 => ?_)
  · obtain ⟨en1, er1, hK1⟩ := hQ1
    subst n1
    obtain ⟨h0, ev1⟩ := ans_x er1
    have hv : FF.2 6 (wi w) = -1 := by
      apply Classical.byContradiction
      intro z
      exact h0 (by unfold aOut; rw [if_pos hok, if_neg z])
    have eE1 : E1 = eIS := by rw [ev1]; unfold aOut; rw [if_pos hok, if_pos hv]; rfl
    subst eE1
    refine JX_catch (name := eIS) [] ⟨0, 13, 14, 152⟩ [] rfl rfl (by decide) (by decide) cl_L_152 ca_IS ?_
    refine J_astore_n (L' := [(2, _), (0, _), (1, _)]) dL_isOpen_14 rfl (by decide) rfl ?_
    refine J_iconst (v := 1) dL_isOpen_15 (by decide) ?_
    refine J_ireturn dL_isOpen_16 rfl rfl (by decide) (by decide) ?_
    exact ⟨by unfold xx_b; rw [if_pos (Or.inl hv)], Nat.le_succ _, hK1⟩
  · obtain ⟨en1, er1, hK1⟩ := hQ1
    subst n1
    obtain ⟨h0, ev1⟩ := ans_v er1
    subst ev1
    have hv : ¬ FF.2 6 (wi w) = -1 := fun z => by
      unfold aOut at h0
      rw [if_pos hok, if_pos z] at h0
      exact absurd h0 (by decide)
    have hv2 : (aOut FF w).2 = FF.2 6 (wi w) := by unfold aOut; rw [if_pos hok, if_neg hv]
    rw [hv2]
    refine J_if_ge (tgt := 12) dL_isOpen_5 rfl (fun h5 => ?_) (fun h5 => ?_)
    · refine J_iconst (v := 0) dL_isOpen_12 (by decide) ?_
      refine J_ireturn dL_isOpen_13 rfl rfl (by decide) (by decide) ?_
      exact ⟨by unfold xx_b; rw [if_neg (fun z => by rcases z with z | z; exact hv z; exact absurd z (Int32.not_lt.mpr h5))], Nat.le_refl _, hK1⟩
    · refine J_iconst (v := 1) dL_isOpen_8 (by decide) ?_
      refine J_goto (tgt := 13) dL_isOpen_9 rfl ?_
      refine J_ireturn dL_isOpen_13 rfl rfl (by decide) (by decide) ?_
      exact ⟨by unfold xx_b; rw [if_pos (Or.inr (Int32.not_le.mp h5))], Nat.le_refl _, hK1⟩
end XAC
