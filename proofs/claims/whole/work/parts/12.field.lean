/-! FIELD: its world and its methods -/
section XFD
abbrev xS : Type := (Nat → Int32) × (Nat → Nat → Int32)
abbrev s_up (F : xS) (i : Nat) (x : Int32) : xS := (va_up F.1 i x, F.2)
abbrev a_up (F : xS) (i : Nat) (x : Nat → Int32) : xS := (F.1, va_up F.2 i x)
/-- a Field at base b: wrestlers 0, rounds 1, bouts 5, resting 9; worth 1, counts 2, met 3, reds 4, blues 5, outcomes 6, order 7, metPoints 8 -/
def layF (b : Nat) (F : xS) : List (Nat × va_E) := [(0, .inr (0, [.int (F.1 0), .int (F.1 1), .ref (b + 1), .ref (b + 2), .ref (b + 3), .int (F.1 5), .ref (b + 4), .ref (b + 5), .ref (b + 6), .int (F.1 9), .ref (b + 7), .ref (b + 8)])),
  (1, .inl (0, 3, .inl (F.2 1))), (2, .inl (0, 120, .inl (F.2 2))), (3, .inl (0, 144, .inl (F.2 3))), (4, .inl (0, 6, .inl (F.2 4))), (5, .inl (0, 6, .inl (F.2 5))), (6, .inl (0, 6, .inl (F.2 6))), (7, .inl (0, 12, .inl (F.2 7))), (8, .inl (0, 12, .inl (F.2 8)))]
theorem i_lt {a b : Int32} : a < b ↔ a.toInt < b.toInt := Int32.lt_iff_toInt_lt
theorem i_le {a b : Int32} : a ≤ b ↔ a.toInt ≤ b.toInt := Int32.le_iff_toInt_le
theorem i_eq {a b : Int32} : a = b ↔ a.toInt = b.toInt := Int32.toInt_inj.symm
theorem i_0 : (0 : Int32).toInt = 0 := rfl
variable {G : xx_G} {l : Launch} {b n : Nat} {A : xx_H} {F : xS}
theorem c_X0_hasWrestler (hst : l.stackTraces = false) (hF : xx_w b (layF b F) A) (w : Int32) : xx_C G l yX0_hasWrestler mX0_hasWrestler 0 0 0 0 [.ref b, .int w] A n (xx_ro (some (.int (xx_b (¬ w < 0 ∧ w < F.1 0)))) A n) := by
  refine J_C hst (by decide +kernel) rfl rfl rfl (Nat.le_of_ble_eq_true rfl) ?_
  show xx_J _ _ _ _ _ _ _ _ 0 [(0, _), (1, _)] [] _ _ _ _
  refine J_iload_n dX0_hasWrestler_0 rfl rfl ?_
  refine J_if_lt (tgt := 16) dX0_hasWrestler_1 rfl (fun h1 => ?_) (fun h1 => ?_)
  · refine J_iconst (v := 0) dX0_hasWrestler_16 (by decide) ?_
    refine J_ireturn dX0_hasWrestler_17 rfl rfl (by decide) (by decide) ?_
    exact ⟨by unfold xx_b; split <;> first | rfl | (exfalso; simp only [i_lt, i_le, i_eq, i_0] at *; omega), rfl, rfl⟩
  · refine J_iload_n dX0_hasWrestler_4 rfl rfl ?_
    refine J_aload_n dX0_hasWrestler_5 rfl rfl ?_
    refine J_getf dX0_hasWrestler_6 fl_X0_9 (hF.at 0 rfl) rfl ?_
    refine J_icmp_ge (tgt := 16) dX0_hasWrestler_9 rfl (fun h9 => ?_) (fun h9 => ?_)
    · refine J_iconst (v := 0) dX0_hasWrestler_16 (by decide) ?_
      refine J_ireturn dX0_hasWrestler_17 rfl rfl (by decide) (by decide) ?_
      exact ⟨by unfold xx_b; split <;> first | rfl | (exfalso; simp only [i_lt, i_le, i_eq, i_0] at *; omega), rfl, rfl⟩
    · refine J_iconst (v := 1) dX0_hasWrestler_12 (by decide) ?_
      refine J_goto (tgt := 17) dX0_hasWrestler_13 rfl ?_
      refine J_ireturn dX0_hasWrestler_17 rfl rfl (by decide) (by decide) ?_
      exact ⟨by unfold xx_b; split <;> first | rfl | (exfalso; simp only [i_lt, i_le, i_eq, i_0] at *; omega), rfl, rfl⟩
theorem c_X0_hasBout (hst : l.stackTraces = false) (hF : xx_w b (layF b F) A) (w : Int32) : xx_C G l yX0_hasBout mX0_hasBout 0 0 0 0 [.ref b, .int w] A n (xx_ro (some (.int (xx_b (¬ w < 0 ∧ w < F.1 5)))) A n) := by
  refine J_C hst (by decide +kernel) rfl rfl rfl (Nat.le_of_ble_eq_true rfl) ?_
  show xx_J _ _ _ _ _ _ _ _ 0 [(0, _), (1, _)] [] _ _ _ _
  refine J_iload_n dX0_hasBout_0 rfl rfl ?_
  refine J_if_lt (tgt := 16) dX0_hasBout_1 rfl (fun h1 => ?_) (fun h1 => ?_)
  · refine J_iconst (v := 0) dX0_hasBout_16 (by decide) ?_
    refine J_ireturn dX0_hasBout_17 rfl rfl (by decide) (by decide) ?_
    exact ⟨by unfold xx_b; split <;> first | rfl | (exfalso; simp only [i_lt, i_le, i_eq, i_0] at *; omega), rfl, rfl⟩
  · refine J_iload_n dX0_hasBout_4 rfl rfl ?_
    refine J_aload_n dX0_hasBout_5 rfl rfl ?_
    refine J_getf dX0_hasBout_6 fl_X0_28 (hF.at 0 rfl) rfl ?_
    refine J_icmp_ge (tgt := 16) dX0_hasBout_9 rfl (fun h9 => ?_) (fun h9 => ?_)
    · refine J_iconst (v := 0) dX0_hasBout_16 (by decide) ?_
      refine J_ireturn dX0_hasBout_17 rfl rfl (by decide) (by decide) ?_
      exact ⟨by unfold xx_b; split <;> first | rfl | (exfalso; simp only [i_lt, i_le, i_eq, i_0] at *; omega), rfl, rfl⟩
    · refine J_iconst (v := 1) dX0_hasBout_12 (by decide) ?_
      refine J_goto (tgt := 17) dX0_hasBout_13 rfl ?_
      refine J_ireturn dX0_hasBout_17 rfl rfl (by decide) (by decide) ?_
      exact ⟨by unfold xx_b; split <;> first | rfl | (exfalso; simp only [i_lt, i_le, i_eq, i_0] at *; omega), rfl, rfl⟩
end XFD
