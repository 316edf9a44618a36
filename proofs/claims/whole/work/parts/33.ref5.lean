/-! THE REFERENCE: pair, tell -/
section XS5
variable {G : xx_G} {l : Launch} {A A' : xx_H} {n : Nat} {bm bp bs bn ba : Nat} {vL nl : Nat → Int64} {M M' M1 P S S1 : xS}
theorem xs_ext {F F' : xS} (h1 : F.1 = F'.1) (h2 : ∀ k, F.2 k = F'.2 k) : F = F' := Prod.ext h1 (funext h2)
theorem fS_2 {k q i : Nat} {v w : Int32} (hi : i < 12) (hk : ∀ q' i', cntS (a_up S k (upd (S.2 k) i v)) P q' i' = if q' = q ∧ i' = i then w else cntS S P q' i') (ho : ∀ z, z ≠ 2 → (fS (a_up S k (upd (S.2 k) i v)) P).2 z = (fS S P).2 z) : fS (a_up S k (upd (S.2 k) i v)) P = f_set (fS S P) q i w := by
  refine xs_ext rfl fun z => ?_
  show _ = va_up (fS S P).2 2 (upd ((fS S P).2 2) (q * 12 + i) w) z
  simp only [va_up]
  split
  · rename_i hz
    subst hz
    funext p
    show cntS _ P (p / 12) (p % 12) = upd (fun p => cntS S P (p / 12) (p % 12)) (q * 12 + i) w p
    rw [hk]
    simp only [upd]
    by_cases e : p = q * 12 + i
    · rw [if_pos e, if_pos (by omega)]
    · rw [if_neg e, if_neg (by omega)]
  · rename_i hz
    exact ho z hz
theorem fS_u1 {i : Nat} {v : Int32} (hi : i < 12) : fS (a_up S 1 (upd (S.2 1) i v)) P = f_set (fS S P) 1 i v := fS_2 hi (fun q' i' => by
  by_cases hq : q' = 1
  · subst hq
    show upd (S.2 1) i v i' = if _ then _ else S.2 1 i'
    by_cases e : i' = i
    · subst e; simp [upd]
    · simp [upd, e]
  · rw [if_neg (fun z => hq z.1)]
    unfold cntS
    split <;> first | rfl | (exact absurd rfl hq)) (fun z hz => by
  unfold fS
  dsimp only
  split <;> first | rfl | (exact absurd rfl hz))
theorem fS_u2 {i : Nat} {v : Int32} (hi : i < 12) : fS (a_up S 2 (upd (S.2 2) i v)) P = f_set (fS S P) 2 i v := fS_2 hi (fun q' i' => by
  by_cases hq : q' = 2
  · subst hq
    show upd (S.2 2) i v i' = if _ then _ else S.2 2 i'
    by_cases e : i' = i
    · subst e; simp [upd]
    · simp [upd, e]
  · rw [if_neg (fun z => hq z.1)]
    unfold cntS
    split <;> first | rfl | (exact absurd rfl hq)) (fun z hz => by
  unfold fS
  dsimp only
  split <;> first | rfl | (exact absurd rfl hz))
theorem fS_u3 {i : Nat} {v : Int32} (hi : i < 12) : fS (a_up S 3 (upd (S.2 3) i v)) P = f_set (fS S P) 3 i v := fS_2 hi (fun q' i' => by
  by_cases hq : q' = 3
  · subst hq
    show upd (S.2 3) i v i' = if _ then _ else S.2 3 i'
    by_cases e : i' = i
    · subst e; simp [upd]
    · simp [upd, e]
  · rw [if_neg (fun z => hq z.1)]
    unfold cntS
    split <;> first | rfl | (exact absurd rfl hq)) (fun z hz => by
  unfold fS
  dsimp only
  split <;> first | rfl | (exact absurd rfl hz))
theorem fS_u4 {i : Nat} {v : Int32} (hi : i < 12) : fS (a_up S 4 (upd (S.2 4) i v)) P = f_set (fS S P) 4 i v := fS_2 hi (fun q' i' => by
  by_cases hq : q' = 4
  · subst hq
    show upd (S.2 4) i v i' = if _ then _ else S.2 4 i'
    by_cases e : i' = i
    · subst e; simp [upd]
    · simp [upd, e]
  · rw [if_neg (fun z => hq z.1)]
    unfold cntS
    split <;> first | rfl | (exact absurd rfl hq)) (fun z hz => by
  unfold fS
  dsimp only
  split <;> first | rfl | (exact absurd rfl hz))
theorem fS_u5 {i : Nat} {v : Int32} (hi : i < 12) : fS (a_up S 5 (upd (S.2 5) i v)) P = f_set (fS S P) 5 i v := fS_2 hi (fun q' i' => by
  by_cases hq : q' = 5
  · subst hq
    show upd (S.2 5) i v i' = if _ then _ else S.2 5 i'
    by_cases e : i' = i
    · subst e; simp [upd]
    · simp [upd, e]
  · rw [if_neg (fun z => hq z.1)]
    unfold cntS
    split <;> first | rfl | (exact absurd rfl hq)) (fun z hz => by
  unfold fS
  dsimp only
  split <;> first | rfl | (exact absurd rfl hz))
theorem fS_u6 {i : Nat} {v : Int32} (hi : i < 12) : fS (a_up S 6 (upd (S.2 6) i v)) P = f_set (fS S P) 6 i v := fS_2 hi (fun q' i' => by
  by_cases hq : q' = 6
  · subst hq
    show upd (S.2 6) i v i' = if _ then _ else S.2 6 i'
    by_cases e : i' = i
    · subst e; simp [upd]
    · simp [upd, e]
  · rw [if_neg (fun z => hq z.1)]
    unfold cntS
    split <;> first | rfl | (exact absurd rfl hq)) (fun z hz => by
  unfold fS
  dsimp only
  split <;> first | rfl | (exact absurd rfl hz))
theorem fS_u7 {i : Nat} {v : Int32} (hi : i < 12) : fS (a_up S 7 (upd (S.2 7) i v)) P = f_set (fS S P) 7 i v := fS_2 hi (fun q' i' => by
  by_cases hq : q' = 7
  · subst hq
    show upd (S.2 7) i v i' = if _ then _ else S.2 7 i'
    by_cases e : i' = i
    · subst e; simp [upd]
    · simp [upd, e]
  · rw [if_neg (fun z => hq z.1)]
    unfold cntS
    split <;> first | rfl | (exact absurd rfl hq)) (fun z hz => by
  unfold fS
  dsimp only
  split <;> first | rfl | (exact absurd rfl hz))
theorem fS_u8 {i : Nat} {v : Int32} (hi : i < 12) : fS (a_up S 8 (upd (S.2 8) i v)) P = f_set (fS S P) 9 i (if v = -1 then 1 else 0) := fS_2 hi (fun q' i' => by
  by_cases hq : q' = 9
  · subst hq
    show (if upd (S.2 8) i v i' = -1 then (1 : Int32) else 0) = if _ then _ else (if S.2 8 i' = -1 then (1 : Int32) else 0)
    by_cases e : i' = i
    · subst e; simp [upd]
    · simp [upd, e]
  · rw [if_neg (fun z => hq z.1)]
    unfold cntS
    split <;> first | rfl | (exact absurd rfl hq)) (fun z hz => by
  unfold fS
  dsimp only
  split <;> first | rfl | (exact absurd rfl hz))
theorem fS_u9 {i : Nat} {v : Int32} (hi : i < 12) : fS (a_up S 9 (upd (S.2 9) i v)) P = f_set (fS S P) 8 i (if v = 0 then 1 else 0) := fS_2 hi (fun q' i' => by
  by_cases hq : q' = 8
  · subst hq
    show (if upd (S.2 9) i v i' = 0 then (1 : Int32) else 0) = if _ then _ else (if S.2 9 i' = 0 then (1 : Int32) else 0)
    by_cases e : i' = i
    · subst e; simp [upd]
    · simp [upd, e]
  · rw [if_neg (fun z => hq z.1)]
    unfold cntS
    split <;> first | rfl | (exact absurd rfl hq)) (fun z hz => by
  unfold fS
  dsimp only
  split <;> first | rfl | (exact absurd rfl hz))
theorem fS_a10 {f : Nat → Int32} : fS (a_up S 10 f) P = a_up (fS S P) 3 f := by
  refine xs_ext rfl fun z => ?_
  show _ = va_up (fS S P).2 3 f z
  simp only [va_up]
  split
  · rename_i hz; subst hz; rfl
  · rename_i hz
    unfold fS
    dsimp only
    split <;> first | rfl | (exact absurd rfl hz)
theorem fS_a11 {f : Nat → Int32} : fS (a_up S 11 f) P = a_up (fS S P) 4 f := by
  refine xs_ext rfl fun z => ?_
  show _ = va_up (fS S P).2 4 f z
  simp only [va_up]
  split
  · rename_i hz; subst hz; rfl
  · rename_i hz
    unfold fS
    dsimp only
    split <;> first | rfl | (exact absurd rfl hz)
theorem fS_a12 {f : Nat → Int32} : fS (a_up S 12 f) P = a_up (fS S P) 5 f := by
  refine xs_ext rfl fun z => ?_
  show _ = va_up (fS S P).2 5 f z
  simp only [va_up]
  split
  · rename_i hz; subst hz; rfl
  · rename_i hz
    unfold fS
    dsimp only
    split <;> first | rfl | (exact absurd rfl hz)
theorem fS_a13 {f : Nat → Int32} : fS (a_up S 13 f) P = a_up (fS S P) 6 f := by
  refine xs_ext rfl fun z => ?_
  show _ = va_up (fS S P).2 6 f z
  simp only [va_up]
  split
  · rename_i hz; subst hz; rfl
  · rename_i hz
    unfold fS
    dsimp only
    split <;> first | rfl | (exact absurd rfl hz)
theorem fS_s0 {x : Int32} : fS (s_up S 0 x) P = s_up (fS S P) 1 x := by
  refine Prod.ext (funext fun z => ?_) rfl
  show _ = va_up (fS S P).1 1 x z
  simp only [va_up]
  split
  · rename_i hz; subst hz; rfl
  · rename_i hz
    unfold fS
    dsimp only
    split <;> first | rfl | (exact absurd rfl hz)
theorem fS_s1 {x : Int32} : fS (s_up S 1 x) P = s_up (fS S P) 5 x := by
  refine Prod.ext (funext fun z => ?_) rfl
  show _ = va_up (fS S P).1 5 x z
  simp only [va_up]
  split
  · rename_i hz; subst hz; rfl
  · rename_i hz
    unfold fS
    dsimp only
    split <;> first | rfl | (exact absurd rfl hz)
theorem fS_s2 {x : Int32} : fS (s_up S 2 x) P = s_up (fS S P) 9 x := by
  refine Prod.ext (funext fun z => ?_) rfl
  show _ = va_up (fS S P).1 9 x z
  simp only [va_up]
  split
  · rename_i hz; subst hz; rfl
  · rename_i hz
    unfold fS
    dsimp only
    split <;> first | rfl | (exact absurd rfl hz)
/-- latest is told by 1, -1 or 0 -/
theorem c_X9_isFirstRed (hst : l.stackTraces = false) (hS : xx_w bs (layS bs S) A) {i j : Nat} {x y : Int32} (hx : x = nI i) (hi : i < 12) (hy : y = nI j) (hj : j < 12) : xx_C G l yX9_isFirstRed mX9_isFirstRed 0 0 0 0 [.ref bm, .ref bs, .int x, .int y] A n (xx_ro (some (.int (xx_b (redB (fS S P) i j = true)))) A n) := by
  refine J_C hst (by decide +kernel) rfl rfl rfl (Nat.le_of_ble_eq_true rfl) ?_
  show xx_J _ _ _ _ _ _ _ _ 0 [(0, _), (1, _), (2, _), (3, _)] [] _ _ _ _
  refine J_aload_n dX9_isFirstRed_0 rfl rfl ?_
  refine J_getf dX9_isFirstRed_1 fl_X9_142 (hS.at 0 rfl) rfl ?_
  refine J_iload_n dX9_isFirstRed_4 rfl rfl ?_
  refine J_ialdN i dX9_isFirstRed_5 (hS.at 6 rfl) hx (by omega) (by decide) ?_
  refine J_aload_n dX9_isFirstRed_6 rfl rfl ?_
  refine J_getf dX9_isFirstRed_7 fl_X9_142 (hS.at 0 rfl) rfl ?_
  refine J_iload_n dX9_isFirstRed_10 rfl rfl ?_
  refine J_ialdN j dX9_isFirstRed_11 (hS.at 6 rfl) hy (by omega) (by decide) ?_
  refine J_icmp_eq (tgt := 36) dX9_isFirstRed_12 rfl (fun h12_ => ?_) (fun h12_ => ?_)
  · refine J_aload_n dX9_isFirstRed_36 rfl rfl ?_
    refine J_getf dX9_isFirstRed_37 fl_X9_145 (hS.at 0 rfl) rfl ?_
    refine J_iload_n dX9_isFirstRed_40 rfl rfl ?_
    refine J_ialdN i dX9_isFirstRed_41 (hS.at 8 rfl) hx (by omega) (by decide) ?_
    refine J_iconst (v := -1) dX9_isFirstRed_42 (by decide) ?_
    refine J_icmp_eq (tgt := 56) dX9_isFirstRed_43 rfl (fun h43 => ?_) (fun h43 => ?_)
    · refine J_iconst (v := 1) dX9_isFirstRed_56 (by decide) ?_
      refine J_goto (tgt := 61) dX9_isFirstRed_57 rfl ?_
      refine J_ireturn dX9_isFirstRed_61 rfl rfl (by decide) (by decide) ?_
      refine ⟨congrArg (fun v => Sum.inl (some (Value.int v))) ?_, rfl, rfl⟩
      have p1 : f_at (fS S P) 6 i = S.2 6 i := fS_c hi
      have p2 : f_at (fS S P) 6 j = S.2 6 j := fS_c hj
      have p3 : f_at (fS S P) 9 i = if S.2 8 i = -1 then 1 else 0 := fS_c hi
      have p4 : f_at (fS S P) 9 j = if S.2 8 j = -1 then 1 else 0 := fS_c hj
      have key : redB (fS S P) i j = true ↔ (if S.2 6 i = S.2 6 j then ¬ (if S.2 8 i = -1 then (1 : Int32) else 0) < (if S.2 8 j = -1 then 1 else 0) else S.2 6 i < S.2 6 j) := by
        rw [redB_eq]; unfold redA; rw [p1, p2, p3, p4]
      unfold xx_b
      first
        | (rw [if_neg h12_] at key; split <;> first | rfl | (exfalso; rename_i hz; rw [key] at hz; simp only [i_lt, i_le] at *; omega))
        | (rw [if_pos h12_] at key; split <;> first | rfl | (exfalso; rename_i hz; rw [key] at hz; first | (rw [if_pos h43] at hz; revert hz; (repeat' split) <;> decide) | (rw [if_neg h43, if_pos h53] at hz; revert hz; decide) | (rw [if_neg h43, if_neg h53] at hz; revert hz; decide)))
    · refine J_aload_n dX9_isFirstRed_46 rfl rfl ?_
      refine J_getf dX9_isFirstRed_47 fl_X9_145 (hS.at 0 rfl) rfl ?_
      refine J_iload_n dX9_isFirstRed_50 rfl rfl ?_
      refine J_ialdN j dX9_isFirstRed_51 (hS.at 8 rfl) hy (by omega) (by decide) ?_
      refine J_iconst (v := -1) dX9_isFirstRed_52 (by decide) ?_
      refine J_icmp_eq (tgt := 60) dX9_isFirstRed_53 rfl (fun h53 => ?_) (fun h53 => ?_)
      · refine J_iconst (v := 0) dX9_isFirstRed_60 (by decide) ?_
        refine J_ireturn dX9_isFirstRed_61 rfl rfl (by decide) (by decide) ?_
        refine ⟨congrArg (fun v => Sum.inl (some (Value.int v))) ?_, rfl, rfl⟩
        have p1 : f_at (fS S P) 6 i = S.2 6 i := fS_c hi
        have p2 : f_at (fS S P) 6 j = S.2 6 j := fS_c hj
        have p3 : f_at (fS S P) 9 i = if S.2 8 i = -1 then 1 else 0 := fS_c hi
        have p4 : f_at (fS S P) 9 j = if S.2 8 j = -1 then 1 else 0 := fS_c hj
        have key : redB (fS S P) i j = true ↔ (if S.2 6 i = S.2 6 j then ¬ (if S.2 8 i = -1 then (1 : Int32) else 0) < (if S.2 8 j = -1 then 1 else 0) else S.2 6 i < S.2 6 j) := by
          rw [redB_eq]; unfold redA; rw [p1, p2, p3, p4]
        unfold xx_b
        first
          | (rw [if_neg h12_] at key; split <;> first | rfl | (exfalso; rename_i hz; rw [key] at hz; simp only [i_lt, i_le] at *; omega))
          | (rw [if_pos h12_] at key; split <;> first | rfl | (exfalso; rename_i hz; rw [key] at hz; first | (rw [if_pos h43] at hz; revert hz; (repeat' split) <;> decide) | (rw [if_neg h43, if_pos h53] at hz; revert hz; decide) | (rw [if_neg h43, if_neg h53] at hz; revert hz; decide)))
      · refine J_iconst (v := 1) dX9_isFirstRed_56 (by decide) ?_
        refine J_goto (tgt := 61) dX9_isFirstRed_57 rfl ?_
        refine J_ireturn dX9_isFirstRed_61 rfl rfl (by decide) (by decide) ?_
        refine ⟨congrArg (fun v => Sum.inl (some (Value.int v))) ?_, rfl, rfl⟩
        have p1 : f_at (fS S P) 6 i = S.2 6 i := fS_c hi
        have p2 : f_at (fS S P) 6 j = S.2 6 j := fS_c hj
        have p3 : f_at (fS S P) 9 i = if S.2 8 i = -1 then 1 else 0 := fS_c hi
        have p4 : f_at (fS S P) 9 j = if S.2 8 j = -1 then 1 else 0 := fS_c hj
        have key : redB (fS S P) i j = true ↔ (if S.2 6 i = S.2 6 j then ¬ (if S.2 8 i = -1 then (1 : Int32) else 0) < (if S.2 8 j = -1 then 1 else 0) else S.2 6 i < S.2 6 j) := by
          rw [redB_eq]; unfold redA; rw [p1, p2, p3, p4]
        unfold xx_b
        first
          | (rw [if_neg h12_] at key; split <;> first | rfl | (exfalso; rename_i hz; rw [key] at hz; simp only [i_lt, i_le] at *; omega))
          | (rw [if_pos h12_] at key; split <;> first | rfl | (exfalso; rename_i hz; rw [key] at hz; first | (rw [if_pos h43] at hz; revert hz; (repeat' split) <;> decide) | (rw [if_neg h43, if_pos h53] at hz; revert hz; decide) | (rw [if_neg h43, if_neg h53] at hz; revert hz; decide)))
  · refine J_aload_n dX9_isFirstRed_15 rfl rfl ?_
    refine J_getf dX9_isFirstRed_16 fl_X9_142 (hS.at 0 rfl) rfl ?_
    refine J_iload_n dX9_isFirstRed_19 rfl rfl ?_
    refine J_ialdN i dX9_isFirstRed_20 (hS.at 6 rfl) hx (by omega) (by decide) ?_
    refine J_aload_n dX9_isFirstRed_21 rfl rfl ?_
    refine J_getf dX9_isFirstRed_22 fl_X9_142 (hS.at 0 rfl) rfl ?_
    refine J_iload_n dX9_isFirstRed_25 rfl rfl ?_
    refine J_ialdN j dX9_isFirstRed_26 (hS.at 6 rfl) hy (by omega) (by decide) ?_
    refine J_icmp_ge (tgt := 34) dX9_isFirstRed_27 rfl (fun h27 => ?_) (fun h27 => ?_)
    · refine J_iconst (v := 0) dX9_isFirstRed_34 (by decide) ?_
      refine J_ireturn dX9_isFirstRed_35 rfl rfl (by decide) (by decide) ?_
      refine ⟨congrArg (fun v => Sum.inl (some (Value.int v))) ?_, rfl, rfl⟩
      have p1 : f_at (fS S P) 6 i = S.2 6 i := fS_c hi
      have p2 : f_at (fS S P) 6 j = S.2 6 j := fS_c hj
      have p3 : f_at (fS S P) 9 i = if S.2 8 i = -1 then 1 else 0 := fS_c hi
      have p4 : f_at (fS S P) 9 j = if S.2 8 j = -1 then 1 else 0 := fS_c hj
      have key : redB (fS S P) i j = true ↔ (if S.2 6 i = S.2 6 j then ¬ (if S.2 8 i = -1 then (1 : Int32) else 0) < (if S.2 8 j = -1 then 1 else 0) else S.2 6 i < S.2 6 j) := by
        rw [redB_eq]; unfold redA; rw [p1, p2, p3, p4]
      unfold xx_b
      first
        | (rw [if_neg h12_] at key; split <;> first | rfl | (exfalso; rename_i hz; rw [key] at hz; simp only [i_lt, i_le] at *; omega))
        | (rw [if_pos h12_] at key; split <;> first | rfl | (exfalso; rename_i hz; rw [key] at hz; first | (rw [if_pos h43] at hz; revert hz; (repeat' split) <;> decide) | (rw [if_neg h43, if_pos h53] at hz; revert hz; decide) | (rw [if_neg h43, if_neg h53] at hz; revert hz; decide)))
    · refine J_iconst (v := 1) dX9_isFirstRed_30 (by decide) ?_
      refine J_goto (tgt := 35) dX9_isFirstRed_31 rfl ?_
      refine J_ireturn dX9_isFirstRed_35 rfl rfl (by decide) (by decide) ?_
      refine ⟨congrArg (fun v => Sum.inl (some (Value.int v))) ?_, rfl, rfl⟩
      have p1 : f_at (fS S P) 6 i = S.2 6 i := fS_c hi
      have p2 : f_at (fS S P) 6 j = S.2 6 j := fS_c hj
      have p3 : f_at (fS S P) 9 i = if S.2 8 i = -1 then 1 else 0 := fS_c hi
      have p4 : f_at (fS S P) 9 j = if S.2 8 j = -1 then 1 else 0 := fS_c hj
      have key : redB (fS S P) i j = true ↔ (if S.2 6 i = S.2 6 j then ¬ (if S.2 8 i = -1 then (1 : Int32) else 0) < (if S.2 8 j = -1 then 1 else 0) else S.2 6 i < S.2 6 j) := by
        rw [redB_eq]; unfold redA; rw [p1, p2, p3, p4]
      unfold xx_b
      first
        | (rw [if_neg h12_] at key; split <;> first | rfl | (exfalso; rename_i hz; rw [key] at hz; simp only [i_lt, i_le] at *; omega))
        | (rw [if_pos h12_] at key; split <;> first | rfl | (exfalso; rename_i hz; rw [key] at hz; first | (rw [if_pos h43] at hz; revert hz; (repeat' split) <;> decide) | (rw [if_neg h43, if_pos h53] at hz; revert hz; decide) | (rw [if_neg h43, if_neg h53] at hz; revert hz; decide)))
/-- belts are dealt: r red, u blue -/
def gbF (S : xS) (r u : Nat) : xS := a_up (a_up (a_up (a_up S 6 (upd (S.2 6) r (S.2 6 r + 1))) 8 (upd (S.2 8) r 1)) 6 (upd (upd (S.2 6) r (S.2 6 r + 1)) u (upd (S.2 6) r (S.2 6 r + 1) u - 1))) 8 (upd (upd (S.2 8) r 1) u (-1))
theorem c_X9_giveBelts (hst : l.stackTraces = false) (hS : xx_w bs (layS bs S) A) {i j : Nat} {x y : Int32} (hx : x = nI i) (hi : i < 12) (hy : y = nI j) (hj : j < 12) : xx_C G l yX9_giveBelts mX9_giveBelts 0 0 0 0 [.ref bm, .ref bs, .int x, .int y] A n (xx_wr none n (fun A' => xx_w bs (layS bs (gbF S i j)) A' ∧ xx_same bs (bs + 14) A A')) := by
  refine J_C hst (by decide +kernel) rfl rfl rfl (Nat.le_of_ble_eq_true rfl) ?_
  show xx_J _ _ _ _ _ _ _ _ 0 [(0, _), (1, _), (2, _), (3, _)] [] _ _ _ _
  refine J_aload_n dX9_giveBelts_0 rfl rfl ?_
  refine J_getf dX9_giveBelts_1 fl_X9_142 (hS.at 0 rfl) rfl ?_
  refine J_iload_n dX9_giveBelts_4 rfl rfl ?_
  refine J_dup2 dX9_giveBelts_5 rfl rfl ?_
  refine J_ialdN i dX9_giveBelts_6 (hS.at 6 rfl) hx (by omega) (by decide) ?_
  refine J_iconst (v := 1) dX9_giveBelts_7 (by decide) ?_
  refine J_iadd dX9_giveBelts_8 ?_
  refine J_iastN i dX9_giveBelts_9 (hS.at 6 rfl) hx (by omega) (by decide) ?_
  refine J_genA (wS_a6 hS _) ((xx_same.rf (b := bs) (e := bs + 14)).put (by omega) (by omega) _) (fun A1 w1 s1 o1 => ?_)
  refine J_aload_n dX9_giveBelts_10 rfl rfl ?_
  refine J_getf dX9_giveBelts_11 fl_X9_145 (w1.at 0 rfl) rfl ?_
  refine J_iload_n dX9_giveBelts_14 rfl rfl ?_
  refine J_iconst (v := 1) dX9_giveBelts_15 (by decide) ?_
  refine J_iastN i dX9_giveBelts_16 (w1.at 8 rfl) hx (by omega) (by decide) ?_
  refine J_genA (wS_a8 w1 _) (s1.put (by omega) (by omega) _) (fun A2 w2 s2 o2 => ?_)
  refine J_aload_n dX9_giveBelts_17 rfl rfl ?_
  refine J_getf dX9_giveBelts_18 fl_X9_142 (w2.at 0 rfl) rfl ?_
  refine J_iload_n dX9_giveBelts_21 rfl rfl ?_
  refine J_dup2 dX9_giveBelts_22 rfl rfl ?_
  refine J_ialdN j dX9_giveBelts_23 (w2.at 6 rfl) hy (by omega) (by decide) ?_
  refine J_iconst (v := 1) dX9_giveBelts_24 (by decide) ?_
  refine J_isub dX9_giveBelts_25 ?_
  refine J_iastN j dX9_giveBelts_26 (w2.at 6 rfl) hy (by omega) (by decide) ?_
  refine J_genA (wS_a6 w2 _) (s2.put (by omega) (by omega) _) (fun A3 w3 s3 o3 => ?_)
  refine J_aload_n dX9_giveBelts_27 rfl rfl ?_
  refine J_getf dX9_giveBelts_28 fl_X9_145 (w3.at 0 rfl) rfl ?_
  refine J_iload_n dX9_giveBelts_31 rfl rfl ?_
  refine J_iconst (v := -1) dX9_giveBelts_32 (by decide) ?_
  refine J_iastN j dX9_giveBelts_33 (w3.at 8 rfl) hy (by omega) (by decide) ?_
  refine J_genA (wS_a8 w3 _) (s3.put (by omega) (by omega) _) (fun A4 w4 s4 o4 => ?_)
  refine J_return dX9_giveBelts_34 rfl (by decide) (by decide) ?_
  exact ⟨rfl, rfl, w4, s4⟩
theorem gb_eq {r u : Nat} (hr : r < 12) (hu : u < 12) : fS (gbF S r u) P = sx_2 (fS S P) r u := by
  have h1 : fS (a_up S 6 (upd (S.2 6) r (S.2 6 r + 1))) P = f_set (fS S P) 6 r (S.2 6 r + 1) := fS_u6 hr
  have h2 : fS (a_up (a_up S 6 (upd (S.2 6) r (S.2 6 r + 1))) 8 (upd (S.2 8) r 1)) P = f_set (fS (a_up S 6 (upd (S.2 6) r (S.2 6 r + 1))) P) 9 r 0 := fS_u8 (S := (a_up S 6 (upd (S.2 6) r (S.2 6 r + 1)))) hr
  have h3 : fS (a_up (a_up (a_up S 6 (upd (S.2 6) r (S.2 6 r + 1))) 8 (upd (S.2 8) r 1)) 6 (upd (upd (S.2 6) r (S.2 6 r + 1)) u (upd (S.2 6) r (S.2 6 r + 1) u - 1))) P = f_set (fS (a_up (a_up S 6 (upd (S.2 6) r (S.2 6 r + 1))) 8 (upd (S.2 8) r 1)) P) 6 u (upd (S.2 6) r (S.2 6 r + 1) u - 1) := fS_u6 (S := (a_up (a_up S 6 (upd (S.2 6) r (S.2 6 r + 1))) 8 (upd (S.2 8) r 1))) hu
  have h4 : fS (gbF S r u) P = f_set (fS (a_up (a_up (a_up S 6 (upd (S.2 6) r (S.2 6 r + 1))) 8 (upd (S.2 8) r 1)) 6 (upd (upd (S.2 6) r (S.2 6 r + 1)) u (upd (S.2 6) r (S.2 6 r + 1) u - 1))) P) 9 u 1 := fS_u8 (S := (a_up (a_up (a_up S 6 (upd (S.2 6) r (S.2 6 r + 1))) 8 (upd (S.2 8) r 1)) 6 (upd (upd (S.2 6) r (S.2 6 r + 1)) u (upd (S.2 6) r (S.2 6 r + 1) u - 1)))) hu
  rw [h4, h3, h2, h1]
  unfold sx_2
  have c1 : (fS S P).2 2 (6 * 12 + r) = S.2 6 r := fS_c hr
  have c2 : (fS S P).2 2 (6 * 12 + u) = S.2 6 u := fS_c hu
  have e2 : ((f_set (f_add (fS S P) 6 r 1) 9 r 0).2 2 (6 * 12 + u)) + -1 = upd (S.2 6) r (S.2 6 r + 1) u - 1 := by
    show upd (upd ((fS S P).2 2) (6 * 12 + r) ((fS S P).2 2 (6 * 12 + r) + 1)) (9 * 12 + r) 0 (6 * 12 + u) + -1 = _
    rw [c1]
    simp only [upd]
    rw [if_neg (by omega)]
    by_cases e : u = r
    · subst e; rw [if_pos rfl, if_pos rfl, Int32.sub_eq_add_neg]
    · rw [if_neg (by omega), if_neg e, c2, Int32.sub_eq_add_neg]
  rw [← e2, ← c1]
end XS5
