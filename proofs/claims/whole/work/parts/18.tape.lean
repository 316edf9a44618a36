/-! TAPE -/
section XTP
abbrev gC (n : Nat) (sg : Nat → Option Nat) : va_E := .inl (4, n, .inr (.inr (.inr (.inr sg))))
def layT (sg : Nat → Option Nat) (b : Nat) (T : xS) : List (Nat × va_E) := [(0, .inr (4, [.ref (b + 1), .int (T.1 1), .ref (b + 2), .ref (b + 3), .ref (b + 4), .int (T.1 5)])), (1, .inl (1, 2000, .inl (T.2 1))), (2, gC 401 sg), (3, .inl (0, 401, .inl (T.2 3))), (4, .inl (0, 401, .inl (T.2 4)))]
theorem wT_s0_1 {sg : Nat → Option Nat} {b : Nat} {T : xS} {A : xx_H} (h : xx_w b (layT sg b T) A) (x : Int32) : xx_w b (layT sg b (s_up T 1 x)) (xx_up A (b + 0) (.inr (4, [Value.ref (b + 1), .int (T.1 1), .ref (b + 2), .ref (b + 3), .ref (b + 4), .int (T.1 5)].set 1 (.int x)))) := h.put 0 _ rfl rfl
theorem wT_s0_5 {sg : Nat → Option Nat} {b : Nat} {T : xS} {A : xx_H} (h : xx_w b (layT sg b T) A) (x : Int32) : xx_w b (layT sg b (s_up T 5 x)) (xx_up A (b + 0) (.inr (4, [Value.ref (b + 1), .int (T.1 1), .ref (b + 2), .ref (b + 3), .ref (b + 4), .int (T.1 5)].set 5 (.int x)))) := h.put 0 _ rfl rfl
theorem wT_a1 {sg : Nat → Option Nat} {b : Nat} {T : xS} {A : xx_H} (h : xx_w b (layT sg b T) A) (f : Nat → Int32) : xx_w b (layT sg b (a_up T 1 f)) (xx_up A (b + 1) (.inl (1, 2000, .inl f))) := h.put 1 _ rfl rfl
theorem wT_a2 {sg : Nat → Option Nat} {b : Nat} {T : xS} {A : xx_H} (h : xx_w b (layT sg b T) A) (f : Nat → Option Nat) : xx_w b (layT f b T) (xx_up A (b + 2) (gC 401 f)) := h.put 2 _ rfl rfl
theorem wT_a3 {sg : Nat → Option Nat} {b : Nat} {T : xS} {A : xx_H} (h : xx_w b (layT sg b T) A) (f : Nat → Int32) : xx_w b (layT sg b (a_up T 3 f)) (xx_up A (b + 3) (.inl (0, 401, .inl f))) := h.put 3 _ rfl rfl
theorem wT_a4 {sg : Nat → Option Nat} {b : Nat} {T : xS} {A : xx_H} (h : xx_w b (layT sg b T) A) (f : Nat → Int32) : xx_w b (layT sg b (a_up T 4 f)) (xx_up A (b + 4) (.inl (0, 401, .inl f))) := h.put 4 _ rfl rfl
variable {G : xx_G} {l : Launch} {M : xx_M} {fr lo mc ms : Nat} {Post : xx_Q} {pc : Nat} {L : List (Nat × Value)} {S : List Value} {A : xx_H} {n k j : Nat}
theorem J_baldN {h len : Nat} {f : Nat → Int32} {i : Int32} (q : Nat) (hd : decode M.2.2.1 pc = .ok (.baload, 1)) (hA : A h = some (.inl (1, len, .inl f))) (hi : i = nI q) (hq : q < len) (hl : len < 2 ^ 31) (kk : xx_J G l M fr lo mc ms Post (pc + 1) L (.int (f q) :: S) A n k j) : xx_J G l M fr lo mc ms Post pc L (.int i :: .ref h :: S) A n k j := by
  subst hi
  exact J_bald hd hA (vp_in_nI hq hl) (by rw [nI_clamp (by omega)]) kk
theorem J_bastN {h len : Nat} {f : Nat → Int32} {i x : Int32} (q : Nat) (hd : decode M.2.2.1 pc = .ok (.bastore, 1)) (hA : A h = some (.inl (1, len, .inl f))) (hi : i = nI q) (hq : q < len) (hl : len < 2 ^ 31) (kk : xx_J G l M fr lo mc ms Post (pc + 1) L S (xx_up A h (.inl (1, len, .inl (upd f q (vp_nar .byte x))))) n k j) : xx_J G l M fr lo mc ms Post pc L (.int x :: .int i :: .ref h :: S) A n k j := by
  subst hi
  refine J_bast hd hA (vp_in_nI hq hl) ?_
  rw [nI_clamp (by omega)]
  exact kk
theorem J_aaldN {h len : Nat} {f : Nat → Option Nat} {i : Int32} (q : Nat) (hd : decode M.2.2.1 pc = .ok (.aaload, 1)) (hA : A h = some (gC len f)) (hi : i = nI q) (hq : q < len) (hl : len < 2 ^ 31) (kk : xx_J G l M fr lo mc ms Post (pc + 1) L (va_rf (f q) :: S) A n k j) : xx_J G l M fr lo mc ms Post pc L (.int i :: .ref h :: S) A n k j := by
  subst hi
  exact J_aald hd hA (vp_in_nI hq hl) (by rw [nI_clamp (by omega)]) kk
theorem J_aastN {h len v : Nat} {f : Nat → Option Nat} {i : Int32} (q : Nat) (hd : decode M.2.2.1 pc = .ok (.aastore, 1)) (hA : A h = some (gC len f)) (hi : i = nI q) (hq : q < len) (hl : len < 2 ^ 31) (hv : v < 39) (kk : xx_J G l M fr lo mc ms Post (pc + 1) L S (xx_up A h (gC len (va_up f q (some v)))) n k j) : xx_J G l M fr lo mc ms Post pc L (.ref v :: .int i :: .ref h :: S) A n k j := by
  subst hi
  refine J_aast hd hA (vp_in_nI hq hl) hv ?_
  rw [nI_clamp (by omega)]
  exact kk
variable {b : Nat} {T : xS} {sg : Nat → Option Nat}
/-- the byte at i; 0 where there is none -/
def bat (T : xS) (len i : Nat) : Int32 := if i < len then T.2 1 i else 0
theorem c_X5_byteAt (hst : l.stackTraces = false) (hT : xx_w b (layT sg b T) A) {len : Nat} (hlen : T.1 1 = nI len) (h20 : len ≤ 2000) {i : Nat} {x : Int32} (hx : x = nI i) (hi : i < 2 ^ 31) : xx_C G l yX5_byteAt mX5_byteAt 0 0 0 0 [.ref b, .int x] A n (xx_ro (some (.int (bat T len i))) A n) := by
  have elen : (T.1 1).toInt = len := by rw [hlen]; exact i_n (by omega)
  have e2000 : (Int32.ofNat 2000).toInt = 2000 := rfl
  have ex : x.toInt = i := by rw [hx]; exact i_n hi
  refine J_C hst (by decide +kernel) rfl rfl rfl (Nat.le_of_ble_eq_true rfl) ?_
  show xx_J _ _ _ _ _ _ _ _ 0 [(0, _), (1, _)] [] _ _ _ _
  refine J_iload_n dX5_byteAt_0 rfl rfl ?_
  refine J_if_lt (tgt := 30) dX5_byteAt_1 rfl (fun h1 => ?_) (fun h1 => ?_)
  · first | (exfalso; simp only [i_lt, i_le, i_eq, i_0, i_1, i_2, i_3, i_4, i_5, i_6, i_8, i_9, i_10, i_12, i_16, i_20, i_m1, i_400] at h1; omega) | (exfalso; simp only [s_up, a_up, va_up, i_lt, i_le, i_eq, i_0, i_1, i_2, i_3, i_4, i_5, i_6, i_8, i_9, i_10, i_12, i_16, i_20, i_m1, i_400, ↓reduceIte, Nat.reduceEqDiff] at h1; omega)
  · refine J_iload_n dX5_byteAt_4 rfl rfl ?_
    refine J_aload_n dX5_byteAt_5 rfl rfl ?_
    refine J_getf dX5_byteAt_6 fl_X5_15 (hT.at 0 rfl) rfl ?_
    refine J_icmp_ge (tgt := 30) dX5_byteAt_9 rfl (fun h9 => ?_) (fun h9 => ?_)
    · have hlt : ¬ i < len := fun z => by simp only [i_lt, i_le, i_eq, i_0, i_1, i_2, i_3, i_4, i_5, i_6, i_8, i_9, i_10, i_12, i_16, i_20, i_m1] at h9; omega
      refine J_iconst (v := 0) dX5_byteAt_30 (by decide) ?_
      refine J_ireturn dX5_byteAt_31 rfl rfl (by decide) (by decide) ?_
      exact ⟨by unfold bat; first | rw [if_pos hlt] | rw [if_neg hlt], rfl, rfl⟩
    · have hlt : i < len := by simp only [i_lt, i_le, i_eq, i_0, i_1, i_2, i_3, i_4, i_5, i_6, i_8, i_9, i_10, i_12, i_16, i_20, i_m1] at h9; omega
      refine J_iload_n dX5_byteAt_12 rfl rfl ?_
      refine J_aload_n dX5_byteAt_13 rfl rfl ?_
      refine J_getf dX5_byteAt_14 fl_X5_9 (hT.at 0 rfl) rfl ?_
      refine J_alen dX5_byteAt_17 (hT.at 1 rfl) (by decide) rfl ?_
      refine J_icmp_ge (tgt := 30) dX5_byteAt_18 rfl (fun h18 => ?_) (fun h18 => ?_)
      · first | (exfalso; simp only [i_lt, i_le, i_eq, i_0, i_1, i_2, i_3, i_4, i_5, i_6, i_8, i_9, i_10, i_12, i_16, i_20, i_m1, i_400] at h18; omega) | (exfalso; simp only [s_up, a_up, va_up, i_lt, i_le, i_eq, i_0, i_1, i_2, i_3, i_4, i_5, i_6, i_8, i_9, i_10, i_12, i_16, i_20, i_m1, i_400, ↓reduceIte, Nat.reduceEqDiff] at h18; omega)
      · refine J_aload_n dX5_byteAt_21 rfl rfl ?_
        refine J_getf dX5_byteAt_22 fl_X5_9 (hT.at 0 rfl) rfl ?_
        refine J_iload_n dX5_byteAt_25 rfl rfl ?_
        refine J_baldN i dX5_byteAt_26 (hT.at 1 rfl) hx (by omega) (by decide) ?_
        refine J_goto (tgt := 31) dX5_byteAt_27 rfl ?_
        refine J_ireturn dX5_byteAt_31 rfl rfl (by decide) (by decide) ?_
        exact ⟨by unfold bat; first | rw [if_pos hlt] | rw [if_neg hlt], rfl, rfl⟩
theorem c_X5_isLetter (hst : l.stackTraces = false) (x : Int32) : xx_C G l yX5_isLetter mX5_isLetter 0 0 0 0 [.int x] A n (xx_ro (some (.int (xx_b (97 ≤ x ∧ x ≤ 122)))) A n) := by
  refine J_C hst (by decide +kernel) rfl rfl rfl (Nat.le_of_ble_eq_true rfl) ?_
  show xx_J _ _ _ _ _ _ _ _ 0 [(0, _)] [] _ _ _ _
  refine J_iload_n dX5_isLetter_0 rfl rfl ?_
  refine J_bipush (v := 97) dX5_isLetter_1 (by decide) ?_
  refine J_icmp_lt (tgt := 16) dX5_isLetter_3 rfl (fun h3 => ?_) (fun h3 => ?_)
  · refine J_iconst (v := 0) dX5_isLetter_16 (by decide) ?_
    refine J_ireturn dX5_isLetter_17 rfl rfl (by decide) (by decide) ?_
    exact ⟨by unfold xx_b; split <;> first | rfl | (exfalso; simp only [i_lt, i_le] at *; omega), rfl, rfl⟩
  · refine J_iload_n dX5_isLetter_6 rfl rfl ?_
    refine J_bipush (v := 122) dX5_isLetter_7 (by decide) ?_
    refine J_icmp_gt (tgt := 16) dX5_isLetter_9 rfl (fun h9 => ?_) (fun h9 => ?_)
    · refine J_iconst (v := 0) dX5_isLetter_16 (by decide) ?_
      refine J_ireturn dX5_isLetter_17 rfl rfl (by decide) (by decide) ?_
      exact ⟨by unfold xx_b; split <;> first | rfl | (exfalso; simp only [i_lt, i_le] at *; omega), rfl, rfl⟩
    · refine J_iconst (v := 1) dX5_isLetter_12 (by decide) ?_
      refine J_goto (tgt := 17) dX5_isLetter_13 rfl ?_
      refine J_ireturn dX5_isLetter_17 rfl rfl (by decide) (by decide) ?_
      exact ⟨by unfold xx_b; split <;> first | rfl | (exfalso; simp only [i_lt, i_le] at *; omega), rfl, rfl⟩
theorem c_X5_isDigit (hst : l.stackTraces = false) (x : Int32) : xx_C G l yX5_isDigit mX5_isDigit 0 0 0 0 [.int x] A n (xx_ro (some (.int (xx_b (48 ≤ x ∧ x ≤ 57)))) A n) := by
  refine J_C hst (by decide +kernel) rfl rfl rfl (Nat.le_of_ble_eq_true rfl) ?_
  show xx_J _ _ _ _ _ _ _ _ 0 [(0, _)] [] _ _ _ _
  refine J_iload_n dX5_isDigit_0 rfl rfl ?_
  refine J_bipush (v := 48) dX5_isDigit_1 (by decide) ?_
  refine J_icmp_lt (tgt := 16) dX5_isDigit_3 rfl (fun h3 => ?_) (fun h3 => ?_)
  · refine J_iconst (v := 0) dX5_isDigit_16 (by decide) ?_
    refine J_ireturn dX5_isDigit_17 rfl rfl (by decide) (by decide) ?_
    exact ⟨by unfold xx_b; split <;> first | rfl | (exfalso; simp only [i_lt, i_le] at *; omega), rfl, rfl⟩
  · refine J_iload_n dX5_isDigit_6 rfl rfl ?_
    refine J_bipush (v := 57) dX5_isDigit_7 (by decide) ?_
    refine J_icmp_gt (tgt := 16) dX5_isDigit_9 rfl (fun h9 => ?_) (fun h9 => ?_)
    · refine J_iconst (v := 0) dX5_isDigit_16 (by decide) ?_
      refine J_ireturn dX5_isDigit_17 rfl rfl (by decide) (by decide) ?_
      exact ⟨by unfold xx_b; split <;> first | rfl | (exfalso; simp only [i_lt, i_le] at *; omega), rfl, rfl⟩
    · refine J_iconst (v := 1) dX5_isDigit_12 (by decide) ?_
      refine J_goto (tgt := 17) dX5_isDigit_13 rfl ?_
      refine J_ireturn dX5_isDigit_17 rfl rfl (by decide) (by decide) ?_
      exact ⟨by unfold xx_b; split <;> first | rfl | (exfalso; simp only [i_lt, i_le] at *; omega), rfl, rfl⟩
abbrev isL (x : Int32) : Prop := 97 ≤ x ∧ x ≤ 122
abbrev isD (x : Int32) : Prop := 48 ≤ x ∧ x ≤ 57
/-- behind the blanks from i on -/
def bbl (T : xS) (len : Nat) : Nat → Nat → Nat
  | 0, i => i
  | d + 1, i => if bat T len i = 32 ∨ bat T len i = 10 then bbl T len d (i + 1) else i
theorem bbl_s {T : xS} {len i : Nat} (h : i < len) : bbl T len (len - i) i = if bat T len i = 32 ∨ bat T len i = 10 then bbl T len (len - (i + 1)) (i + 1) else i := by
  rw [show len - i = (len - (i + 1)) + 1 by omega]
  rfl
theorem c_X5_behindBlanks (hst : l.stackTraces = false) (hT : xx_w b (layT sg b T) A) {len : Nat} (hlen : T.1 1 = nI len) (h20 : len ≤ 2000) {i0 : Nat} {x0 : Int32} (hx0 : x0 = nI i0) (hi0 : i0 ≤ len) : xx_C G l yX5_behindBlanks mX5_behindBlanks 1 21 0 0 [.ref b, .int x0] A n (xx_ro (some (.int (nI (bbl T len (len - i0) i0)))) A n) := by
  subst hx0
  refine J_C hst (by decide +kernel) rfl rfl rfl (Nat.le_of_ble_eq_true rfl) ?_
  show xx_J _ _ _ _ _ _ _ _ 0 [(0, _), (1, _)] [] _ _ _ _
  refine J_iload_n dX5_behindBlanks_0 rfl rfl ?_
  refine J_istore_n (L' := [(2, _), (0, _), (1, _)]) dX5_behindBlanks_1 rfl (by decide) rfl ?_
  have loop : ∀ i, i ≤ len → ∀ (x : Int32) , (x = nI i) → (bbl T len (len - i) i = bbl T len (len - i0) i0) → xx_J G l mX5_behindBlanks 1 21 0 0 (xx_ro (some (.int (nI (bbl T len (len - i0) i0)))) A n) 2 [(2, .int x), (0, .ref b), (1, .int (nI i0))] [] A n 0 0 := by
    refine xx_dn ?_ ?_
    · intro x   hx hv
      have elen : (T.1 1).toInt = len := by rw [hlen]; exact i_n (by omega)
      have ex : x.toInt = len := by rw [hx]; exact i_n (by omega)
      refine J_iload_n dX5_behindBlanks_2 rfl rfl ?_
      refine J_aload_n dX5_behindBlanks_3 rfl rfl ?_
      refine J_getf dX5_behindBlanks_4 fl_X5_15 (hT.at 0 rfl) rfl ?_
      refine J_icmp_ge (tgt := 36) dX5_behindBlanks_7 rfl (fun h7 => ?_) (fun h7 => ?_)
      · refine J_iload_n dX5_behindBlanks_36 rfl rfl ?_
        refine J_ireturn dX5_behindBlanks_37 rfl rfl (by decide) (by decide) ?_
        exact ⟨by rw [hx, ← hv, Nat.sub_self]; rfl, rfl, rfl⟩
      · first | (exfalso; simp only [i_lt, i_le, i_eq, i_0, i_1, i_2, i_3, i_4, i_5, i_6, i_8, i_9, i_10, i_12, i_16, i_20, i_m1, i_400] at h7; omega) | (exfalso; simp only [s_up, a_up, va_up, i_lt, i_le, i_eq, i_0, i_1, i_2, i_3, i_4, i_5, i_6, i_8, i_9, i_10, i_12, i_16, i_20, i_m1, i_400, ↓reduceIte, Nat.reduceEqDiff] at h7; omega)
    · intro i hii ih x   hx hv
      have elen : (T.1 1).toInt = len := by rw [hlen]; exact i_n (by omega)
      have ex : x.toInt = i := by rw [hx]; exact i_n (by omega)
      refine J_iload_n dX5_behindBlanks_2 rfl rfl ?_
      refine J_aload_n dX5_behindBlanks_3 rfl rfl ?_
      refine J_getf dX5_behindBlanks_4 fl_X5_15 (hT.at 0 rfl) rfl ?_
      refine J_icmp_ge (tgt := 36) dX5_behindBlanks_7 rfl (fun h7 => ?_) (fun h7 => ?_)
      · first | (exfalso; simp only [i_lt, i_le, i_eq, i_0, i_1, i_2, i_3, i_4, i_5, i_6, i_8, i_9, i_10, i_12, i_16, i_20, i_m1, i_400] at h7; omega) | (exfalso; simp only [s_up, a_up, va_up, i_lt, i_le, i_eq, i_0, i_1, i_2, i_3, i_4, i_5, i_6, i_8, i_9, i_10, i_12, i_16, i_20, i_m1, i_400, ↓reduceIte, Nat.reduceEqDiff] at h7; omega)
      · refine J_aload_n dX5_behindBlanks_10 rfl rfl ?_
        refine J_iload_n dX5_behindBlanks_11 rfl rfl ?_
        refine J_callVr (As := [_]) dX5_behindBlanks_12 ml_X5_60 cal_X5_byteAt im_X5_byteAt se_X5_byteAt (hT.at 0 rfl) rfl rfl rfl (Nat.le_of_ble_eq_true rfl) ⟨by decide, by decide⟩ ⟨by decide, by decide⟩ (c_X5_byteAt hst hT hlen h20 hx (by omega)) ?_
        refine J_bipush (v := 32) dX5_behindBlanks_15 (by decide) ?_
        refine J_icmp_eq (tgt := 30) dX5_behindBlanks_17 rfl (fun h17 => ?_) (fun h17 => ?_)
        · refine J_iinc (v := _ + 1) (L' := [(2, _), (0, _), (1, _)]) dX5_behindBlanks_30 rfl rfl (by decide) rfl ?_
          refine J_goto (tgt := 2) dX5_behindBlanks_33 rfl ?_
          refine xx_J.pick [0, 1, 2] rfl ?_
          exact ih _  (by rw [hx]; exact nI_1 i) (by rw [← hv, bbl_s hii, if_pos (by first | exact Or.inl h17 | exact Or.inr h27)])
        · refine J_aload_n dX5_behindBlanks_20 rfl rfl ?_
          refine J_iload_n dX5_behindBlanks_21 rfl rfl ?_
          refine J_callVr (As := [_]) dX5_behindBlanks_22 ml_X5_60 cal_X5_byteAt im_X5_byteAt se_X5_byteAt (hT.at 0 rfl) rfl rfl rfl (Nat.le_of_ble_eq_true rfl) ⟨by decide, by decide⟩ ⟨by decide, by decide⟩ (c_X5_byteAt hst hT hlen h20 hx (by omega)) ?_
          refine J_bipush (v := 10) dX5_behindBlanks_25 (by decide) ?_
          refine J_icmp_ne (tgt := 36) dX5_behindBlanks_27 rfl (fun h27 => ?_) (fun h27 => ?_)
          · refine J_iload_n dX5_behindBlanks_36 rfl rfl ?_
            refine J_ireturn dX5_behindBlanks_37 rfl rfl (by decide) (by decide) ?_
            exact ⟨by rw [hx, ← hv, bbl_s hii, if_neg (fun z => z.elim h17 h27)], rfl, rfl⟩
          · refine J_iinc (v := _ + 1) (L' := [(2, _), (0, _), (1, _)]) dX5_behindBlanks_30 rfl rfl (by decide) rfl ?_
            refine J_goto (tgt := 2) dX5_behindBlanks_33 rfl ?_
            refine xx_J.pick [0, 1, 2] rfl ?_
            exact ih _  (by rw [hx]; exact nI_1 i) (by rw [← hv, bbl_s hii, if_pos (by first | exact Or.inl h17 | exact Or.inr h27)])
  refine xx_J.pick [0, 1, 2] rfl ?_
  exact loop i0 (by omega) _  rfl rfl
end XTP
