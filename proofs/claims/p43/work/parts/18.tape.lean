/-! TAPE -/
section XTP
abbrev gC (n : Nat) (sg : Nat → Option Nat) : va_E := .inl (4, n, .inr (.inr (.inr (.inr sg))))
def layT (sg : Nat → Option Nat) (b : Nat) (T : xS) : List (Nat × va_E) := [(0, .inr (4, [.ref (b + 1), .int (T.1 1), .ref (b + 2), .ref (b + 3), .ref (b + 4), .int (T.1 5)])), (1, .inl (1, 2000, .inl (T.2 1))), (2, gC 401 sg), (3, .inl (0, 401, .inl (T.2 3))), (4, .inl (0, 401, .inl (T.2 4)))]
theorem wT_s0_1 {sg : Nat → Option Nat} {b : Nat} {T : xS} {A : xx_H} (h : xx_w b (layT sg b T) A) (x : Int32) : xx_w b (layT sg b (s_up T 1 x)) (xx_up A (b + 0) (.inr (4, [Value.ref (b + 1), .int (T.1 1), .ref (b + 2), .ref (b + 3), .ref (b + 4), .int (T.1 5)].set 1 (.int x)))) := h.put 0 _ rfl rfl
theorem wT_s0_5 {sg : Nat → Option Nat} {b : Nat} {T : xS} {A : xx_H} (h : xx_w b (layT sg b T) A) (x : Int32) : xx_w b (layT sg b (s_up T 5 x)) (xx_up A (b + 0) (.inr (4, [Value.ref (b + 1), .int (T.1 1), .ref (b + 2), .ref (b + 3), .ref (b + 4), .int (T.1 5)].set 5 (.int x)))) := h.put 0 _ rfl rfl
theorem wT_a1 {sg : Nat → Option Nat} {b : Nat} {T : xS} {A : xx_H} (h : xx_w b (layT sg b T) A) (f : Nat → Int32) : xx_w b (layT sg b (a_up T 1 f)) (xx_up A (b + 1) (.inl (1, 2000, .inl f))) := h.put 1 _ rfl rfl
theorem wT_a2 {sg : Nat → Option Nat} {b : Nat} {T : xS} {A : xx_H} (h : xx_w b (layT sg b T) A) (f : Nat → Option Nat) : xx_w b (layT f b T) (xx_up A (b + 2) (gC 401 f)) := h.put 2 _ rfl rfl
theorem wT_a3 {sg : Nat → Option Nat} {b : Nat} {T : xS} {A : xx_H} (h : xx_w b (layT sg b T) A) (f : Nat → Int32) : xx_w b (layT sg b (a_up T 3 f)) (xx_up A (b + 3) (.inl (0, 401, .inl f))) := h.put 3 _ rfl rfl
theorem wT_a4 {sg : Nat → Option Nat} {b : Nat} {T : xS} {A : xx_H} (h : xx_w b (layT sg b T) A) (f : Nat → Int32) : xx_w b (layT sg b (a_up T 4 f)) (xx_up A (b + 4) (.inl (0, 401, .inl f))) := h.put 4 _ rfl rfl
variable {G : xx_G} {l : Launch} {M : xx_M} {fr lo mc ms : Nat} {Post : xx_Q} {pc : Nat} {L : List (Nat × Value)} {S : List Value} {A : xx_H} {n k j : Nat}
theorem J_baldN {h len : Nat} {f : Nat → Int32} {i : Int32} (q : Nat) (hd : decode M.2.2.1 pc = .ok (.baload, 1)) (hA : A h = some (.inl (1, len, .inl f))) (hi : i = nI q) (hq : q < len) (hl : len < 2 ^ 31) (kk : xx_J G l M fr lo mc ms Post (pc + 1) L (.int (f q) :: S) A n k j) : xx_J G l M fr lo mc ms Post pc L (.int i :: .ref h :: S) A n k j := by
  subst hi
  exact J_bald hd hA (vp_in_nI hq hl) (by rw [nI_clamp (by omega)]) kk
theorem J_bastN {h len : Nat} {f : Nat → Int32} {i x : Int32} (q : Nat) (hd : decode M.2.2.1 pc = .ok (.bastore, 1)) (hA : A h = some (.inl (1, len, .inl f))) (hi : i = nI q) (hq : q < len) (hl : len < 2 ^ 31) (kk : xx_J G l M fr lo mc ms Post (pc + 1) L S (xx_up A h (.inl (1, len, .inl (upd f q (vp_nar .byte x))))) n k j) : xx_J G l M fr lo mc ms Post pc L (.int x :: .int i :: .ref h :: S) A n k j := by
  subst hi
  refine J_bast hd hA (vp_in_nI hq hl) ?_
  rw [nI_clamp (by omega)]
  exact kk
theorem J_aaldN {h len : Nat} {f : Nat → Option Nat} {i : Int32} (q : Nat) (hd : decode M.2.2.1 pc = .ok (.aaload, 1)) (hA : A h = some (gC len f)) (hi : i = nI q) (hq : q < len) (hl : len < 2 ^ 31) (kk : xx_J G l M fr lo mc ms Post (pc + 1) L (va_rf (f q) :: S) A n k j) : xx_J G l M fr lo mc ms Post pc L (.int i :: .ref h :: S) A n k j := by
  subst hi
  exact J_aald hd hA (vp_in_nI hq hl) (by rw [nI_clamp (by omega)]) kk
theorem J_aastN {h len v : Nat} {f : Nat → Option Nat} {i : Int32} (q : Nat) (hd : decode M.2.2.1 pc = .ok (.aastore, 1)) (hA : A h = some (gC len f)) (hi : i = nI q) (hq : q < len) (hl : len < 2 ^ 31) (hv : v < 39) (kk : xx_J G l M fr lo mc ms Post (pc + 1) L S (xx_up A h (gC len (va_up f q (some v)))) n k j) : xx_J G l M fr lo mc ms Post pc L (.ref v :: .int i :: .ref h :: S) A n k j := by
  subst hi
  refine J_aast hd hA (vp_in_nI hq hl) hv ?_
  rw [nI_clamp (by omega)]
  exact kk
variable {b : Nat} {T : xS} {sg : Nat → Option Nat}
/-- the byte at i; 0 where there is none -/
def bat (T : xS) (len i : Nat) : Int32 := if i < len then T.2 1 i else 0
theorem c_X5_byteAt (hst : l.stackTraces = false) (hT : xx_w b (layT sg b T) A) {len : Nat} (hlen : T.1 1 = nI len) (h20 : len ≤ 2000) {i : Nat} {x : Int32} (hx : x = nI i) (hi : i < 2 ^ 31) : xx_C G l yX5_byteAt mX5_byteAt 0 0 0 0 [.ref b, .int x] A n (xx_ro (some (.int (bat T len i))) A n) := by
  have elen : (T.1 1).toInt = len := by rw [hlen]; exact i_n (by omega)
  have e2000 : (Int32.ofNat 2000).toInt = 2000 := rfl
  have ex : x.toInt = i := by rw [hx]; exact i_n hi
  refine J_C hst (by decide +kernel) rfl rfl rfl (Nat.le_of_ble_eq_true rfl) ?_
  show xx_J _ _ _ _ _ _ _ _ 0 [(0, _), (1, _)] [] _ _ _ _
  refine J_iload_n dX5_byteAt_0 rfl rfl ?_
  refine J_if_lt (tgt := 30) dX5_byteAt_1 rfl (fun h1 => ?_) (fun h1 => ?_)
  · first | (exfalso; simp only [i_lt, i_le, i_eq, i_0, i_1, i_2, i_3, i_4, i_5, i_6, i_8, i_9, i_10, i_12, i_16, i_20, i_m1, i_400] at h1; omega) | (exfalso; simp only [s_up, a_up, va_up, i_lt, i_le, i_eq, i_0, i_1, i_2, i_3, i_4, i_5, i_6, i_8, i_9, i_10, i_12, i_16, i_20, i_m1, i_400, ↓reduceIte, Nat.reduceEqDiff] at h1; omega)
  · refine J_iload_n dX5_byteAt_4 rfl rfl ?_
    refine J_aload_n dX5_byteAt_5 rfl rfl ?_
    refine J_getf dX5_byteAt_6 fl_X5_15 (hT.at 0 rfl) rfl ?_
    refine J_icmp_ge (tgt := 30) dX5_byteAt_9 rfl (fun h9 => ?_) (fun h9 => ?_)
    · have hlt : ¬ i < len := fun z => by simp only [i_lt, i_le, i_eq, i_0, i_1, i_2, i_3, i_4, i_5, i_6, i_8, i_9, i_10, i_12, i_16, i_20, i_m1] at h9; omega
      refine J_iconst (v := 0) dX5_byteAt_30 (by decide) ?_
      refine J_ireturn dX5_byteAt_31 rfl rfl (by decide) (by decide) ?_
      exact ⟨by unfold bat; first | rw [if_pos hlt] | rw [if_neg hlt], rfl, rfl⟩
    · have hlt : i < len := by simp only [i_lt, i_le, i_eq, i_0, i_1, i_2, i_3, i_4, i_5, i_6, i_8, i_9, i_10, i_12, i_16, i_20, i_m1] at h9; omega
      refine J_iload_n dX5_byteAt_12 rfl rfl ?_
      refine J_aload_n dX5_byteAt_13 rfl rfl ?_
      refine J_getf dX5_byteAt_14 fl_X5_9 (hT.at 0 rfl) rfl ?_
      refine J_alen dX5_byteAt_17 (hT.at 1 rfl) (by decide) rfl ?_
      refine J_icmp_ge (tgt := 30) dX5_byteAt_18 rfl (fun h18 => ?_) (fun h18 => ?_)
      · first | (exfalso; simp only [i_lt, i_le, i_eq, i_0, i_1, i_2, i_3, i_4, i_5, i_6, i_8, i_9, i_10, i_12, i_16, i_20, i_m1, i_400] at h18; omega) | (exfalso; simp only [s_up, a_up, va_up, i_lt, i_le, i_eq, i_0, i_1, i_2, i_3, i_4, i_5, i_6, i_8, i_9, i_10, i_12, i_16, i_20, i_m1, i_400, ↓reduceIte, Nat.reduceEqDiff] at h18; omega)
      · refine J_aload_n dX5_byteAt_21 rfl rfl ?_
        refine J_getf dX5_byteAt_22 fl_X5_9 (hT.at 0 rfl) rfl ?_
        refine J_iload_n dX5_byteAt_25 rfl rfl ?_
        refine J_baldN i dX5_byteAt_26 (hT.at 1 rfl) hx (by omega) (by decide) ?_
        refine J_goto (tgt := 31) dX5_byteAt_27 rfl ?_
        refine J_ireturn dX5_byteAt_31 rfl rfl (by decide) (by decide) ?_
        exact ⟨by unfold bat; first | rw [if_pos hlt] | rw [if_neg hlt], rfl, rfl⟩
theorem c_X5_isLetter (hst : l.stackTraces = false) (x : Int32) : xx_C G l yX5_isLetter mX5_isLetter 0 0 0 0 [.int x] A n (xx_ro (some (.int (xx_b (97 ≤ x ∧ x ≤ 122)))) A n) := by
  refine J_C hst (by decide +kernel) rfl rfl rfl (Nat.le_of_ble_eq_true rfl) ?_
  show xx_J _ _ _ _ _ _ _ _ 0 [(0, _)] [] _ _ _ _
  refine J_iload_n dX5_isLetter_0 rfl rfl ?_
  refine J_bipush (v := 97) dX5_isLetter_1 (by decide) ?_
  refine J_icmp_lt (tgt := 16) dX5_isLetter_3 rfl (fun h3 => ?_) (fun h3 => ?_)
  · refine J_iconst (v := 0) dX5_isLetter_16 (by decide) ?_
    refine J_ireturn dX5_isLetter_17 rfl rfl (by decide) (by decide) ?_
    exact ⟨by unfold xx_b; split <;> first | rfl | (exfalso; simp only [i_lt, i_le] at *; omega), rfl, rfl⟩
  · refine J_iload_n dX5_isLetter_6 rfl rfl ?_
    refine J_bipush (v := 122) dX5_isLetter_7 (by decide) ?_
    refine J_icmp_gt (tgt := 16) dX5_isLetter_9 rfl (fun h9 => ?_) (fun h9 => ?_)
    · refine J_iconst (v := 0) dX5_isLetter_16 (by decide) ?_
      refine J_ireturn dX5_isLetter_17 rfl rfl (by decide) (by decide) ?_
      exact ⟨by unfold xx_b; split <;> first | rfl | (exfalso; simp only [i_lt, i_le] at *; omega), rfl, rfl⟩
    · refine J_iconst (v := 1) dX5_isLetter_12 (by decide) ?_
      refine J_goto (tgt := 17) dX5_isLetter_13 rfl ?_
      refine J_ireturn dX5_isLetter_17 rfl rfl (by decide) (by decide) ?_
      exact ⟨by unfold xx_b; split <;> first | rfl | (exfalso; simp only [i_lt, i_le] at *; omega), rfl, rfl⟩
theorem c_X5_isDigit (hst : l.stackTraces = false) (x : Int32) : xx_C G l yX5_isDigit mX5_isDigit 0 0 0 0 [.int x] A n (xx_ro (some (.int (xx_b (48 ≤ x ∧ x ≤ 57)))) A n) := by
  refine J_C hst (by decide +kernel) rfl rfl rfl (Nat.le_of_ble_eq_true rfl) ?_
  show xx_J _ _ _ _ _ _ _ _ 0 [(0, _)] [] _ _ _ _
  refine J_iload_n dX5_isDigit_0 rfl rfl ?_
  refine J_bipush (v := 48) dX5_isDigit_1 (by decide) ?_
  refine J_icmp_lt (tgt := 16) dX5_isDigit_3 rfl (fun h3 => ?_) (fun h3 => ?_)
  · refine J_iconst (v := 0) dX5_isDigit_16 (by decide) ?_
    refine J_ireturn dX5_isDigit_17 rfl rfl (by decide) (by decide) ?_
    exact ⟨by unfold xx_b; split <;> first | rfl | (exfalso; simp only [i_lt, i_le] at *; omega), rfl, rfl⟩
  · refine J_iload_n dX5_isDigit_6 rfl rfl ?_
    refine J_bipush (v := 57) dX5_isDigit_7 (by decide) ?_
    refine J_icmp_gt (tgt := 16) dX5_isDigit_9 rfl (fun h9 => ?_) (fun h9 => ?_)
    · refine J_iconst (v := 0) dX5_isDigit_16 (by decide) ?_
      refine J_ireturn dX5_isDigit_17 rfl rfl (by decide) (by decide) ?_
      exact ⟨by unfold xx_b; split <;> first | rfl | (exfalso; simp only [i_lt, i_le] at *; omega), rfl, rfl⟩
    · refine J_iconst (v := 1) dX5_isDigit_12 (by decide) ?_
      refine J_goto (tgt := 17) dX5_isDigit_13 rfl ?_
      refine J_ireturn dX5_isDigit_17 rfl rfl (by decide) (by decide) ?_
      exact ⟨by unfold xx_b; split <;> first | rfl | (exfalso; simp only [i_lt, i_le] at *; omega), rfl, rfl⟩
abbrev isL (x : Int32) : Prop := 97 ≤ x ∧ x ≤ 122
abbrev isD (x : Int32) : Prop := 48 ≤ x ∧ x ≤ 57
/-- behind the blanks from i on -/
def bbl (T : xS) (len : Nat) : Nat → Nat → Nat
  | 0, i => i
  | d + 1, i => if bat T len i = 32 ∨ bat T len i = 10 then bbl T len d (i + 1) else i
theorem bbl_s {T : xS} {len i : Nat} (h : i < len) : bbl T len (len - i) i = if bat T len i = 32 ∨ bat T len i = 10 then bbl T len (len - (i + 1)) (i + 1) else i := by
  rw [show len - i = (len - (i + 1)) + 1 by omega]
  rfl
theorem c_X5_behindBlanks (hst : l.stackTraces = false) (hT : xx_w b (layT sg b T) A) {len : Nat} (hlen : T.1 1 = nI len) (h20 : len ≤ 2000) {i0 : Nat} {x0 : Int32} (hx0 : x0 = nI i0) (hi0 : i0 ≤ len) : xx_C G l yX5_behindBlanks mX5_behindBlanks 1 21 0 0 [.ref b, .int x0] A n (xx_ro (some (.int (nI (bbl T len (len - i0) i0)))) A n) := by
  subst hx0
  refine J_C hst (by decide +kernel) rfl rfl rfl (Nat.le_of_ble_eq_true rfl) ?_
  show xx_J _ _ _ _ _ _ _ _ 0 [(0, _), (1, _)] [] _ _ _ _
  refine J_iload_n dX5_behindBlanks_0 rfl rfl ?_
  refine J_istore_n (L' := [(2, _), (0, _), (1, _)]) dX5_behindBlanks_1 rfl (by decide) rfl ?_
  have loop : ∀ i, i ≤ len → ∀ (x : Int32) , (x = nI i) → (bbl T len (len - i) i = bbl T len (len - i0) i0) → xx_J G l mX5_behindBlanks 1 21 0 0 (xx_ro (some (.int (nI (bbl T len (len - i0) i0)))) A n) 2 [(2, .int x), (0, .ref b), (1, .int (nI i0))] [] A n 0 0 := by
    refine xx_dn ?_ ?_
    · intro x   hx hv
      have elen : (T.1 1).toInt = len := by rw [hlen]; exact i_n (by omega)
      have ex : x.toInt = len := by rw [hx]; exact i_n (by omega)
      refine J_iload_n dX5_behindBlanks_2 rfl rfl ?_
      refine J_aload_n dX5_behindBlanks_3 rfl rfl ?_
      refine J_getf dX5_behindBlanks_4 fl_X5_15 (hT.at 0 rfl) rfl ?_
      refine J_icmp_ge (tgt := 36) dX5_behindBlanks_7 rfl (fun h7 => ?_) (fun h7 => ?_)
      · refine J_iload_n dX5_behindBlanks_36 rfl rfl ?_
        refine J_ireturn dX5_behindBlanks_37 rfl rfl (by decide) (by decide) ?_
        exact ⟨by rw [hx, ← hv, Nat.sub_self]; rfl, rfl, rfl⟩
      · first | (exfalso; simp only [i_lt, i_le, i_eq, i_0, i_1, i_2, i_3, i_4, i_5, i_6, i_8, i_9, i_10, i_12, i_16, i_20, i_m1, i_400] at h7; omega) | (exfalso; simp only [s_up, a_up, va_up, i_lt, i_le, i_eq, i_0, i_1, i_2, i_3, i_4, i_5, i_6, i_8, i_9, i_10, i_12, i_16, i_20, i_m1, i_400, ↓reduceIte, Nat.reduceEqDiff] at h7; omega)
    · intro i hii ih x   hx hv
      have elen : (T.1 1).toInt = len := by rw [hlen]; exact i_n (by omega)
      have ex : x.toInt = i := by rw [hx]; exact i_n (by omega)
      refine J_iload_n dX5_behindBlanks_2 rfl rfl ?_
      refine J_aload_n dX5_behindBlanks_3 rfl rfl ?_
      refine J_getf dX5_behindBlanks_4 fl_X5_15 (hT.at 0 rfl) rfl ?_
      refine J_icmp_ge (tgt := 36) dX5_behindBlanks_7 rfl (fun h7 => ?_) (fun h7 => ?_)
      · first | (exfalso; simp only [i_lt, i_le, i_eq, i_0, i_1, i_2, i_3, i_4, i_5, i_6, i_8, i_9, i_10, i_12, i_16, i_20, i_m1, i_400] at h7; omega) | (exfalso; simp only [s_up, a_up, va_up, i_lt, i_le, i_eq, i_0, i_1, i_2, i_3, i_4, i_5, i_6, i_8, i_9, i_10, i_12, i_16, i_20, i_m1, i_400, ↓reduceIte, Nat.reduceEqDiff] at h7; omega)
      · refine J_aload_n dX5_behindBlanks_10 rfl rfl ?_
        refine J_iload_n dX5_behindBlanks_11 rfl rfl ?_
        refine J_callVr (As := [_]) dX5_behindBlanks_12 ml_X5_60 cal_X5_byteAt im_X5_byteAt se_X5_byteAt (hT.at 0 rfl) rfl rfl rfl (Nat.le_of_ble_eq_true rfl) ⟨by decide, by decide⟩ ⟨by decide, by decide⟩ (c_X5_byteAt hst hT hlen h20 hx (by omega)) ?_
        refine J_bipush (v := 32) dX5_behindBlanks_15 (by decide) ?_
        refine J_icmp_eq (tgt := 30) dX5_behindBlanks_17 rfl (fun h17 => ?_) (fun h17 => ?_)
        · refine J_iinc (v := _ + 1) (L' := [(2, _), (0, _), (1, _)]) dX5_behindBlanks_30 rfl rfl (by decide) rfl ?_
          refine J_goto (tgt := 2) dX5_behindBlanks_33 rfl ?_
          refine xx_J.pick [0, 1, 2] rfl ?_
          exact ih _  (by rw [hx]; exact nI_1 i) (by rw [← hv, bbl_s hii, if_pos (by first | exact Or.inl h17 | exact Or.inr h27)])
        · refine J_aload_n dX5_behindBlanks_20 rfl rfl ?_
          refine J_iload_n dX5_behindBlanks_21 rfl rfl ?_
          refine J_callVr (As := [_]) dX5_behindBlanks_22 ml_X5_60 cal_X5_byteAt im_X5_byteAt se_X5_byteAt (hT.at 0 rfl) rfl rfl rfl (Nat.le_of_ble_eq_true rfl) ⟨by decide, by decide⟩ ⟨by decide, by decide⟩ (c_X5_byteAt hst hT hlen h20 hx (by omega)) ?_
          refine J_bipush (v := 10) dX5_behindBlanks_25 (by decide) ?_
          refine J_icmp_ne (tgt := 36) dX5_behindBlanks_27 rfl (fun h27 => ?_) (fun h27 => ?_)
          · refine J_iload_n dX5_behindBlanks_36 rfl rfl ?_
            refine J_ireturn dX5_behindBlanks_37 rfl rfl (by decide) (by decide) ?_
            exact ⟨by rw [hx, ← hv, bbl_s hii, if_neg (fun z => z.elim h17 h27)], rfl, rfl⟩
          · refine J_iinc (v := _ + 1) (L' := [(2, _), (0, _), (1, _)]) dX5_behindBlanks_30 rfl rfl (by decide) rfl ?_
            refine J_goto (tgt := 2) dX5_behindBlanks_33 rfl ?_
            refine xx_J.pick [0, 1, 2] rfl ?_
            exact ih _  (by rw [hx]; exact nI_1 i) (by rw [← hv, bbl_s hii, if_pos (by first | exact Or.inl h17 | exact Or.inr h27)])
  refine xx_J.pick [0, 1, 2] rfl ?_
  exact loop i0 (by omega) _  rfl rfl
theorem mnI {m len : Nat} {v : Int32} (hv : v = nI m) (hm : m < 2 ^ 31) (hl : len < 2 ^ 31) : (if nI len < v then nI len else v) = nI (min m len) := by
  subst hv
  split
  · rename_i h
    rw [i_lt, i_n hl, i_n hm] at h
    rw [Nat.min_eq_right (by omega)]
  · rename_i h
    rw [i_lt, i_n hl, i_n hm] at h
    rw [Nat.min_eq_left (by omega)]
/-- behind a symbol at i -/
def eosF (T : xS) (len i : Nat) : Nat := min (i + (if (bat T len i = 60 ∨ bat T len i = 62) ∧ bat T len (i + 1) = 61 then 2 else 1)) len
/-- behind a word (lt) or a number -/
def etl (T : xS) (len : Nat) (lt : Prop) [Decidable lt] : Nat → Nat → Nat
  | 0, i => i
  | d + 1, i => if isD (bat T len i) ∨ (lt ∧ isL (bat T len i)) then etl T len lt d (i + 1) else i
theorem etl_s {T : xS} {len i : Nat} {lt : Prop} [Decidable lt] (h : i < len) : etl T len lt (len - i) i = if isD (bat T len i) ∨ (lt ∧ isL (bat T len i)) then etl T len lt (len - (i + 1)) (i + 1) else i := by
  rw [show len - i = (len - (i + 1)) + 1 by omega]
  rfl
def eotF (T : xS) (len s : Nat) : Nat := if isL (bat T len s) ∨ isD (bat T len s) then etl T len (isL (bat T len s)) (len - (s + 1)) (s + 1) else eosF T len s
theorem bat_in {T : xS} {len s : Nat} (h : isL (bat T len s) ∨ isD (bat T len s)) : s < len := by
  by_cases hs : s < len
  · exact hs
  · exfalso
    unfold bat at h
    rw [if_neg hs] at h
    exact absurd h (by decide)
theorem c_X5_endOfSymbol (hst : l.stackTraces = false) (hT : xx_w b (layT sg b T) A) {len : Nat} (hlen : T.1 1 = nI len) (h20 : len ≤ 2000) {i : Nat} {x : Int32} (hx : x = nI i) (hi : i ≤ len) : xx_C G l yX5_endOfSymbol mX5_endOfSymbol 1 21 0 0 [.ref b, .int x] A n (xx_ro (some (.int (nI (eosF T len i)))) A n) := by
  subst hx
  refine J_C hst (by decide +kernel) rfl rfl rfl (Nat.le_of_ble_eq_true rfl) ?_
  show xx_J _ _ _ _ _ _ _ _ 0 [(0, _), (1, _)] [] _ _ _ _
  refine J_aload_n dX5_endOfSymbol_0 rfl rfl ?_
  refine J_iload_n dX5_endOfSymbol_1 rfl rfl ?_
  refine J_callVr (As := [_]) dX5_endOfSymbol_2 ml_X5_60 cal_X5_byteAt im_X5_byteAt se_X5_byteAt (hT.at 0 rfl) rfl rfl rfl (Nat.le_of_ble_eq_true rfl) ⟨by decide, by decide⟩ ⟨by decide, by decide⟩ (c_X5_byteAt hst hT hlen h20 rfl (by omega)) ?_
  refine J_istore_n (L' := [(2, _), (0, _), (1, _)]) dX5_endOfSymbol_5 rfl (by decide) rfl ?_
  refine J_iload_n dX5_endOfSymbol_6 rfl rfl ?_
  refine J_bipush (v := 60) dX5_endOfSymbol_7 (by decide) ?_
  refine J_icmp_eq (tgt := 18) dX5_endOfSymbol_9 rfl (fun h9 => ?_) (fun h9 => ?_)
  · refine J_aload_n dX5_endOfSymbol_18 rfl rfl ?_
    refine J_iload_n dX5_endOfSymbol_19 rfl rfl ?_
    refine J_iconst (v := 1) dX5_endOfSymbol_20 (by decide) ?_
    refine J_iadd dX5_endOfSymbol_21 ?_
    refine J_callVr (As := [_]) dX5_endOfSymbol_22 ml_X5_60 cal_X5_byteAt im_X5_byteAt se_X5_byteAt (hT.at 0 rfl) rfl rfl rfl (Nat.le_of_ble_eq_true rfl) ⟨by decide, by decide⟩ ⟨by decide, by decide⟩ (c_X5_byteAt hst hT hlen h20 (nI_1 i) (by omega)) ?_
    refine J_bipush (v := 61) dX5_endOfSymbol_25 (by decide) ?_
    refine J_icmp_ne (tgt := 34) dX5_endOfSymbol_27 rfl (fun h27 => ?_) (fun h27 => ?_)
    · refine J_iconst (v := 0) dX5_endOfSymbol_34 (by decide) ?_
      refine J_istore_n (L' := [(3, _), (2, _), (0, _), (1, _)]) dX5_endOfSymbol_35 rfl (by decide) rfl ?_
      refine J_iload_n dX5_endOfSymbol_36 rfl rfl ?_
      refine J_iload_n dX5_endOfSymbol_37 rfl rfl ?_
      refine J_if_eq (tgt := 45) dX5_endOfSymbol_38 rfl (fun h38 => ?_) (fun h38 => ?_)
      · refine J_iconst (v := 1) dX5_endOfSymbol_45 (by decide) ?_
        refine J_iadd dX5_endOfSymbol_46 ?_
        refine J_aload_n dX5_endOfSymbol_47 rfl rfl ?_
        refine J_getf dX5_endOfSymbol_48 fl_X5_15 (hT.at 0 rfl) rfl ?_
        refine J_min dX5_endOfSymbol_51 ml_X5_72 ⟨by decide, Nat.le_of_ble_eq_true rfl⟩ ⟨by decide, by decide⟩ ?_
        refine J_ireturn dX5_endOfSymbol_54 rfl rfl (by decide) (by decide) ?_
        refine ⟨?_, rfl, rfl⟩
        rw [hlen]
        first
          | (have e : eosF T len i = min (i + 2) len := by unfold eosF; rw [if_pos (by first | exact ⟨Or.inl h9, h27⟩ | exact ⟨Or.inr h15, h27⟩)]
             rw [e]
             exact congrArg (fun v => Sum.inl (some (Value.int v))) (mnI (by rw [show (2 : Int32) = nI 2 from rfl, nI_add]) (by omega) (by omega)))
          | (have e : eosF T len i = min (i + 1) len := by unfold eosF; rw [if_neg (by first | exact fun z => h27 z.2 | exact fun z => z.1.elim h9 h15)]
             rw [e]
             exact congrArg (fun v => Sum.inl (some (Value.int v))) (mnI (nI_1 i) (by omega) (by omega)))
      · first | exact absurd h38 (by decide) | exact absurd (by decide) h38
    · refine J_iconst (v := 1) dX5_endOfSymbol_30 (by decide) ?_
      refine J_goto (tgt := 35) dX5_endOfSymbol_31 rfl ?_
      refine J_istore_n (L' := [(3, _), (2, _), (0, _), (1, _)]) dX5_endOfSymbol_35 rfl (by decide) rfl ?_
      refine J_iload_n dX5_endOfSymbol_36 rfl rfl ?_
      refine J_iload_n dX5_endOfSymbol_37 rfl rfl ?_
      refine J_if_eq (tgt := 45) dX5_endOfSymbol_38 rfl (fun h38 => ?_) (fun h38 => ?_)
      · first | exact absurd h38 (by decide) | exact absurd (by decide) h38
      · refine J_iconst (v := 2) dX5_endOfSymbol_41 (by decide) ?_
        refine J_goto (tgt := 46) dX5_endOfSymbol_42 rfl ?_
        refine J_iadd dX5_endOfSymbol_46 ?_
        refine J_aload_n dX5_endOfSymbol_47 rfl rfl ?_
        refine J_getf dX5_endOfSymbol_48 fl_X5_15 (hT.at 0 rfl) rfl ?_
        refine J_min dX5_endOfSymbol_51 ml_X5_72 ⟨by decide, Nat.le_of_ble_eq_true rfl⟩ ⟨by decide, by decide⟩ ?_
        refine J_ireturn dX5_endOfSymbol_54 rfl rfl (by decide) (by decide) ?_
        refine ⟨?_, rfl, rfl⟩
        rw [hlen]
        first
          | (have e : eosF T len i = min (i + 2) len := by unfold eosF; rw [if_pos (by first | exact ⟨Or.inl h9, h27⟩ | exact ⟨Or.inr h15, h27⟩)]
             rw [e]
             exact congrArg (fun v => Sum.inl (some (Value.int v))) (mnI (by rw [show (2 : Int32) = nI 2 from rfl, nI_add]) (by omega) (by omega)))
          | (have e : eosF T len i = min (i + 1) len := by unfold eosF; rw [if_neg (by first | exact fun z => h27 z.2 | exact fun z => z.1.elim h9 h15)]
             rw [e]
             exact congrArg (fun v => Sum.inl (some (Value.int v))) (mnI (nI_1 i) (by omega) (by omega)))
  · refine J_iload_n dX5_endOfSymbol_12 rfl rfl ?_
    refine J_bipush (v := 62) dX5_endOfSymbol_13 (by decide) ?_
    refine J_icmp_ne (tgt := 34) dX5_endOfSymbol_15 rfl (fun h15 => ?_) (fun h15 => ?_)
    · refine J_iconst (v := 0) dX5_endOfSymbol_34 (by decide) ?_
      refine J_istore_n (L' := [(3, _), (2, _), (0, _), (1, _)]) dX5_endOfSymbol_35 rfl (by decide) rfl ?_
      refine J_iload_n dX5_endOfSymbol_36 rfl rfl ?_
      refine J_iload_n dX5_endOfSymbol_37 rfl rfl ?_
      refine J_if_eq (tgt := 45) dX5_endOfSymbol_38 rfl (fun h38 => ?_) (fun h38 => ?_)
      · refine J_iconst (v := 1) dX5_endOfSymbol_45 (by decide) ?_
        refine J_iadd dX5_endOfSymbol_46 ?_
        refine J_aload_n dX5_endOfSymbol_47 rfl rfl ?_
        refine J_getf dX5_endOfSymbol_48 fl_X5_15 (hT.at 0 rfl) rfl ?_
        refine J_min dX5_endOfSymbol_51 ml_X5_72 ⟨by decide, Nat.le_of_ble_eq_true rfl⟩ ⟨by decide, by decide⟩ ?_
        refine J_ireturn dX5_endOfSymbol_54 rfl rfl (by decide) (by decide) ?_
        refine ⟨?_, rfl, rfl⟩
        rw [hlen]
        first
          | (have e : eosF T len i = min (i + 2) len := by unfold eosF; rw [if_pos (by first | exact ⟨Or.inl h9, h27⟩ | exact ⟨Or.inr h15, h27⟩)]
             rw [e]
             exact congrArg (fun v => Sum.inl (some (Value.int v))) (mnI (by rw [show (2 : Int32) = nI 2 from rfl, nI_add]) (by omega) (by omega)))
          | (have e : eosF T len i = min (i + 1) len := by unfold eosF; rw [if_neg (by first | exact fun z => h27 z.2 | exact fun z => z.1.elim h9 h15)]
             rw [e]
             exact congrArg (fun v => Sum.inl (some (Value.int v))) (mnI (nI_1 i) (by omega) (by omega)))
      · first | exact absurd h38 (by decide) | exact absurd (by decide) h38
    · refine J_aload_n dX5_endOfSymbol_18 rfl rfl ?_
      refine J_iload_n dX5_endOfSymbol_19 rfl rfl ?_
      refine J_iconst (v := 1) dX5_endOfSymbol_20 (by decide) ?_
      refine J_iadd dX5_endOfSymbol_21 ?_
      refine J_callVr (As := [_]) dX5_endOfSymbol_22 ml_X5_60 cal_X5_byteAt im_X5_byteAt se_X5_byteAt (hT.at 0 rfl) rfl rfl rfl (Nat.le_of_ble_eq_true rfl) ⟨by decide, by decide⟩ ⟨by decide, by decide⟩ (c_X5_byteAt hst hT hlen h20 (nI_1 i) (by omega)) ?_
      refine J_bipush (v := 61) dX5_endOfSymbol_25 (by decide) ?_
      refine J_icmp_ne (tgt := 34) dX5_endOfSymbol_27 rfl (fun h27 => ?_) (fun h27 => ?_)
      · refine J_iconst (v := 0) dX5_endOfSymbol_34 (by decide) ?_
        refine J_istore_n (L' := [(3, _), (2, _), (0, _), (1, _)]) dX5_endOfSymbol_35 rfl (by decide) rfl ?_
        refine J_iload_n dX5_endOfSymbol_36 rfl rfl ?_
        refine J_iload_n dX5_endOfSymbol_37 rfl rfl ?_
        refine J_if_eq (tgt := 45) dX5_endOfSymbol_38 rfl (fun h38 => ?_) (fun h38 => ?_)
        · refine J_iconst (v := 1) dX5_endOfSymbol_45 (by decide) ?_
          refine J_iadd dX5_endOfSymbol_46 ?_
          refine J_aload_n dX5_endOfSymbol_47 rfl rfl ?_
          refine J_getf dX5_endOfSymbol_48 fl_X5_15 (hT.at 0 rfl) rfl ?_
          refine J_min dX5_endOfSymbol_51 ml_X5_72 ⟨by decide, Nat.le_of_ble_eq_true rfl⟩ ⟨by decide, by decide⟩ ?_
          refine J_ireturn dX5_endOfSymbol_54 rfl rfl (by decide) (by decide) ?_
          refine ⟨?_, rfl, rfl⟩
          rw [hlen]
          first
            | (have e : eosF T len i = min (i + 2) len := by unfold eosF; rw [if_pos (by first | exact ⟨Or.inl h9, h27⟩ | exact ⟨Or.inr h15, h27⟩)]
               rw [e]
               exact congrArg (fun v => Sum.inl (some (Value.int v))) (mnI (by rw [show (2 : Int32) = nI 2 from rfl, nI_add]) (by omega) (by omega)))
            | (have e : eosF T len i = min (i + 1) len := by unfold eosF; rw [if_neg (by first | exact fun z => h27 z.2 | exact fun z => z.1.elim h9 h15)]
               rw [e]
               exact congrArg (fun v => Sum.inl (some (Value.int v))) (mnI (nI_1 i) (by omega) (by omega)))
        · first | exact absurd h38 (by decide) | exact absurd (by decide) h38
      · refine J_iconst (v := 1) dX5_endOfSymbol_30 (by decide) ?_
        refine J_goto (tgt := 35) dX5_endOfSymbol_31 rfl ?_
        refine J_istore_n (L' := [(3, _), (2, _), (0, _), (1, _)]) dX5_endOfSymbol_35 rfl (by decide) rfl ?_
        refine J_iload_n dX5_endOfSymbol_36 rfl rfl ?_
        refine J_iload_n dX5_endOfSymbol_37 rfl rfl ?_
        refine J_if_eq (tgt := 45) dX5_endOfSymbol_38 rfl (fun h38 => ?_) (fun h38 => ?_)
        · first | exact absurd h38 (by decide) | exact absurd (by decide) h38
        · refine J_iconst (v := 2) dX5_endOfSymbol_41 (by decide) ?_
          refine J_goto (tgt := 46) dX5_endOfSymbol_42 rfl ?_
          refine J_iadd dX5_endOfSymbol_46 ?_
          refine J_aload_n dX5_endOfSymbol_47 rfl rfl ?_
          refine J_getf dX5_endOfSymbol_48 fl_X5_15 (hT.at 0 rfl) rfl ?_
          refine J_min dX5_endOfSymbol_51 ml_X5_72 ⟨by decide, Nat.le_of_ble_eq_true rfl⟩ ⟨by decide, by decide⟩ ?_
          refine J_ireturn dX5_endOfSymbol_54 rfl rfl (by decide) (by decide) ?_
          refine ⟨?_, rfl, rfl⟩
          rw [hlen]
          first
            | (have e : eosF T len i = min (i + 2) len := by unfold eosF; rw [if_pos (by first | exact ⟨Or.inl h9, h27⟩ | exact ⟨Or.inr h15, h27⟩)]
               rw [e]
               exact congrArg (fun v => Sum.inl (some (Value.int v))) (mnI (by rw [show (2 : Int32) = nI 2 from rfl, nI_add]) (by omega) (by omega)))
            | (have e : eosF T len i = min (i + 1) len := by unfold eosF; rw [if_neg (by first | exact fun z => h27 z.2 | exact fun z => z.1.elim h9 h15)]
               rw [e]
               exact congrArg (fun v => Sum.inl (some (Value.int v))) (mnI (nI_1 i) (by omega) (by omega)))
theorem c_X5_endOfToken (hst : l.stackTraces = false) (hT : xx_w b (layT sg b T) A) {len : Nat} (hlen : T.1 1 = nI len) (h20 : len ≤ 2000) {s : Nat} {x0 : Int32} (hx0 : x0 = nI s) (hs : s ≤ len) : xx_C G l yX5_endOfToken mX5_endOfToken 2 44 0 0 [.ref b, .int x0] A n (xx_ro (some (.int (nI (eotF T len s)))) A n) := by
  subst hx0
  refine J_C hst (by decide +kernel) rfl rfl rfl (Nat.le_of_ble_eq_true rfl) ?_
  show xx_J _ _ _ _ _ _ _ _ 0 [(0, _), (1, _)] [] _ _ _ _
  refine J_aload_n dX5_endOfToken_0 rfl rfl ?_
  refine J_iload_n dX5_endOfToken_1 rfl rfl ?_
  refine J_callVr (As := [_]) dX5_endOfToken_2 ml_X5_60 cal_X5_byteAt im_X5_byteAt se_X5_byteAt (hT.at 0 rfl) rfl rfl rfl (Nat.le_of_ble_eq_true rfl) ⟨by decide, by decide⟩ ⟨by decide, by decide⟩ (c_X5_byteAt hst hT hlen h20 rfl (by omega)) ?_
  refine J_istore_n (L' := [(2, _), (0, _), (1, _)]) dX5_endOfToken_5 rfl (by decide) rfl ?_
  refine J_iload_n dX5_endOfToken_6 rfl rfl ?_
  refine J_callSr (As := [_]) dX5_endOfToken_7 ml_X5_63 cal_X5_isLetter sm_X5_isLetter rfl rfl (Nat.le_of_ble_eq_true rfl) ⟨by decide, by decide⟩ ⟨by decide, by decide⟩ (c_X5_isLetter hst _) ?_
  refine J_istore_n (L' := [(3, _), (2, _), (0, _), (1, _)]) dX5_endOfToken_10 rfl (by decide) rfl ?_
  refine J_iload_n dX5_endOfToken_11 rfl rfl ?_
  refine J_ifb_ne (tgt := 28) dX5_endOfToken_12 rfl (fun h12 => ?_) (fun h12 => ?_)
  · have hsl : s < len := bat_in (by first | exact Or.inl h12 | exact Or.inr h19)
    have he : eotF T len s = etl T len (isL (bat T len s)) (len - (s + 1)) (s + 1) := by unfold eotF; rw [if_pos (by first | exact Or.inl h12 | exact Or.inr h19)]
    refine J_iload_n dX5_endOfToken_28 rfl rfl ?_
    refine J_iconst (v := 1) dX5_endOfToken_29 (by decide) ?_
    refine J_iadd dX5_endOfToken_30 ?_
    refine J_istore (L' := [(4, _), (3, _), (2, _), (0, _), (1, _)]) dX5_endOfToken_31 (by decide) rfl ?_
    have loop : ∀ i, i ≤ len → ∀ (x : Int32) , (x = nI i) → (etl T len (isL (bat T len s)) (len - i) i = etl T len (isL (bat T len s)) (len - (s + 1)) (s + 1)) → xx_J G l mX5_endOfToken 2 44 0 0 (xx_ro (some (.int (nI (eotF T len s)))) A n) 33 [(4, .int x), (3, .int (xx_b (isL (bat T len s)))), (2, .int (bat T len s)), (0, .ref b), (1, .int (nI s))] [] A n 0 0 := by
      refine xx_dn ?_ ?_
      · intro x   hx hv
        have elen : (T.1 1).toInt = len := by rw [hlen]; exact i_n (by omega)
        have ex : x.toInt = len := by rw [hx]; exact i_n (by omega)
        refine J_iload dX5_endOfToken_33 rfl ?_
        refine J_aload_n dX5_endOfToken_35 rfl rfl ?_
        refine J_getf dX5_endOfToken_36 fl_X5_15 (hT.at 0 rfl) rfl ?_
        refine J_icmp_ge (tgt := 76) dX5_endOfToken_39 rfl (fun h39 => ?_) (fun h39 => ?_)
        · refine J_iload dX5_endOfToken_76 rfl ?_
          refine J_ireturn dX5_endOfToken_78 rfl rfl (by decide) (by decide) ?_
          exact ⟨by rw [he, hx, ← hv, Nat.sub_self]; rfl, rfl, rfl⟩
        · first | (exfalso; simp only [i_lt, i_le, i_eq, i_0, i_1, i_2, i_3, i_4, i_5, i_6, i_8, i_9, i_10, i_12, i_16, i_20, i_m1, i_400] at h39; omega) | (exfalso; simp only [s_up, a_up, va_up, i_lt, i_le, i_eq, i_0, i_1, i_2, i_3, i_4, i_5, i_6, i_8, i_9, i_10, i_12, i_16, i_20, i_m1, i_400, ↓reduceIte, Nat.reduceEqDiff] at h39; omega)
      · intro i hii ih x   hx hv
        have elen : (T.1 1).toInt = len := by rw [hlen]; exact i_n (by omega)
        have ex : x.toInt = i := by rw [hx]; exact i_n (by omega)
        refine J_iload dX5_endOfToken_33 rfl ?_
        refine J_aload_n dX5_endOfToken_35 rfl rfl ?_
        refine J_getf dX5_endOfToken_36 fl_X5_15 (hT.at 0 rfl) rfl ?_
        refine J_icmp_ge (tgt := 76) dX5_endOfToken_39 rfl (fun h39 => ?_) (fun h39 => ?_)
        · first | (exfalso; simp only [i_lt, i_le, i_eq, i_0, i_1, i_2, i_3, i_4, i_5, i_6, i_8, i_9, i_10, i_12, i_16, i_20, i_m1, i_400] at h39; omega) | (exfalso; simp only [s_up, a_up, va_up, i_lt, i_le, i_eq, i_0, i_1, i_2, i_3, i_4, i_5, i_6, i_8, i_9, i_10, i_12, i_16, i_20, i_m1, i_400, ↓reduceIte, Nat.reduceEqDiff] at h39; omega)
        · refine J_aload_n dX5_endOfToken_42 rfl rfl ?_
          refine J_iload dX5_endOfToken_43 rfl ?_
          refine J_callVr (As := [_]) dX5_endOfToken_45 ml_X5_60 cal_X5_byteAt im_X5_byteAt se_X5_byteAt (hT.at 0 rfl) rfl rfl rfl (Nat.le_of_ble_eq_true rfl) ⟨by decide, by decide⟩ ⟨by decide, by decide⟩ (c_X5_byteAt hst hT hlen h20 hx (by omega)) ?_
          refine J_callSr (As := [_]) dX5_endOfToken_48 ml_X5_66 cal_X5_isDigit sm_X5_isDigit rfl rfl (Nat.le_of_ble_eq_true rfl) ⟨by decide, by decide⟩ ⟨by decide, by decide⟩ (c_X5_isDigit hst _) ?_
          refine J_ifb_ne (tgt := 70) dX5_endOfToken_51 rfl (fun h51 => ?_) (fun h51 => ?_)
          · refine J_iinc (v := _ + 1) (L' := [(4, _), (3, _), (2, _), (0, _), (1, _)]) dX5_endOfToken_70 rfl rfl (by decide) rfl ?_
            refine J_goto (tgt := 33) dX5_endOfToken_73 rfl ?_
            refine xx_J.pick [0, 1, 2, 3, 4] rfl ?_
            exact ih _  (by rw [hx]; exact nI_1 i) (by rw [← hv, etl_s hii, if_pos (by first | exact Or.inl h51 | exact Or.inr ⟨h55, h67⟩)])
          · refine J_iload_n dX5_endOfToken_54 rfl rfl ?_
            refine J_ifb_eq (tgt := 76) dX5_endOfToken_55 rfl (fun h55 => ?_) (fun h55 => ?_)
            · refine J_iload dX5_endOfToken_76 rfl ?_
              refine J_ireturn dX5_endOfToken_78 rfl rfl (by decide) (by decide) ?_
              exact ⟨by rw [he, hx, ← hv, etl_s hii, if_neg (by first | exact fun z => z.elim h51 (fun y => h55 y.1) | exact fun z => z.elim h51 (fun y => h67 y.2))], rfl, rfl⟩
            · refine J_aload_n dX5_endOfToken_58 rfl rfl ?_
              refine J_iload dX5_endOfToken_59 rfl ?_
              refine J_callVr (As := [_]) dX5_endOfToken_61 ml_X5_60 cal_X5_byteAt im_X5_byteAt se_X5_byteAt (hT.at 0 rfl) rfl rfl rfl (Nat.le_of_ble_eq_true rfl) ⟨by decide, by decide⟩ ⟨by decide, by decide⟩ (c_X5_byteAt hst hT hlen h20 hx (by omega)) ?_
              refine J_callSr (As := [_]) dX5_endOfToken_64 ml_X5_63 cal_X5_isLetter sm_X5_isLetter rfl rfl (Nat.le_of_ble_eq_true rfl) ⟨by decide, by decide⟩ ⟨by decide, by decide⟩ (c_X5_isLetter hst _) ?_
              refine J_ifb_eq (tgt := 76) dX5_endOfToken_67 rfl (fun h67 => ?_) (fun h67 => ?_)
              · refine J_iload dX5_endOfToken_76 rfl ?_
                refine J_ireturn dX5_endOfToken_78 rfl rfl (by decide) (by decide) ?_
                exact ⟨by rw [he, hx, ← hv, etl_s hii, if_neg (by first | exact fun z => z.elim h51 (fun y => h55 y.1) | exact fun z => z.elim h51 (fun y => h67 y.2))], rfl, rfl⟩
              · refine J_iinc (v := _ + 1) (L' := [(4, _), (3, _), (2, _), (0, _), (1, _)]) dX5_endOfToken_70 rfl rfl (by decide) rfl ?_
                refine J_goto (tgt := 33) dX5_endOfToken_73 rfl ?_
                refine xx_J.pick [0, 1, 2, 3, 4] rfl ?_
                exact ih _  (by rw [hx]; exact nI_1 i) (by rw [← hv, etl_s hii, if_pos (by first | exact Or.inl h51 | exact Or.inr ⟨h55, h67⟩)])
    refine xx_J.pick [0, 1, 2, 3, 4] rfl ?_
    exact loop (s + 1) (by omega) _  (nI_1 s) rfl
  · refine J_iload_n dX5_endOfToken_15 rfl rfl ?_
    refine J_callSr (As := [_]) dX5_endOfToken_16 ml_X5_66 cal_X5_isDigit sm_X5_isDigit rfl rfl (Nat.le_of_ble_eq_true rfl) ⟨by decide, by decide⟩ ⟨by decide, by decide⟩ (c_X5_isDigit hst _) ?_
    refine J_ifb_ne (tgt := 28) dX5_endOfToken_19 rfl (fun h19 => ?_) (fun h19 => ?_)
    · have hsl : s < len := bat_in (by first | exact Or.inl h12 | exact Or.inr h19)
      have he : eotF T len s = etl T len (isL (bat T len s)) (len - (s + 1)) (s + 1) := by unfold eotF; rw [if_pos (by first | exact Or.inl h12 | exact Or.inr h19)]
      refine J_iload_n dX5_endOfToken_28 rfl rfl ?_
      refine J_iconst (v := 1) dX5_endOfToken_29 (by decide) ?_
      refine J_iadd dX5_endOfToken_30 ?_
      refine J_istore (L' := [(4, _), (3, _), (2, _), (0, _), (1, _)]) dX5_endOfToken_31 (by decide) rfl ?_
      have loop : ∀ i, i ≤ len → ∀ (x : Int32) , (x = nI i) → (etl T len (isL (bat T len s)) (len - i) i = etl T len (isL (bat T len s)) (len - (s + 1)) (s + 1)) → xx_J G l mX5_endOfToken 2 44 0 0 (xx_ro (some (.int (nI (eotF T len s)))) A n) 33 [(4, .int x), (3, .int (xx_b (isL (bat T len s)))), (2, .int (bat T len s)), (0, .ref b), (1, .int (nI s))] [] A n 0 0 := by
        refine xx_dn ?_ ?_
        · intro x   hx hv
          have elen : (T.1 1).toInt = len := by rw [hlen]; exact i_n (by omega)
          have ex : x.toInt = len := by rw [hx]; exact i_n (by omega)
          refine J_iload dX5_endOfToken_33 rfl ?_
          refine J_aload_n dX5_endOfToken_35 rfl rfl ?_
          refine J_getf dX5_endOfToken_36 fl_X5_15 (hT.at 0 rfl) rfl ?_
          refine J_icmp_ge (tgt := 76) dX5_endOfToken_39 rfl (fun h39 => ?_) (fun h39 => ?_)
          · refine J_iload dX5_endOfToken_76 rfl ?_
            refine J_ireturn dX5_endOfToken_78 rfl rfl (by decide) (by decide) ?_
            exact ⟨by rw [he, hx, ← hv, Nat.sub_self]; rfl, rfl, rfl⟩
          · first | (exfalso; simp only [i_lt, i_le, i_eq, i_0, i_1, i_2, i_3, i_4, i_5, i_6, i_8, i_9, i_10, i_12, i_16, i_20, i_m1, i_400] at h39; omega) | (exfalso; simp only [s_up, a_up, va_up, i_lt, i_le, i_eq, i_0, i_1, i_2, i_3, i_4, i_5, i_6, i_8, i_9, i_10, i_12, i_16, i_20, i_m1, i_400, ↓reduceIte, Nat.reduceEqDiff] at h39; omega)
        · intro i hii ih x   hx hv
          have elen : (T.1 1).toInt = len := by rw [hlen]; exact i_n (by omega)
          have ex : x.toInt = i := by rw [hx]; exact i_n (by omega)
          refine J_iload dX5_endOfToken_33 rfl ?_
          refine J_aload_n dX5_endOfToken_35 rfl rfl ?_
          refine J_getf dX5_endOfToken_36 fl_X5_15 (hT.at 0 rfl) rfl ?_
          refine J_icmp_ge (tgt := 76) dX5_endOfToken_39 rfl (fun h39 => ?_) (fun h39 => ?_)
          · first | (exfalso; simp only [i_lt, i_le, i_eq, i_0, i_1, i_2, i_3, i_4, i_5, i_6, i_8, i_9, i_10, i_12, i_16, i_20, i_m1, i_400] at h39; omega) | (exfalso; simp only [s_up, a_up, va_up, i_lt, i_le, i_eq, i_0, i_1, i_2, i_3, i_4, i_5, i_6, i_8, i_9, i_10, i_12, i_16, i_20, i_m1, i_400, ↓reduceIte, Nat.reduceEqDiff] at h39; omega)
          · refine J_aload_n dX5_endOfToken_42 rfl rfl ?_
            refine J_iload dX5_endOfToken_43 rfl ?_
            refine J_callVr (As := [_]) dX5_endOfToken_45 ml_X5_60 cal_X5_byteAt im_X5_byteAt se_X5_byteAt (hT.at 0 rfl) rfl rfl rfl (Nat.le_of_ble_eq_true rfl) ⟨by decide, by decide⟩ ⟨by decide, by decide⟩ (c_X5_byteAt hst hT hlen h20 hx (by omega)) ?_
            refine J_callSr (As := [_]) dX5_endOfToken_48 ml_X5_66 cal_X5_isDigit sm_X5_isDigit rfl rfl (Nat.le_of_ble_eq_true rfl) ⟨by decide, by decide⟩ ⟨by decide, by decide⟩ (c_X5_isDigit hst _) ?_
            refine J_ifb_ne (tgt := 70) dX5_endOfToken_51 rfl (fun h51 => ?_) (fun h51 => ?_)
            · refine J_iinc (v := _ + 1) (L' := [(4, _), (3, _), (2, _), (0, _), (1, _)]) dX5_endOfToken_70 rfl rfl (by decide) rfl ?_
              refine J_goto (tgt := 33) dX5_endOfToken_73 rfl ?_
              refine xx_J.pick [0, 1, 2, 3, 4] rfl ?_
              exact ih _  (by rw [hx]; exact nI_1 i) (by rw [← hv, etl_s hii, if_pos (by first | exact Or.inl h51 | exact Or.inr ⟨h55, h67⟩)])
            · refine J_iload_n dX5_endOfToken_54 rfl rfl ?_
              refine J_ifb_eq (tgt := 76) dX5_endOfToken_55 rfl (fun h55 => ?_) (fun h55 => ?_)
              · refine J_iload dX5_endOfToken_76 rfl ?_
                refine J_ireturn dX5_endOfToken_78 rfl rfl (by decide) (by decide) ?_
                exact ⟨by rw [he, hx, ← hv, etl_s hii, if_neg (by first | exact fun z => z.elim h51 (fun y => h55 y.1) | exact fun z => z.elim h51 (fun y => h67 y.2))], rfl, rfl⟩
              · refine J_aload_n dX5_endOfToken_58 rfl rfl ?_
                refine J_iload dX5_endOfToken_59 rfl ?_
                refine J_callVr (As := [_]) dX5_endOfToken_61 ml_X5_60 cal_X5_byteAt im_X5_byteAt se_X5_byteAt (hT.at 0 rfl) rfl rfl rfl (Nat.le_of_ble_eq_true rfl) ⟨by decide, by decide⟩ ⟨by decide, by decide⟩ (c_X5_byteAt hst hT hlen h20 hx (by omega)) ?_
                refine J_callSr (As := [_]) dX5_endOfToken_64 ml_X5_63 cal_X5_isLetter sm_X5_isLetter rfl rfl (Nat.le_of_ble_eq_true rfl) ⟨by decide, by decide⟩ ⟨by decide, by decide⟩ (c_X5_isLetter hst _) ?_
                refine J_ifb_eq (tgt := 76) dX5_endOfToken_67 rfl (fun h67 => ?_) (fun h67 => ?_)
                · refine J_iload dX5_endOfToken_76 rfl ?_
                  refine J_ireturn dX5_endOfToken_78 rfl rfl (by decide) (by decide) ?_
                  exact ⟨by rw [he, hx, ← hv, etl_s hii, if_neg (by first | exact fun z => z.elim h51 (fun y => h55 y.1) | exact fun z => z.elim h51 (fun y => h67 y.2))], rfl, rfl⟩
                · refine J_iinc (v := _ + 1) (L' := [(4, _), (3, _), (2, _), (0, _), (1, _)]) dX5_endOfToken_70 rfl rfl (by decide) rfl ?_
                  refine J_goto (tgt := 33) dX5_endOfToken_73 rfl ?_
                  refine xx_J.pick [0, 1, 2, 3, 4] rfl ?_
                  exact ih _  (by rw [hx]; exact nI_1 i) (by rw [← hv, etl_s hii, if_pos (by first | exact Or.inl h51 | exact Or.inr ⟨h55, h67⟩)])
      refine xx_J.pick [0, 1, 2, 3, 4] rfl ?_
      exact loop (s + 1) (by omega) _  (nI_1 s) rfl
    · refine J_aload_n dX5_endOfToken_22 rfl rfl ?_
      refine J_iload_n dX5_endOfToken_23 rfl rfl ?_
      refine J_callVr (As := [_]) dX5_endOfToken_24 ml_X5_69 cal_X5_endOfSymbol im_X5_endOfSymbol se_X5_endOfSymbol (hT.at 0 rfl) rfl rfl rfl (Nat.le_of_ble_eq_true rfl) ⟨by decide, by decide⟩ ⟨by decide, by decide⟩ (c_X5_endOfSymbol hst hT hlen h20 rfl hs) ?_
      refine J_ireturn dX5_endOfToken_27 rfl rfl (by decide) (by decide) ?_
      exact ⟨by unfold eotF; rw [if_neg (fun z => z.elim h12 h19)], rfl, rfl⟩
/-- one byte more -/
def apS (T : xS) (p : Nat) (v sh : Int32) : xS := s_up (a_up T 1 (upd (T.2 1) p (vp_nar .byte (v >>> (sh &&& 31)).toInt8.toInt32))) 1 (T.1 1 + 1)
def apN (T : xS) (len : Nat) (v : Int32) : Nat → xS
  | 0 => T
  | i + 1 => apS (apN T len v i) (len + i) v (24 - 8 * nI i)
theorem apN_l {T : xS} {len : Nat} {v : Int32} (h : T.1 1 = nI len) : ∀ i, (apN T len v i).1 1 = nI (len + i) := by
  intro i
  induction i with
  | zero => exact h
  | succ i ih =>
    show (apN T len v i).1 1 + 1 = _
    rw [ih]
    exact nI_1 _
theorem sh8 : ∀ i, i ≤ 4 → (24 - 8 * nI i : Int32).toInt = 24 - 8 * (i : Int) := by decide
theorem sh8s : ∀ i, i < 4 → (24 - 8 * nI i : Int32) + (-8) = 24 - 8 * nI (i + 1) := by decide
theorem c_X5_append (hst : l.stackTraces = false) (hT : xx_w b (layT sg b T) A) {len : Nat} (hlen : T.1 1 = nI len) (h20 : len ≤ 2000) (h4 : len + 4 ≤ 2000) (v : Int32) : xx_C G l yX5_append mX5_append 0 0 0 0 [.ref b, .int v] A n (xx_wr none n (fun A' => xx_w b (layT sg b (apN T len v 4)) A' ∧ xx_same b (b + 5) A A')) := by
  refine J_C hst (by decide +kernel) rfl rfl rfl (Nat.le_of_ble_eq_true rfl) ?_
  show xx_J _ _ _ _ _ _ _ _ 0 [(0, _), (1, _)] [] _ _ _ _
  refine J_bipush (v := 24) dX5_append_0 (by decide) ?_
  refine J_istore_n (L' := [(2, _), (0, _), (1, _)]) dX5_append_2 rfl (by decide) rfl ?_
  have loop : ∀ i, i ≤ 4 → ∀ (x : Int32) (A1 : xx_H), (x = 24 - 8 * nI i) → (xx_w b (layT sg b (apN T len v i)) A1) → (xx_same b (b + 5) A A1) → xx_J G l mX5_append 0 0 0 0 (xx_wr none n (fun A' => xx_w b (layT sg b (apN T len v 4)) A' ∧ xx_same b (b + 5) A A')) 3 [(2, .int x), (0, .ref b), (1, .int v)] [] A1 n 0 0 := by
    refine xx_dn ?_ ?_
    · intro x  A1  hx hT1 hs1
      have ex : x.toInt = -8 := by rw [hx]; rfl
      refine J_iload_n dX5_append_3 rfl rfl ?_
      refine J_if_lt (tgt := 46) dX5_append_4 rfl (fun h4 => ?_) (fun h4 => ?_)
      · refine J_return dX5_append_46 rfl (by decide) (by decide) ?_
        exact ⟨rfl, rfl, hT1, hs1⟩
      · first | (exfalso; simp only [i_lt, i_le, i_eq, i_0, i_1, i_2, i_3, i_4, i_5, i_6, i_8, i_9, i_10, i_12, i_16, i_20, i_m1, i_400] at h4; omega) | (exfalso; simp only [s_up, a_up, va_up, i_lt, i_le, i_eq, i_0, i_1, i_2, i_3, i_4, i_5, i_6, i_8, i_9, i_10, i_12, i_16, i_20, i_m1, i_400, ↓reduceIte, Nat.reduceEqDiff] at h4; omega)
    · intro i hii ih x  A1  hx hT1 hs1
      have ex : x.toInt = 24 - 8 * (i : Int) := by rw [hx]; exact sh8 i (by omega)
      have el : ((apN T len v i).1 1).toInt = ((len + i : Nat) : Int) := by rw [apN_l hlen]; exact i_n (by omega)
      have e2000 := i_2000
      refine J_iload_n dX5_append_3 rfl rfl ?_
      refine J_if_lt (tgt := 46) dX5_append_4 rfl (fun h4 => ?_) (fun h4 => ?_)
      · first | (exfalso; simp only [i_lt, i_le, i_eq, i_0, i_1, i_2, i_3, i_4, i_5, i_6, i_8, i_9, i_10, i_12, i_16, i_20, i_m1, i_400] at h4; omega) | (exfalso; simp only [s_up, a_up, va_up, i_lt, i_le, i_eq, i_0, i_1, i_2, i_3, i_4, i_5, i_6, i_8, i_9, i_10, i_12, i_16, i_20, i_m1, i_400, ↓reduceIte, Nat.reduceEqDiff] at h4; omega)
      · refine J_aload_n dX5_append_7 rfl rfl ?_
        refine J_getf dX5_append_8 fl_X5_15 (hT1.at 0 rfl) rfl ?_
        refine J_sipush (v := 2000) dX5_append_11 (by decide) ?_
        refine J_icmp_ge (tgt := 46) dX5_append_14 rfl (fun h14 => ?_) (fun h14 => ?_)
        · first | (exfalso; simp only [i_lt, i_le, i_eq, i_0, i_1, i_2, i_3, i_4, i_5, i_6, i_8, i_9, i_10, i_12, i_16, i_20, i_m1, i_400] at h14; omega) | (exfalso; simp only [s_up, a_up, va_up, i_lt, i_le, i_eq, i_0, i_1, i_2, i_3, i_4, i_5, i_6, i_8, i_9, i_10, i_12, i_16, i_20, i_m1, i_400, ↓reduceIte, Nat.reduceEqDiff] at h14; omega)
        · refine J_aload_n dX5_append_17 rfl rfl ?_
          refine J_getf dX5_append_18 fl_X5_9 (hT1.at 0 rfl) rfl ?_
          refine J_aload_n dX5_append_21 rfl rfl ?_
          refine J_getf dX5_append_22 fl_X5_15 (hT1.at 0 rfl) rfl ?_
          refine J_iload_n dX5_append_25 rfl rfl ?_
          refine J_iload_n dX5_append_26 rfl rfl ?_
          refine J_ishr dX5_append_27 ?_
          refine J_i2b dX5_append_28 rfl ?_
          refine J_bastN (len + i) dX5_append_29 (hT1.at 1 rfl) (apN_l hlen i) (by omega) (by decide) ?_
          refine J_gen (wT_a1 hT1 _) (hs1.put (by omega) (by omega) _) (fun A51 w51 s51 o51 => ?_)
          refine J_aload_n dX5_append_30 rfl rfl ?_
          refine J_dup dX5_append_31 rfl ?_
          refine J_getf dX5_append_32 fl_X5_15 (w51.at 0 rfl) rfl ?_
          refine J_iconst (v := 1) dX5_append_35 (by decide) ?_
          refine J_iadd dX5_append_36 ?_
          refine J_putf dX5_append_37 fp_X5_15 (fun _ => ⟨rfl, rfl⟩) (w51.at 0 rfl) (Nat.le_of_ble_eq_true rfl) ?_
          refine J_gen (wT_s0_1 w51 _) (s51.put (by omega) (by omega) _) (fun A52 w52 s52 o52 => ?_)
          refine J_iinc (v := _ + (-8)) (L' := [(2, _), (0, _), (1, _)]) dX5_append_40 rfl rfl (by decide) rfl ?_
          refine J_goto (tgt := 3) dX5_append_43 rfl ?_
          refine xx_J.pick [0, 1, 2] rfl ?_
          exact ih _ _ (by rw [hx]; exact sh8s i hii) (by show xx_w b (layT sg b (apS (apN T len v i) (len + i) v (24 - 8 * nI i))) _; rw [← hx]; exact w52) s52
  refine xx_J.pick [0, 1, 2] rfl ?_
  exact loop 0 (by omega) _ _ rfl hT (xx_same.rf (b := b) (e := b + 5))
theorem gs_mem (i : Nat) (hi : i < 39) : ("BeltRounds$Sign", xx_sg.getD i "", xx_dS, Value.ref i) ∈ xx_st := List.mem_append_left _ (List.mem_map.mpr ⟨i, List.mem_range.mpr hi, rfl⟩)
/-- the number that the bytes i .. tell, d of them -/
def nmF (T : xS) (len : Nat) : Nat → Nat → Int32 → Int32
  | 0, _, acc => acc
  | d + 1, i, acc => nmF T len d (i + 1) (acc * 10 + (bat T len i - 48))
theorem nmF_s {T : xS} {len e i : Nat} {acc : Int32} (h : i < e) : nmF T len (e - i) i acc = nmF T len (e - (i + 1)) (i + 1) (acc * 10 + (bat T len i - 48)) := by
  rw [show e - i = (e - (i + 1)) + 1 by omega]
  rfl
/-- are the d bytes from i and from q on the same -/
def smF (T : xS) (len : Nat) : Nat → Nat → Nat → Bool
  | 0, _, _ => true
  | d + 1, i, q => decide (bat T len i = bat T len q) && smF T len d (i + 1) (q + 1)
theorem c_X5_hasToken (hst : l.stackTraces = false) (hT : xx_w b (layT sg b T) A) {tok : Nat} (htok : T.1 5 = nI tok) (h401 : tok ≤ 401) {t : Nat} {x : Int32} (hx : x = nI t) (ht : t < 2 ^ 31) : xx_C G l yX5_hasToken mX5_hasToken 0 0 0 0 [.ref b, .int x] A n (xx_ro (some (.int (xx_b (t < tok)))) A n) := by
  have etok : (T.1 5).toInt = tok := by rw [htok]; exact i_n (by omega)
  have e401 : (Int32.ofNat 401).toInt = 401 := rfl
  have ex : x.toInt = t := by rw [hx]; exact i_n ht
  refine J_C hst (by decide +kernel) rfl rfl rfl (Nat.le_of_ble_eq_true rfl) ?_
  show xx_J _ _ _ _ _ _ _ _ 0 [(0, _), (1, _)] [] _ _ _ _
  refine J_iload_n dX5_hasToken_0 rfl rfl ?_
  refine J_if_lt (tgt := 25) dX5_hasToken_1 rfl (fun h1 => ?_) (fun h1 => ?_)
  · first | (exfalso; simp only [i_lt, i_le, i_eq, i_0, i_1, i_2, i_3, i_4, i_5, i_6, i_8, i_9, i_10, i_12, i_16, i_20, i_m1, i_400, i_2000] at h1; omega) | (exfalso; simp only [s_up, a_up, va_up, i_lt, i_le, i_eq, i_0, i_1, i_2, i_3, i_4, i_5, i_6, i_8, i_9, i_10, i_12, i_16, i_20, i_m1, i_400, i_2000, ↓reduceIte, Nat.reduceEqDiff] at h1; omega)
  · refine J_iload_n dX5_hasToken_4 rfl rfl ?_
    refine J_aload_n dX5_hasToken_5 rfl rfl ?_
    refine J_getf dX5_hasToken_6 fl_X5_32 (hT.at 0 rfl) rfl ?_
    refine J_icmp_ge (tgt := 25) dX5_hasToken_9 rfl (fun h9 => ?_) (fun h9 => ?_)
    · refine J_iconst (v := 0) dX5_hasToken_25 (by decide) ?_
      refine J_ireturn dX5_hasToken_26 rfl rfl (by decide) (by decide) ?_
      exact ⟨by unfold xx_b; split <;> first | rfl | (exfalso; simp only [i_lt, i_le, i_eq, i_0, i_1, i_2, i_3, i_4, i_5, i_6, i_8, i_9, i_10, i_12, i_16, i_20, i_m1] at *; omega), rfl, rfl⟩
    · have h9b : t < tok := by simp only [i_lt, i_le, i_eq, i_0, i_1, i_2, i_3, i_4, i_5, i_6, i_8, i_9, i_10, i_12, i_16, i_20, i_m1] at h9; omega
      refine J_iload_n dX5_hasToken_12 rfl rfl ?_
      refine J_aload_n dX5_hasToken_13 rfl rfl ?_
      refine J_getf dX5_hasToken_14 fl_X5_21 (hT.at 0 rfl) rfl ?_
      refine J_alen dX5_hasToken_17 (hT.at 2 rfl) (by decide) rfl ?_
      refine J_icmp_ge (tgt := 25) dX5_hasToken_18 rfl (fun h18 => ?_) (fun h18 => ?_)
      · first | (exfalso; simp only [i_lt, i_le, i_eq, i_0, i_1, i_2, i_3, i_4, i_5, i_6, i_8, i_9, i_10, i_12, i_16, i_20, i_m1, i_400, i_2000] at h18; omega) | (exfalso; simp only [s_up, a_up, va_up, i_lt, i_le, i_eq, i_0, i_1, i_2, i_3, i_4, i_5, i_6, i_8, i_9, i_10, i_12, i_16, i_20, i_m1, i_400, i_2000, ↓reduceIte, Nat.reduceEqDiff] at h18; omega)
      · refine J_iconst (v := 1) dX5_hasToken_21 (by decide) ?_
        refine J_goto (tgt := 26) dX5_hasToken_22 rfl ?_
        refine J_ireturn dX5_hasToken_26 rfl rfl (by decide) (by decide) ?_
        exact ⟨by unfold xx_b; split <;> first | rfl | (exfalso; simp only [i_lt, i_le, i_eq, i_0, i_1, i_2, i_3, i_4, i_5, i_6, i_8, i_9, i_10, i_12, i_16, i_20, i_m1] at *; omega), rfl, rfl⟩
theorem c_X5_start (hst : l.stackTraces = false) (hT : xx_w b (layT sg b T) A) {tok : Nat} (htok : T.1 5 = nI tok) (h401 : tok ≤ 401) {t : Nat} {x : Int32} (hx : x = nI t) (ht : t < tok) : xx_C G l yX5_start mX5_start 1 21 0 0 [.ref b, .int x] A n (xx_ro (some (.int (T.2 3 t))) A n) := by
  refine J_C hst (by decide +kernel) rfl rfl rfl (Nat.le_of_ble_eq_true rfl) ?_
  show xx_J _ _ _ _ _ _ _ _ 0 [(0, _), (1, _)] [] _ _ _ _
  refine J_aload_n dX5_start_0 rfl rfl ?_
  refine J_iload_n dX5_start_1 rfl rfl ?_
  refine J_callVr (As := [_]) dX5_start_2 ml_X5_53 cal_X5_hasToken im_X5_hasToken se_X5_hasToken (hT.at 0 rfl) rfl rfl rfl (Nat.le_of_ble_eq_true rfl) ⟨by decide, by decide⟩ ⟨by decide, by decide⟩ (c_X5_hasToken hst hT htok h401 hx (by omega)) ?_
  refine J_ifb_eq (tgt := 17) dX5_start_5 rfl (fun h5 => ?_) (fun h5 => ?_)
  · exact absurd ht h5
  · refine J_aload_n dX5_start_8 rfl rfl ?_
    refine J_getf dX5_start_9 fl_X5_25 (hT.at 0 rfl) rfl ?_
    refine J_iload_n dX5_start_12 rfl rfl ?_
    refine J_ialdN t dX5_start_13 (hT.at 3 rfl) hx (by omega) (by decide) ?_
    refine J_goto (tgt := 21) dX5_start_14 rfl ?_
    refine J_ireturn dX5_start_21 rfl rfl (by decide) (by decide) ?_
    exact ⟨rfl, rfl, rfl⟩
theorem c_X5_number (hst : l.stackTraces = false) (hT : xx_w b (layT sg b T) A) {len : Nat} (hlen : T.1 1 = nI len) (h20 : len ≤ 2000) {tok : Nat} (htok : T.1 5 = nI tok) (h401 : tok ≤ 401) {t : Nat} {x0 : Int32} (hx0 : x0 = nI t) (ht : t < tok) (hg : sg t = some 36) {s e : Nat} (hs : T.2 3 t = nI s) (he : T.2 4 t = nI e) (hse : s ≤ e) (hel : e ≤ len) : xx_C G l yX5_number mX5_number 1 21 0 0 [.ref b, .int x0] A n (xx_ro (some (.int (nmF T len (e - s) s 0))) A n) := by
  refine J_C hst (by decide +kernel) rfl rfl rfl (Nat.le_of_ble_eq_true rfl) ?_
  show xx_J _ _ _ _ _ _ _ _ 0 [(0, _), (1, _)] [] _ _ _ _
  refine J_iconst (v := 0) dX5_number_0 (by decide) ?_
  refine J_istore_n (L' := [(2, _), (0, _), (1, _)]) dX5_number_1 rfl (by decide) rfl ?_
  refine J_aload_n dX5_number_2 rfl rfl ?_
  refine J_iload_n dX5_number_3 rfl rfl ?_
  refine J_callVr (As := [_]) dX5_number_4 ml_X5_53 cal_X5_hasToken im_X5_hasToken se_X5_hasToken (hT.at 0 rfl) rfl rfl rfl (Nat.le_of_ble_eq_true rfl) ⟨by decide, by decide⟩ ⟨by decide, by decide⟩ (c_X5_hasToken hst hT htok h401 hx0 (by omega)) ?_
  refine J_ifb_eq (tgt := 59) dX5_number_7 rfl (fun h7 => ?_) (fun h7 => ?_)
  · exact absurd ht h7
  · refine J_aload_n dX5_number_10 rfl rfl ?_
    refine J_getf dX5_number_11 fl_X5_21 (hT.at 0 rfl) rfl ?_
    refine J_iload_n dX5_number_14 rfl rfl ?_
    refine J_aaldN t dX5_number_15 (hT.at 2 rfl) hx0 (by omega) (by decide) ?_
    refine J_gets (v := .ref 36) dX5_number_16 (gs_mem 36 (by decide)) (show (36 : Nat) < 400 by decide) sl_X5_57 ?_
    refine J_acmp_ne (tgt := 59) (rx := sg t) (ry := some 36) dX5_number_19 rfl (fun q h => by rw [hg] at h; cases h; decide) (fun q h => by cases h; decide) (fun h19 => ?_) (fun h19 => ?_)
    · exact absurd hg h19
    · refine J_aload_n dX5_number_22 rfl rfl ?_
      refine J_getf dX5_number_23 fl_X5_25 (hT.at 0 rfl) rfl ?_
      refine J_iload_n dX5_number_26 rfl rfl ?_
      refine J_ialdN t dX5_number_27 (hT.at 3 rfl) hx0 (by omega) (by decide) ?_
      refine J_istore_n (L' := [(3, _), (2, _), (0, _), (1, _)]) dX5_number_28 rfl (by decide) rfl ?_
      have loop : ∀ i, i ≤ e → ∀ (x acc : Int32) , (x = nI i) → (nmF T len (e - i) i acc = nmF T len (e - s) s 0) → xx_J G l mX5_number 1 21 0 0 (xx_ro (some (.int (nmF T len (e - s) s 0))) A n) 29 [(3, .int x), (2, .int acc), (0, .ref b), (1, .int x0)] [] A n 0 0 := by
        refine xx_dn ?_ ?_
        · intro x acc   hx hv
          have ee : (T.2 4 t).toInt = e := by rw [he]; exact i_n (by omega)
          have ex : x.toInt = e := by rw [hx]; exact i_n (by omega)
          refine J_iload_n dX5_number_29 rfl rfl ?_
          refine J_aload_n dX5_number_30 rfl rfl ?_
          refine J_getf dX5_number_31 fl_X5_29 (hT.at 0 rfl) rfl ?_
          refine J_iload_n dX5_number_34 rfl rfl ?_
          refine J_ialdN t dX5_number_35 (hT.at 4 rfl) hx0 (by omega) (by decide) ?_
          refine J_icmp_ge (tgt := 59) dX5_number_36 rfl (fun h36 => ?_) (fun h36 => ?_)
          · refine J_iload_n dX5_number_59 rfl rfl ?_
            refine J_ireturn dX5_number_60 rfl rfl (by decide) (by decide) ?_
            exact ⟨by rw [← hv, Nat.sub_self]; rfl, rfl, rfl⟩
          · first | (exfalso; simp only [i_lt, i_le, i_eq, i_0, i_1, i_2, i_3, i_4, i_5, i_6, i_8, i_9, i_10, i_12, i_16, i_20, i_m1, i_400, i_2000] at h36; omega) | (exfalso; simp only [s_up, a_up, va_up, i_lt, i_le, i_eq, i_0, i_1, i_2, i_3, i_4, i_5, i_6, i_8, i_9, i_10, i_12, i_16, i_20, i_m1, i_400, i_2000, ↓reduceIte, Nat.reduceEqDiff] at h36; omega)
        · intro i hii ih x acc   hx hv
          have ee : (T.2 4 t).toInt = e := by rw [he]; exact i_n (by omega)
          have ex : x.toInt = i := by rw [hx]; exact i_n (by omega)
          refine J_iload_n dX5_number_29 rfl rfl ?_
          refine J_aload_n dX5_number_30 rfl rfl ?_
          refine J_getf dX5_number_31 fl_X5_29 (hT.at 0 rfl) rfl ?_
          refine J_iload_n dX5_number_34 rfl rfl ?_
          refine J_ialdN t dX5_number_35 (hT.at 4 rfl) hx0 (by omega) (by decide) ?_
          refine J_icmp_ge (tgt := 59) dX5_number_36 rfl (fun h36 => ?_) (fun h36 => ?_)
          · first | (exfalso; simp only [i_lt, i_le, i_eq, i_0, i_1, i_2, i_3, i_4, i_5, i_6, i_8, i_9, i_10, i_12, i_16, i_20, i_m1, i_400, i_2000] at h36; omega) | (exfalso; simp only [s_up, a_up, va_up, i_lt, i_le, i_eq, i_0, i_1, i_2, i_3, i_4, i_5, i_6, i_8, i_9, i_10, i_12, i_16, i_20, i_m1, i_400, i_2000, ↓reduceIte, Nat.reduceEqDiff] at h36; omega)
          · refine J_iload_n dX5_number_39 rfl rfl ?_
            refine J_bipush (v := 10) dX5_number_40 (by decide) ?_
            refine J_imul dX5_number_42 ?_
            refine J_aload_n dX5_number_43 rfl rfl ?_
            refine J_iload_n dX5_number_44 rfl rfl ?_
            refine J_callVr (As := [_]) dX5_number_45 ml_X5_60 cal_X5_byteAt im_X5_byteAt se_X5_byteAt (hT.at 0 rfl) rfl rfl rfl (Nat.le_of_ble_eq_true rfl) ⟨by decide, by decide⟩ ⟨by decide, by decide⟩ (c_X5_byteAt hst hT hlen h20 hx (by omega)) ?_
            refine J_bipush (v := 48) dX5_number_48 (by decide) ?_
            refine J_isub dX5_number_50 ?_
            refine J_iadd dX5_number_51 ?_
            refine J_istore_n (L' := [(2, _), (3, _), (0, _), (1, _)]) dX5_number_52 rfl (by decide) rfl ?_
            refine J_iinc (v := _ + 1) (L' := [(3, _), (2, _), (0, _), (1, _)]) dX5_number_53 rfl rfl (by decide) rfl ?_
            refine J_goto (tgt := 29) dX5_number_56 rfl ?_
            refine xx_J.pick [0, 1, 2, 3] rfl ?_
            exact ih _ _  (by rw [hx]; exact nI_1 i) (by rw [← hv, nmF_s hii])
      refine xx_J.pick [0, 1, 2, 3] rfl ?_
      exact loop s (by omega) _ _  hs rfl
theorem smF_s {T : xS} {len d i s q : Nat} (h : i < d) : smF T len (d - i) (s + i) (q + i) = (decide (bat T len (s + i) = bat T len (q + i)) && smF T len (d - (i + 1)) (s + (i + 1)) (q + (i + 1))) := by
  rw [show d - i = (d - (i + 1)) + 1 by omega]
  rfl
set_option maxHeartbeats 4000000 in
theorem c_X5_sameText (hst : l.stackTraces = false) (hT : xx_w b (layT sg b T) A) {len : Nat} (hlen : T.1 1 = nI len) (h20 : len ≤ 2000) {tok : Nat} (htok : T.1 5 = nI tok) (h401 : tok ≤ 401) {t1 t2 : Nat} {x1 x2 : Int32} (hx1 : x1 = nI t1) (ht1 : t1 < tok) (hx2 : x2 = nI t2) (ht2 : t2 < tok) {s1 e1 s2 e2 : Nat} (g1 : T.2 4 t1 = nI e1 ∧ T.2 3 t1 = nI s1 ∧ s1 ≤ e1 ∧ e1 ≤ len) (g2 : T.2 4 t2 = nI e2 ∧ T.2 3 t2 = nI s2 ∧ s2 ≤ e2 ∧ e2 ≤ len) : xx_C G l yX5_sameText mX5_sameText 1 21 0 0 [.ref b, .int x1, .int x2] A n (xx_ro (some (.int (xx_b (e1 - s1 = e2 - s2 ∧ smF T len (e1 - s1) s1 s2 = true)))) A n) := by
  refine J_C hst (by decide +kernel) rfl rfl rfl (Nat.le_of_ble_eq_true rfl) ?_
  show xx_J _ _ _ _ _ _ _ _ 0 [(0, _), (1, _), (2, _)] [] _ _ _ _
  refine J_aload_n dX5_sameText_0 rfl rfl ?_
  refine J_iload_n dX5_sameText_1 rfl rfl ?_
  refine J_callVr (As := [_]) dX5_sameText_2 ml_X5_53 cal_X5_hasToken im_X5_hasToken se_X5_hasToken (hT.at 0 rfl) rfl rfl rfl (Nat.le_of_ble_eq_true rfl) ⟨by decide, by decide⟩ ⟨by decide, by decide⟩ (c_X5_hasToken hst hT htok h401 hx1 (by omega)) ?_
  refine J_ifb_eq (tgt := 16) dX5_sameText_5 rfl (fun h5 => ?_) (fun h5 => ?_)
  · exact absurd ht1 h5
  · refine J_aload_n dX5_sameText_8 rfl rfl ?_
    refine J_iload_n dX5_sameText_9 rfl rfl ?_
    refine J_callVr (As := [_]) dX5_sameText_10 ml_X5_53 cal_X5_hasToken im_X5_hasToken se_X5_hasToken (hT.at 0 rfl) rfl rfl rfl (Nat.le_of_ble_eq_true rfl) ⟨by decide, by decide⟩ ⟨by decide, by decide⟩ (c_X5_hasToken hst hT htok h401 hx2 (by omega)) ?_
    refine J_ifb_ne (tgt := 18) dX5_sameText_13 rfl (fun h13 => ?_) (fun h13 => ?_)
    · have hd1 : T.2 4 t1 - T.2 3 t1 = nI (e1 - s1) := by rw [g1.1, g1.2.1, pk_sub (by omega)]
      have hd2 : T.2 4 t2 - T.2 3 t2 = nI (e2 - s2) := by rw [g2.1, g2.2.1, pk_sub (by omega)]
      refine J_aload_n dX5_sameText_18 rfl rfl ?_
      refine J_getf dX5_sameText_19 fl_X5_29 (hT.at 0 rfl) rfl ?_
      refine J_iload_n dX5_sameText_22 rfl rfl ?_
      refine J_ialdN t1 dX5_sameText_23 (hT.at 4 rfl) hx1 (by omega) (by decide) ?_
      refine J_aload_n dX5_sameText_24 rfl rfl ?_
      refine J_getf dX5_sameText_25 fl_X5_25 (hT.at 0 rfl) rfl ?_
      refine J_iload_n dX5_sameText_28 rfl rfl ?_
      refine J_ialdN t1 dX5_sameText_29 (hT.at 3 rfl) hx1 (by omega) (by decide) ?_
      refine J_isub dX5_sameText_30 ?_
      rw [hd1]
      refine J_istore_n (L' := [(3, _), (0, _), (1, _), (2, _)]) dX5_sameText_31 rfl (by decide) rfl ?_
      refine J_iload_n dX5_sameText_32 rfl rfl ?_
      refine J_aload_n dX5_sameText_33 rfl rfl ?_
      refine J_getf dX5_sameText_34 fl_X5_29 (hT.at 0 rfl) rfl ?_
      refine J_iload_n dX5_sameText_37 rfl rfl ?_
      refine J_ialdN t2 dX5_sameText_38 (hT.at 4 rfl) hx2 (by omega) (by decide) ?_
      refine J_aload_n dX5_sameText_39 rfl rfl ?_
      refine J_getf dX5_sameText_40 fl_X5_25 (hT.at 0 rfl) rfl ?_
      refine J_iload_n dX5_sameText_43 rfl rfl ?_
      refine J_ialdN t2 dX5_sameText_44 (hT.at 3 rfl) hx2 (by omega) (by decide) ?_
      refine J_isub dX5_sameText_45 ?_
      rw [hd2]
      refine J_icmp_ne (tgt := 53) dX5_sameText_46 rfl (fun h46 => ?_) (fun h46 => ?_)
      · have hq0 : ¬ e1 - s1 = e2 - s2 := fun z => h46 (by rw [z])
        refine J_iconst (v := 0) dX5_sameText_53 (by decide) ?_
        refine J_istore (L' := [(4, _), (3, _), (0, _), (1, _), (2, _)]) dX5_sameText_54 (by decide) rfl ?_
        refine J_iconst (v := 0) dX5_sameText_56 (by decide) ?_
        refine J_istore (L' := [(5, _), (4, _), (3, _), (0, _), (1, _), (2, _)]) dX5_sameText_57 (by decide) rfl ?_
        refine J_iload dX5_sameText_59 rfl ?_
        refine J_if_eq (tgt := 112) dX5_sameText_61 rfl (fun h61 => ?_) (fun h61 => ?_)
        · refine J_iload dX5_sameText_112 rfl ?_
          refine J_ireturn dX5_sameText_114 rfl rfl (by decide) (by decide) ?_
          exact ⟨by first | rw [xx_bf (fun z => hq0 z.1)] | (rw [xx_bf (fun z => by have z2 := z.2; rw [← hv, smF_s hii, decide_eq_false h96] at z2; cases z2)]), rfl, rfl⟩
        · first | exact absurd h61 (by decide) | exact absurd (by decide) h61
      · have hq1 : e1 - s1 = e2 - s2 := by rw [i_eq, i_n (by omega), i_n (by omega)] at h46; omega
        refine J_iconst (v := 1) dX5_sameText_49 (by decide) ?_
        refine J_goto (tgt := 54) dX5_sameText_50 rfl ?_
        refine J_istore (L' := [(4, _), (3, _), (0, _), (1, _), (2, _)]) dX5_sameText_54 (by decide) rfl ?_
        refine J_iconst (v := 0) dX5_sameText_56 (by decide) ?_
        refine J_istore (L' := [(5, _), (4, _), (3, _), (0, _), (1, _), (2, _)]) dX5_sameText_57 (by decide) rfl ?_
        have loop : ∀ i, i ≤ (e1 - s1) → ∀ (x : Int32) , (x = nI i) → (smF T len ((e1 - s1) - i) (s1 + i) (s2 + i) = smF T len (e1 - s1) s1 s2) → xx_J G l mX5_sameText 1 21 0 0 (xx_ro (some (.int (xx_b (e1 - s1 = e2 - s2 ∧ smF T len (e1 - s1) s1 s2 = true)))) A n) 59 [(5, .int x), (4, .int 1), (3, .int (nI (e1 - s1))), (0, .ref b), (1, .int x1), (2, .int x2)] [] A n 0 0 := by
          refine xx_dn ?_ ?_
          · intro x   hx hv
            have ex : x.toInt = ((e1 - s1 : Nat) : Int) := by rw [hx]; exact i_n (by omega)
            have ed : (nI (e1 - s1)).toInt = ((e1 - s1 : Nat) : Int) := i_n (by omega)
            refine J_iload dX5_sameText_59 rfl ?_
            refine J_if_eq (tgt := 112) dX5_sameText_61 rfl (fun h61 => ?_) (fun h61 => ?_)
            · first | exact absurd h61 (by decide) | exact absurd (by decide) h61
            · refine J_iload dX5_sameText_64 rfl ?_
              refine J_iload_n dX5_sameText_66 rfl rfl ?_
              refine J_icmp_ge (tgt := 112) dX5_sameText_67 rfl (fun h67 => ?_) (fun h67 => ?_)
              · refine J_iload dX5_sameText_112 rfl ?_
                refine J_ireturn dX5_sameText_114 rfl rfl (by decide) (by decide) ?_
                exact ⟨by rw [xx_bt ⟨hq1, by rw [← hv, Nat.sub_self]; rfl⟩], rfl, rfl⟩
              · first | (exfalso; simp only [i_lt, i_le, i_eq, i_0, i_1, i_2, i_3, i_4, i_5, i_6, i_8, i_9, i_10, i_12, i_16, i_20, i_m1, i_400, i_2000] at h67; omega) | (exfalso; simp only [s_up, a_up, va_up, i_lt, i_le, i_eq, i_0, i_1, i_2, i_3, i_4, i_5, i_6, i_8, i_9, i_10, i_12, i_16, i_20, i_m1, i_400, i_2000, ↓reduceIte, Nat.reduceEqDiff] at h67; omega)
          · intro i hii ih x   hx hv
            have ex : x.toInt = i := by rw [hx]; exact i_n (by omega)
            have ed : (nI (e1 - s1)).toInt = ((e1 - s1 : Nat) : Int) := i_n (by omega)
            refine J_iload dX5_sameText_59 rfl ?_
            refine J_if_eq (tgt := 112) dX5_sameText_61 rfl (fun h61 => ?_) (fun h61 => ?_)
            · first | exact absurd h61 (by decide) | exact absurd (by decide) h61
            · refine J_iload dX5_sameText_64 rfl ?_
              refine J_iload_n dX5_sameText_66 rfl rfl ?_
              refine J_icmp_ge (tgt := 112) dX5_sameText_67 rfl (fun h67 => ?_) (fun h67 => ?_)
              · first | (exfalso; simp only [i_lt, i_le, i_eq, i_0, i_1, i_2, i_3, i_4, i_5, i_6, i_8, i_9, i_10, i_12, i_16, i_20, i_m1, i_400, i_2000] at h67; omega) | (exfalso; simp only [s_up, a_up, va_up, i_lt, i_le, i_eq, i_0, i_1, i_2, i_3, i_4, i_5, i_6, i_8, i_9, i_10, i_12, i_16, i_20, i_m1, i_400, i_2000, ↓reduceIte, Nat.reduceEqDiff] at h67; omega)
              · refine J_aload_n dX5_sameText_70 rfl rfl ?_
                refine J_aload_n dX5_sameText_71 rfl rfl ?_
                refine J_getf dX5_sameText_72 fl_X5_25 (hT.at 0 rfl) rfl ?_
                refine J_iload_n dX5_sameText_75 rfl rfl ?_
                refine J_ialdN t1 dX5_sameText_76 (hT.at 3 rfl) hx1 (by omega) (by decide) ?_
                refine J_iload dX5_sameText_77 rfl ?_
                refine J_iadd dX5_sameText_79 ?_
                refine J_callVr (As := [_]) dX5_sameText_80 ml_X5_60 cal_X5_byteAt im_X5_byteAt se_X5_byteAt (hT.at 0 rfl) rfl rfl rfl (Nat.le_of_ble_eq_true rfl) ⟨by decide, by decide⟩ ⟨by decide, by decide⟩ (c_X5_byteAt hst hT hlen h20 (by rw [g1.2.1, hx, nI_add]) (by omega)) ?_
                refine J_aload_n dX5_sameText_83 rfl rfl ?_
                refine J_aload_n dX5_sameText_84 rfl rfl ?_
                refine J_getf dX5_sameText_85 fl_X5_25 (hT.at 0 rfl) rfl ?_
                refine J_iload_n dX5_sameText_88 rfl rfl ?_
                refine J_ialdN t2 dX5_sameText_89 (hT.at 3 rfl) hx2 (by omega) (by decide) ?_
                refine J_iload dX5_sameText_90 rfl ?_
                refine J_iadd dX5_sameText_92 ?_
                refine J_callVr (As := [_]) dX5_sameText_93 ml_X5_60 cal_X5_byteAt im_X5_byteAt se_X5_byteAt (hT.at 0 rfl) rfl rfl rfl (Nat.le_of_ble_eq_true rfl) ⟨by decide, by decide⟩ ⟨by decide, by decide⟩ (c_X5_byteAt hst hT hlen h20 (by rw [g2.2.1, hx, nI_add]) (by omega)) ?_
                refine J_icmp_ne (tgt := 103) dX5_sameText_96 rfl (fun h96 => ?_) (fun h96 => ?_)
                · refine J_iconst (v := 0) dX5_sameText_103 (by decide) ?_
                  refine J_istore (L' := [(4, _), (5, _), (3, _), (0, _), (1, _), (2, _)]) dX5_sameText_104 (by decide) rfl ?_
                  refine J_iinc (v := _ + 1) (L' := [(5, _), (4, _), (3, _), (0, _), (1, _), (2, _)]) dX5_sameText_106 rfl rfl (by decide) rfl ?_
                  refine J_goto (tgt := 59) dX5_sameText_109 rfl ?_
                  refine J_iload dX5_sameText_59 rfl ?_
                  refine J_if_eq (tgt := 112) dX5_sameText_61 rfl (fun h61 => ?_) (fun h61 => ?_)
                  · refine J_iload dX5_sameText_112 rfl ?_
                    refine J_ireturn dX5_sameText_114 rfl rfl (by decide) (by decide) ?_
                    exact ⟨by first | rw [xx_bf (fun z => hq0 z.1)] | (rw [xx_bf (fun z => by have z2 := z.2; rw [← hv, smF_s hii, decide_eq_false h96] at z2; cases z2)]), rfl, rfl⟩
                  · first | exact absurd h61 (by decide) | exact absurd (by decide) h61
                · refine J_iconst (v := 1) dX5_sameText_99 (by decide) ?_
                  refine J_goto (tgt := 104) dX5_sameText_100 rfl ?_
                  refine J_istore (L' := [(4, _), (5, _), (3, _), (0, _), (1, _), (2, _)]) dX5_sameText_104 (by decide) rfl ?_
                  refine J_iinc (v := _ + 1) (L' := [(5, _), (4, _), (3, _), (0, _), (1, _), (2, _)]) dX5_sameText_106 rfl rfl (by decide) rfl ?_
                  refine J_goto (tgt := 59) dX5_sameText_109 rfl ?_
                  refine xx_J.pick [0, 1, 2, 3, 4, 5] rfl ?_
                  exact ih _  (by rw [hx]; exact nI_1 i) (by rw [← hv, smF_s hii, decide_eq_true h96, Bool.true_and])
        refine xx_J.pick [0, 1, 2, 3, 4, 5] rfl ?_
        exact loop 0 (by omega) _  rfl rfl
    · exact absurd ht2 h13
end XTP
