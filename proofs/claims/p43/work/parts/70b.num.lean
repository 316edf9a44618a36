/-! DECIMAL DIGITS: Integer.stringSize, getChars -/
section XNU
variable {G : xx_G} {l : Launch} {A A' : xx_H} {n : Nat} {k j i q s e t d : Nat}
/-- the decimal digits of w -/
def decB (w : Nat) : List Int32 := if w < 10 then [nI (48 + w)] else decB (w / 10) ++ [nI (48 + w % 10)]
termination_by w
decreasing_by omega
theorem decB_lo {w : Nat} (h : w < 10) : decB w = [nI (48 + w)] := by rw [decB, if_pos h]
theorem decB_hi {w : Nat} (h : ¬ w < 10) : decB w = decB (w / 10) ++ [nI (48 + w % 10)] := by rw [decB, if_neg h]
theorem decB_100 {w : Nat} (h : 100 ≤ w) : decB w = decB (w / 100) ++ [nI (48 + w % 100 / 10), nI (48 + w % 10)] := by
  rw [decB_hi (by omega), decB_hi (w := w / 10) (by omega), List.append_assoc, show w / 10 / 10 = w / 100 by omega, show w / 10 % 10 = w % 100 / 10 by omega]
  rfl
theorem decB_len {w : Nat} : ∀ i, 1 ≤ i → (i = 1 ∨ 10 ^ (i - 1) ≤ w) → w < 10 ^ i → (decB w).length = i := by
  intro i
  induction i generalizing w with
  | zero => intro h; omega
  | succ i ih =>
    intro _ h1 h2
    by_cases h : w < 10
    · rw [decB_lo h]
      rcases h1 with h1 | h1
      · show 1 = i + 1; omega
      · by_cases hi : i = 0
        · subst hi; rfl
        · exfalso
          obtain ⟨i', rfl⟩ : ∃ i', i = i' + 1 := ⟨i - 1, by omega⟩
          rw [show i' + 1 + 1 - 1 = i' + 1 by omega, Nat.pow_succ] at h1
          have h9 : 0 < 10 ^ i' := Nat.pow_pos (by decide)
          omega
    · rw [decB_hi h, List.length_append]
      by_cases hi : i = 0
      · exfalso
        subst hi
        rw [show 0 + 1 = 1 by rfl, Nat.pow_one] at h2
        omega
      · obtain ⟨i', rfl⟩ : ∃ i', i = i' + 1 := ⟨i - 1, by omega⟩
        have e1 : 10 ^ (i' + 1 + 1) = 10 ^ (i' + 1) * 10 := Nat.pow_succ ..
        have e3 : 10 ^ (i' + 1) = 10 ^ i' * 10 := Nat.pow_succ ..
        rw [ih (w := w / 10) (by omega) (by
          rcases h1 with h1 | h1
          · omega
          · by_cases hi2 : i' = 0
            · left; omega
            · right
              rw [show i' + 1 + 1 - 1 = i' + 1 by omega] at h1
              rw [show i' + 1 - 1 = i' by omega]; omega) (by omega)]
        rfl
theorem decB_pos (w : Nat) : 1 ≤ (decB w).length := by
  by_cases h : w < 10
  · rw [decB_lo h]; exact Nat.le_refl _
  · rw [decB_hi h, List.length_append]; exact Nat.le_add_left _ _
theorem decB_le {w : Nat} (h : w < 1000000) : (decB w).length ≤ 6 := by
  have g : ∀ i, 1 ≤ i → i ≤ 6 → w < 10 ^ i → (decB w).length ≤ i := by
    intro i
    induction i with
    | zero => intro h; omega
    | succ i ih =>
      intro h1 h2 h3
      by_cases hi : i = 0
      · subst hi
        exact Nat.le_of_eq (decB_len 1 (by omega) (Or.inl rfl) h3)
      · by_cases h4 : w < 10 ^ i
        · exact Nat.le_succ_of_le (ih (by omega) (by omega) h4)
        · exact Nat.le_of_eq (decB_len (i + 1) (by omega) (Or.inr (by rw [show i + 1 - 1 = i by omega]; omega)) h3)
  exact g 6 (by omega) (by omega) h
theorem neg10 {P : Nat} : (10 : Int32) * -nI P = -nI (P * 10) := by
  rw [Int32.mul_neg, show (10 : Int32) = nI 10 from rfl, pk_mul, Nat.mul_comm]
theorem c_J6_stringSize_0f7a4 (hst : l.stackTraces = false) {w : Nat} (hw : w < 1000000) : xx_C G l yJ6_stringSize_0f7a4 mJ6_stringSize_0f7a4 0 0 0 0 [.int (nI w)] A n (xx_ro (some (.int (nI (decB w).length))) A n) := by
  refine J_C hst (by decide +kernel) rfl rfl rfl (Nat.le_of_ble_eq_true rfl) ?_
  show xx_J _ _ _ _ _ _ _ _ 0 [(0, _)] [] _ _ _ _
  refine J_iconst (v := 1) dJ6_stringSize_0f7a4_0 (by decide) ?_
  refine J_istore_n (L' := [(1, _), (0, _)]) dJ6_stringSize_0f7a4_1 rfl (by decide) rfl ?_
  refine J_iload_n dJ6_stringSize_0f7a4_2 rfl rfl ?_
  refine J_if_lt (tgt := 11) dJ6_stringSize_0f7a4_3 rfl (fun h => absurd h (nI_pos (by omega))) (fun _ => ?_)
  refine J_iconst (v := 0) dJ6_stringSize_0f7a4_6 (by decide) ?_
  refine J_istore_n (L' := [(1, _), (0, _)]) dJ6_stringSize_0f7a4_7 rfl (by decide) rfl ?_
  refine J_iload_n dJ6_stringSize_0f7a4_8 rfl rfl ?_
  refine J_ineg dJ6_stringSize_0f7a4_9 ?_
  refine J_istore_n (L' := [(0, _), (1, _)]) dJ6_stringSize_0f7a4_10 rfl (by decide) rfl ?_
  refine J_bipush (v := -10) dJ6_stringSize_0f7a4_11 (by decide) ?_
  refine J_istore_n (L' := [(2, _), (0, _), (1, _)]) dJ6_stringSize_0f7a4_13 rfl (by decide) rfl ?_
  refine J_iconst (v := 1) dJ6_stringSize_0f7a4_14 (by decide) ?_
  refine J_istore_n (L' := [(3, _), (2, _), (0, _), (1, _)]) dJ6_stringSize_0f7a4_15 rfl (by decide) rfl ?_
  have loop : ∀ d i, i + d = 6 → 1 ≤ i → (i = 1 ∨ 10 ^ (i - 1) ≤ w) → xx_J G l mJ6_stringSize_0f7a4 0 0 0 0 (xx_ro (some (.int (nI (decB w).length))) A n) 16 [(3, .int (nI i)), (2, .int (-nI (10 ^ i))), (0, .int (-nI w)), (1, .int 0)] [] A n 0 0 := by
    have hp6 : ∀ i, i ≤ 6 → 10 ^ i ≤ 1000000 := by decide
    have fin : ∀ i, i ≤ 6 → w < 10 ^ i → 1 ≤ i → (i = 1 ∨ 10 ^ (i - 1) ≤ w) → xx_J G l mJ6_stringSize_0f7a4 0 0 0 0 (xx_ro (some (.int (nI (decB w).length))) A n) 27 [(3, .int (nI i)), (2, .int (-nI (10 ^ i))), (0, .int (-nI w)), (1, .int 0)] [] A n 0 0 := by
      intro i h6 h1 h2 h3
      refine J_iload_n dJ6_stringSize_0f7a4_27 rfl rfl ?_
      refine J_iload_n dJ6_stringSize_0f7a4_28 rfl rfl ?_
      refine J_iadd dJ6_stringSize_0f7a4_29 ?_
      refine J_ireturn dJ6_stringSize_0f7a4_30 rfl rfl (by decide) (by decide) ?_
      exact ⟨by rw [decB_len i h2 h3 h1, show (0 : Int32) = nI 0 from rfl, nI_add, Nat.add_zero], rfl, rfl⟩
    have head : ∀ i, i ≤ 6 → 1 ≤ i → (10 ^ i ≤ w → xx_J G l mJ6_stringSize_0f7a4 0 0 0 0 (xx_ro (some (.int (nI (decB w).length))) A n) 31 [(3, .int (nI i)), (2, .int (-nI (10 ^ i))), (0, .int (-nI w)), (1, .int 0)] [] A n 0 0) → (i = 1 ∨ 10 ^ (i - 1) ≤ w) → xx_J G l mJ6_stringSize_0f7a4 0 0 0 0 (xx_ro (some (.int (nI (decB w).length))) A n) 16 [(3, .int (nI i)), (2, .int (-nI (10 ^ i))), (0, .int (-nI w)), (1, .int 0)] [] A n 0 0 := by
      intro i h6 h1 kk h2
      have hp := hp6 i h6
      refine J_iload_n dJ6_stringSize_0f7a4_16 rfl rfl ?_
      refine J_bipush (v := 10) dJ6_stringSize_0f7a4_17 (by decide) ?_
      refine J_icmp_ge (tgt := 42) dJ6_stringSize_0f7a4_19 rfl (fun h => by exfalso; simp only [i_le, i_10] at h; rw [i_n (by omega)] at h; omega) (fun _ => ?_)
      refine J_iload_n dJ6_stringSize_0f7a4_22 rfl rfl ?_
      refine J_iload_n dJ6_stringSize_0f7a4_23 rfl rfl ?_
      refine J_icmp_le (tgt := 31) dJ6_stringSize_0f7a4_24 rfl (fun h => kk ?_) (fun h => fin i h6 ?_ h1 h2)
      · exact (sb_nle (by omega) (by omega)).mp h
      · exact Nat.not_le.mp fun z => h ((sb_nle (by omega) (by omega)).mpr z)
    intro d
    induction d with
    | zero =>
      intro i h1 h2 h3
      exact head i (by omega) h2 (fun h => by exfalso; have e6 : i = 6 := by omega
                                              subst e6; rw [show 10 ^ 6 = 1000000 by decide] at h; omega) h3
    | succ d ih =>
      intro i h1 h2 h3
      refine head i (by omega) h2 (fun h => ?_) h3
      refine J_bipush (v := 10) dJ6_stringSize_0f7a4_31 (by decide) ?_
      refine J_iload_n dJ6_stringSize_0f7a4_33 rfl rfl ?_
      refine J_imul dJ6_stringSize_0f7a4_34 ?_
      refine J_istore_n (L' := [(2, _), (3, _), (0, _), (1, _)]) dJ6_stringSize_0f7a4_35 rfl (by decide) rfl ?_
      refine J_iinc (v := _ + 1) (L' := [(3, _), (2, _), (0, _), (1, _)]) dJ6_stringSize_0f7a4_36 rfl rfl (by decide) rfl ?_
      refine J_goto (tgt := 16) dJ6_stringSize_0f7a4_39 rfl ?_
      rw [neg10, nI_1, ← Nat.pow_succ]
      exact ih (i + 1) (by omega) (by omega) (Or.inr (by rw [show i + 1 - 1 = i by omega]; exact h))
  exact loop 5 1 (by omega) (by omega) (Or.inl rfl)
theorem dgOn : ("java/lang/Integer", "DigitOnes", "[B", Value.ref 161) ∈ xx_st := List.mem_append_right _ (List.mem_cons_of_mem _ (List.mem_cons_self ..))
theorem dgTe : ("java/lang/Integer", "DigitTens", "[B", Value.ref 162) ∈ xx_st := List.mem_append_right _ (List.mem_cons_of_mem _ (List.mem_cons_of_mem _ (List.mem_cons_self ..)))
theorem saO : (161, FieldType.byte, 100, xx_dg false) ∈ xx_sa := List.mem_cons_of_mem _ (List.mem_cons_self ..)
theorem saT : (162, FieldType.byte, 100, xx_dg true) ∈ xx_sa := List.mem_cons_of_mem _ (List.mem_cons_of_mem _ (List.mem_cons_self ..))
theorem nar_d : ∀ x, x < 10 → vp_nar .byte (nI (48 + x)) = nI (48 + x) := by decide +kernel
theorem fit_d : ∀ x, x < 10 → fits .byte (.int (nI (48 + x))) = true := by decide +kernel
theorem getD2 {t : List Int32} {x y : Int32} {i : Nat} : (t ++ [x, y]).getD i 0 = if i < t.length then t.getD i 0 else if i = t.length then x else if i = t.length + 1 then y else 0 := by
  simp only [List.getD_eq_getElem?_getD]
  by_cases h : i < t.length
  · rw [if_pos h, List.getElem?_append_left h]
  · rw [if_neg h, List.getElem?_append_right (by omega)]
    by_cases h1 : i = t.length
    · subst h1; simp
    · rw [if_neg h1]
      by_cases h2 : i = t.length + 1
      · subst h2; simp
      · rw [if_neg h2, List.getElem?_eq_none (by simp; omega)]; rfl
theorem c_getLoop {Post : xx_Q} {b m : Nat} (hm : m < 65536) {v0 : Value} : ∀ N w, w < N → w < 1000000 → ∀ (p q : Nat) (A : xx_H) (f : Nat → Int32) (x3 x4 : List (Nat × Value)), A b = some (rB m f) → bfit f → p = q + (decB w).length → p ≤ m →
    (∀ A' f', A' b = some (rB m f') → (∀ z, z ≠ b → A' z = A z) → (∀ i, i < q ∨ p ≤ i → f' i = f i) → hol f' q (decB w) → bfit f' → Post (.inl (some (.int (nI q)))) A' n) →
    xx_J G l mJ6_getChars_ba4f3 0 0 0 0 Post 22 [(5, .int (nI p)), (6, .int 0), (0, .int (-nI w)), (2, .ref b)] [] A n 0 0 := by
  intro N
  induction N with
  | zero => intro w h; omega
  | succ N ih =>
    intro w hN hw p q A f x3 x4 hA hf hp hpm kk
    have hp1 := decB_pos w
    refine J_iload_n dJ6_getChars_ba4f3_22 rfl rfl ?_
    refine J_bipush (v := -100) dJ6_getChars_ba4f3_23 (by decide) ?_
    refine J_icmp_gt (tgt := 72) dJ6_getChars_ba4f3_25 rfl (fun h => ?_) (fun h => ?_)
    · have h100 : w < 100 := (sb_nlt (a := 100) (b := w) (by decide) (by omega)).mp h
      refine J_aload_n dJ6_getChars_ba4f3_72 rfl rfl ?_
      refine J_iinc (v := _ + (-1)) (L' := [(5, _), (6, _), (0, _), (2, _)]) dJ6_getChars_ba4f3_73 rfl rfl (by decide) rfl ?_
      rw [sb_m1 (by omega)]
      refine J_iload dJ6_getChars_ba4f3_76 rfl ?_
      refine J_gets (v := .ref 161) dJ6_getChars_ba4f3_78 dgOn (show (161 : Nat) < 400 by decide) sl_J6_83 ?_
      refine J_iload_n dJ6_getChars_ba4f3_81 rfl rfl ?_
      refine J_ineg dJ6_getChars_ba4f3_82 ?_
      rw [Int32.neg_neg]
      refine J_baldS (v := nI (48 + w % 10)) dJ6_getChars_ba4f3_83 saO (by decide) (vp_in_nI h100 (by decide)) (by rw [nI_clamp (by omega)]; rfl) ?_
      refine J_bast dJ6_getChars_ba4f3_84 hA (vp_in_nI (by omega) (by omega)) ?_
      rw [nI_clamp (by omega), nar_d _ (Nat.mod_lt _ (by decide))]
      refine J_up (fun A1 g1 o1 => ?_)
      have hf1 : bfit (upd f (p - 1) (nI (48 + w % 10))) := sb_fitU hf (fit_d _ (Nat.mod_lt _ (by decide)))
      have fin : ∀ (A2 : xx_H) (f2 : Nat → Int32), A2 b = some (rB m f2) → (∀ z, z ≠ b → A2 z = A z) → (∀ i, i < q ∨ p ≤ i → f2 i = f i) → hol f2 q (decB w) → bfit f2 → ∀ (vq : Int32), vq = nI q → xx_J G l mJ6_getChars_ba4f3 0 0 0 0 Post 104 [(5, .int vq), (6, .int 0), (0, .int (-nI w)), (2, .ref b)] [] A2 n 0 0 := by
        intro A2 f2 c1 c2 c3 c4 c5 vq hvq
        refine J_iload dJ6_getChars_ba4f3_104 rfl ?_
        refine J_if_eq (tgt := 118) dJ6_getChars_ba4f3_106 rfl (fun _ => ?_) (fun h => absurd rfl h)
        refine J_iload dJ6_getChars_ba4f3_118 rfl ?_
        refine J_ireturn dJ6_getChars_ba4f3_120 rfl rfl (by decide) (by decide) ?_
        rw [hvq]
        exact kk A2 f2 c1 c2 c3 c4 c5
      refine J_iload_n dJ6_getChars_ba4f3_85 rfl rfl ?_
      refine J_bipush (v := -9) dJ6_getChars_ba4f3_86 (by decide) ?_
      refine J_icmp_ge (tgt := 104) dJ6_getChars_ba4f3_88 rfl (fun h9 => ?_) (fun h9 => ?_)
      · have h10 : w < 10 := by have := (sb_nle (a := 9) (b := w) (by decide) (by omega)).mp h9; omega
        have hl : (decB w).length = 1 := by rw [decB_lo h10]; rfl
        refine fin A1 _ g1 o1 (fun i hi => pk_un (by omega)) (fun i hi => ?_) hf1 _ (congrArg nI (by omega))
        have e0 : i = 0 := by omega
        subst e0
        rw [decB_lo h10, show q + 0 = p - 1 by omega, pk_us, Nat.mod_eq_of_lt h10]
        rfl
      · have h10 : ¬ w < 10 := fun z => h9 ((sb_nle (a := 9) (b := w) (by decide) (by omega)).mpr (by omega))
        have hd : decB w = [nI (48 + w / 10), nI (48 + w % 10)] := by rw [decB_hi h10, decB_lo (by omega)]; rfl
        have hl : (decB w).length = 2 := by rw [hd]; rfl
        refine J_aload_n dJ6_getChars_ba4f3_91 rfl rfl ?_
        refine J_iinc (v := _ + (-1)) (L' := [(5, _), (6, _), (0, _), (2, _)]) dJ6_getChars_ba4f3_92 rfl rfl (by decide) rfl ?_
        rw [sb_m1 (by omega)]
        refine J_iload dJ6_getChars_ba4f3_95 rfl ?_
        refine J_gets (v := .ref 162) dJ6_getChars_ba4f3_97 dgTe (show (162 : Nat) < 400 by decide) sl_J6_87 ?_
        refine J_iload_n dJ6_getChars_ba4f3_100 rfl rfl ?_
        refine J_ineg dJ6_getChars_ba4f3_101 ?_
        rw [Int32.neg_neg]
        refine J_baldS (v := nI (48 + w / 10)) dJ6_getChars_ba4f3_102 saT (by decide) (vp_in_nI h100 (by decide)) (by rw [nI_clamp (by omega)]; rfl) ?_
        refine J_bast dJ6_getChars_ba4f3_103 g1 (vp_in_nI (by omega) (by omega)) ?_
        rw [nI_clamp (by omega), nar_d _ (by omega)]
        refine J_up (fun A2 g2 o2 => ?_)
        refine fin A2 _ g2 (fun z hz => (o2 z hz).trans (o1 z hz)) (fun i hi => by rw [pk_un (by omega), pk_un (by omega)]) (fun i hi => ?_) (sb_fitU hf1 (fit_d _ (by omega))) _ (congrArg nI (by omega))
        rw [hd]
        rcases (show i = 0 ∨ i = 1 by omega) with e0 | e0
        · subst e0
          rw [show q + 0 = p - 1 - 1 by omega, pk_us]
          rfl
        · subst e0
          rw [pk_un (by omega), show q + 1 = p - 1 by omega, pk_us]
          rfl
    · have h100 : 100 ≤ w := Nat.not_lt.mp fun z => h ((sb_nlt (a := 100) (b := w) (by decide) (by omega)).mpr z)
      have hd := decB_100 h100
      have hl : (decB w).length = (decB (w / 100)).length + 2 := by rw [hd, List.length_append]; rfl
      have hl2 := decB_pos (w / 100)
      refine J_iload_n dJ6_getChars_ba4f3_28 rfl rfl ?_
      refine J_bipush (v := 100) dJ6_getChars_ba4f3_29 (by decide) ?_
      refine J_idiv dJ6_getChars_ba4f3_31 (by decide) ?_
      rw [sb_ndiv (by omega)]
      refine J_istore_n (L' := [(3, _), (5, _), (6, _), (0, _), (2, _)]) dJ6_getChars_ba4f3_32 rfl (by decide) rfl ?_
      refine J_iload_n dJ6_getChars_ba4f3_33 rfl rfl ?_
      refine J_bipush (v := 100) dJ6_getChars_ba4f3_34 (by decide) ?_
      refine J_imul dJ6_getChars_ba4f3_36 ?_
      refine J_iload_n dJ6_getChars_ba4f3_37 rfl rfl ?_
      refine J_isub dJ6_getChars_ba4f3_38 ?_
      rw [sb_nrem (by omega)]
      refine J_istore (L' := [(4, _), (3, _), (5, _), (6, _), (0, _), (2, _)]) dJ6_getChars_ba4f3_39 (by decide) rfl ?_
      refine J_iload_n dJ6_getChars_ba4f3_41 rfl rfl ?_
      refine J_istore_n (L' := [(0, _), (4, _), (3, _), (5, _), (6, _), (2, _)]) dJ6_getChars_ba4f3_42 rfl (by decide) rfl ?_
      refine J_aload_n dJ6_getChars_ba4f3_43 rfl rfl ?_
      refine J_iinc (v := _ + (-1)) (L' := [(5, _), (0, _), (4, _), (3, _), (6, _), (2, _)]) dJ6_getChars_ba4f3_44 rfl rfl (by decide) rfl ?_
      rw [sb_m1 (by omega)]
      refine J_iload dJ6_getChars_ba4f3_47 rfl ?_
      refine J_gets (v := .ref 161) dJ6_getChars_ba4f3_49 dgOn (show (161 : Nat) < 400 by decide) sl_J6_83 ?_
      refine J_iload dJ6_getChars_ba4f3_52 rfl ?_
      refine J_baldS (v := nI (48 + w % 100 % 10)) dJ6_getChars_ba4f3_54 saO (by decide) (vp_in_nI (by omega) (by decide)) (by rw [nI_clamp (by omega)]; rfl) ?_
      refine J_bast dJ6_getChars_ba4f3_55 hA (vp_in_nI (by omega) (by omega)) ?_
      rw [nI_clamp (by omega), nar_d _ (by omega)]
      refine J_up (fun A1 g1 o1 => ?_)
      have hf1 : bfit (upd f (p - 1) (nI (48 + w % 100 % 10))) := sb_fitU hf (fit_d _ (by omega))
      refine J_aload_n dJ6_getChars_ba4f3_56 rfl rfl ?_
      refine J_iinc (v := _ + (-1)) (L' := [(5, _), (0, _), (4, _), (3, _), (6, _), (2, _)]) dJ6_getChars_ba4f3_57 rfl rfl (by decide) rfl ?_
      rw [sb_m1 (by omega)]
      refine J_iload dJ6_getChars_ba4f3_60 rfl ?_
      refine J_gets (v := .ref 162) dJ6_getChars_ba4f3_62 dgTe (show (162 : Nat) < 400 by decide) sl_J6_87 ?_
      refine J_iload dJ6_getChars_ba4f3_65 rfl ?_
      refine J_baldS (v := nI (48 + w % 100 / 10)) dJ6_getChars_ba4f3_67 saT (by decide) (vp_in_nI (by omega) (by decide)) (by rw [nI_clamp (by omega)]; rfl) ?_
      refine J_bast dJ6_getChars_ba4f3_68 g1 (vp_in_nI (by omega) (by omega)) ?_
      rw [nI_clamp (by omega), nar_d _ (by omega)]
      refine J_up (fun A2 g2 o2 => ?_)
      have hf2 := sb_fitU (k := p - 1 - 1) hf1 (fit_d (w % 100 / 10) (by omega))
      refine J_goto (tgt := 22) dJ6_getChars_ba4f3_69 rfl ?_
      refine xx_J.pick [0, 4, 1, 5] rfl ?_
      refine ih (w / 100) (by omega) (by omega) (p - 1 - 1) q A2 _ [] [] g2 hf2 (by omega) (by omega) (fun A3 f3 c1 c2 c3 c4 c5 => ?_)
      refine kk A3 f3 c1 (fun z hz => (c2 z hz).trans ((o2 z hz).trans (o1 z hz))) (fun i hi => ?_) (fun i hi => ?_) c5
      · rw [c3 i (by omega), pk_un (by omega), pk_un (by omega)]
      · rw [hd, getD2]
        by_cases h1 : i < (decB (w / 100)).length
        · rw [if_pos h1]; exact c4 i h1
        · rw [if_neg h1]
          by_cases h2 : i = (decB (w / 100)).length
          · rw [if_pos h2, c3 _ (by omega), show q + i = p - 1 - 1 by omega, pk_us]
          · rw [if_neg h2, if_pos (by omega), c3 _ (by omega), pk_un (by omega), show q + i = p - 1 by omega, pk_us, show w % 100 % 10 = w % 10 by omega]
theorem c_J6_getChars_ba4f3 (hst : l.stackTraces = false) {w p q b m : Nat} {f : Nat → Int32} (hw : w < 1000000) (hA : A b = some (rB m f)) (hf : bfit f) (hm : m < 65536) (hp : p = q + (decB w).length) (hpm : p ≤ m) : xx_C G l yJ6_getChars_ba4f3 mJ6_getChars_ba4f3 0 0 0 0 [.int (nI w), .int (nI p), .ref b] A n (xx_wr (some (.int (nI q))) n (fun A' => ∃ f', A' b = some (rB m f') ∧ (∀ z, z ≠ b → A' z = A z) ∧ (∀ i, i < q ∨ p ≤ i → f' i = f i) ∧ hol f' q (decB w) ∧ bfit f')) := by
  refine J_C hst (by decide +kernel) rfl rfl rfl (Nat.le_of_ble_eq_true rfl) ?_
  show xx_J _ _ _ _ _ _ _ _ 0 [(0, _), (1, _), (2, _)] [] _ _ _ _
  refine J_iload_n dJ6_getChars_ba4f3_0 rfl rfl ?_
  refine J_istore (L' := [(5, _), (0, _), (1, _), (2, _)]) dJ6_getChars_ba4f3_1 (by decide) rfl ?_
  refine J_iload_n dJ6_getChars_ba4f3_3 rfl rfl ?_
  refine J_if_ge (tgt := 11) dJ6_getChars_ba4f3_4 rfl (fun _ => ?_) (fun h => absurd (nI_pos' (by omega)) h)
  refine J_iconst (v := 0) dJ6_getChars_ba4f3_11 (by decide) ?_
  refine J_istore (L' := [(6, _), (5, _), (0, _), (1, _), (2, _)]) dJ6_getChars_ba4f3_12 (by decide) rfl ?_
  refine J_iload dJ6_getChars_ba4f3_14 rfl ?_
  refine J_if_ne (tgt := 22) dJ6_getChars_ba4f3_16 rfl (fun h => absurd rfl h) (fun _ => ?_)
  refine J_iload_n dJ6_getChars_ba4f3_19 rfl rfl ?_
  refine J_ineg dJ6_getChars_ba4f3_20 ?_
  refine J_istore_n (L' := [(0, _), (6, _), (5, _), (1, _), (2, _)]) dJ6_getChars_ba4f3_21 rfl (by decide) rfl ?_
  refine xx_J.pick [2, 1, 0, 4] rfl ?_
  exact c_getLoop hm (v0 := .null) (w + 1) w (by omega) hw p q A f [] [] hA hf hp hpm (fun A' f' c1 c2 c3 c4 c5 => ⟨rfl, rfl, f', c1, c2, c3, c4, c5⟩)
end XNU
