/-! PAIRING.lineUp, find -/
section XPC
variable {G : xx_G} {l : Launch} {b n : Nat} {A : xx_H} {F : xS} {bp : Nat} {PS : xS} {met : Nat → Nat → Bool} {k p : Nat}
/-- nothing outside two regions has changed -/
def xx_s2 (b e b' e' : Nat) (A A' : xx_H) : Prop := ∀ h, (h < b ∨ e ≤ h) → (h < b' ∨ e' ≤ h) → A' h = A h
theorem xx_s2.rf {b e b' e' : Nat} {A : xx_H} : xx_s2 b e b' e' A A := fun _ _ _ => rfl
theorem xx_s2.put {b e b' e' : Nat} {A0 A : xx_H} (h : xx_s2 b e b' e' A0 A) {q : Nat} (h1 : (b ≤ q ∧ q < e) ∨ (b' ≤ q ∧ q < e')) (_ : (0 : Nat) ≤ 0) (c : va_E) : xx_s2 b e b' e' A0 (xx_up A q c) := fun z h2 h3 => by rw [xx_up_n _ _ (by omega)]; exact h z h2 h3
theorem xx_s2.trans {b e b' e' : Nat} {A0 A A1 : xx_H} (h : xx_s2 b e b' e' A0 A) (h' : xx_s2 b e b' e' A A1) : xx_s2 b e b' e' A0 A1 := fun z h1 h2 => (h' z h1 h2).trans (h z h1 h2)
theorem xx_s2.t1 {b e b' e' : Nat} {A0 A A1 : xx_H} (h : xx_s2 b e b' e' A0 A) (h' : xx_same b e A A1) : xx_s2 b e b' e' A0 A1 := fun z h1 h2 => (h' z h1).trans (h z h1 h2)
theorem xx_s2.t2 {b e b' e' : Nat} {A0 A A1 : xx_H} (h : xx_s2 b e b' e' A0 A) (h' : xx_same b' e' A A1) : xx_s2 b e b' e' A0 A1 := fun z h1 h2 => (h' z h2).trans (h z h1 h2)
theorem J_gen2 {M : xx_M} {fr lo mc ms : Nat} {Post : xx_Q} {pc : Nat} {L : List (Nat × Value)} {S : List Value} {k j b b0 e0 b1 e1 : Nat} {cs : List (Nat × va_E)} {A0 : xx_H} {q : Nat} {c : va_E} (hw : xx_w b cs (xx_up A q c)) (hs : xx_s2 b0 e0 b1 e1 A0 (xx_up A q c)) (kk : ∀ A', xx_w b cs A' → xx_s2 b0 e0 b1 e1 A0 A' → (∀ z, z ≠ q → A' z = A z) → xx_J G l M fr lo mc ms Post pc L S A' n k j) : xx_J G l M fr lo mc ms Post pc L S (xx_up A q c) n k j :=
  kk _ hw hs (fun _ hz => xx_up_n _ _ hz)
/-- who is in -/
abbrev isI (F : xS) : Nat → Bool := fun w => decide (¬ f_at F 8 w = 0)
def lup (F : xS) (ls : List Nat) (i : Nat) : List Nat := (ls.take i).filter (isI F)
theorem lup_s {ls : List Nat} {i : Nat} (h : i < ls.length) : lup F ls (i + 1) = if isI F (ls.getD i 0) = true then lup F ls i ++ [ls.getD i 0] else lup F ls i := by
  unfold lup
  rw [List.take_succ, List.getElem?_eq_getElem h, List.filter_append, getD_at h]
  simp only [Option.toList]
  by_cases hi : isI F ls[i] = true
  · rw [if_pos hi, List.filter_cons_of_pos hi, List.filter_nil]
  · rw [if_neg hi, List.filter_cons_of_neg hi, List.filter_nil, List.append_nil]
theorem lup_len {ls : List Nat} {i : Nat} : (lup F ls i).length ≤ i := Nat.le_trans (List.length_filter_le _ _) (List.length_take_le _ _)
abbrev lnL (ln : Nat → Int32) (li : List Nat) : Prop := ∀ q, q < li.length → ln q = nI (li.getD q 0)
theorem lnL_add {ln : Nat → Int32} {li : List Nat} (h : lnL ln li) {w : Nat} {v : Int32} (hv : v = nI w) : lnL (upd ln li.length v) (li ++ [w]) := by
  intro q hq
  rw [List.length_append] at hq
  simp only [upd]
  by_cases e : q = li.length
  · subst e
    rw [if_pos rfl, getD_at (by simp), hv]
    simp
  · have hq2 : q < li.length := by simp at hq; omega
    rw [if_neg e, h q hq2, getD_at hq2, getD_at (by simp; omega), List.getElem_append_left hq2]
set_option maxHeartbeats 4000000 in
theorem c_X1_lineUp (hst : l.stackTraces = false) (hP : xx_w bp (layP bp PS) A) (hF : xx_w b (layF b F) A) (hd : bp + 6 ≤ b ∨ b + 9 ≤ bp) {nw : Nat} (hn : F.1 0 = nI nw) (h12w : nw ≤ 12) : xx_C G l yX1_lineUp mX1_lineUp 4 89 0 0 [.ref bp, .ref b] A n (xx_wr none n (fun A' => ∃ PS' mp o ls, (ordOf (f_R F nw) nw o ls ∧ PS'.1 5 = nI (lup F ls nw).length ∧ lnL (PS'.2 3) (lup F ls nw)) ∧ xx_w bp (layP bp PS') A' ∧ xx_w b (layF b (a_up (a_up F 8 mp) 7 o)) A' ∧ xx_s2 bp (bp + 6) b (b + 9) A A')) := by
  refine J_C hst (by decide +kernel) rfl rfl rfl (Nat.le_of_ble_eq_true rfl) ?_
  show xx_J _ _ _ _ _ _ _ _ 0 [(0, _), (1, _)] [] _ _ _ _
  refine J_aload_n dX1_lineUp_0 rfl rfl ?_
  refine J_callVw (As := []) dX1_lineUp_1 ml_X1_68 cal_X0_putInOrder im_X0_putInOrder se_X0_putInOrder (hF.at 0 rfl) rfl rfl rfl (Nat.le_of_ble_eq_true rfl) ⟨by decide, by decide⟩ ⟨by decide, by decide⟩ (c_X0_putInOrder hst hF hn h12w) (fun A1 hQ1 => ?_)
  obtain ⟨mp, o, ls, hF9, hS9, hord⟩ := hQ1
  have hP9 := hP.s2 hS9 (m := 6) rfl (by omega)
  have hs9 := ((xx_s2.rf (b := bp) (e := bp + 6) (b' := b) (e' := b + 9))).t2 hS9
  have hlen := hord.len
  refine J_aload_n dX1_lineUp_4 rfl rfl ?_
  refine J_iconst (v := 0) dX1_lineUp_5 (by decide) ?_
  refine J_putf dX1_lineUp_6 fp_X1_28 (fun _ => ⟨rfl, rfl⟩) (hP9.at 0 rfl) (Nat.le_of_ble_eq_true rfl) ?_
  refine J_gen2 (wP_s0_5 hP9 _) (hs9.put (by omega) (by omega) _) (fun A2 w2 s2 o2 => ?_)
  have w2F := hF9.o2 o2 (m := 9) rfl (by omega)
  refine J_iconst (v := 0) dX1_lineUp_9 (by decide) ?_
  refine J_istore_n (L' := [(2, _), (0, _), (1, _)]) dX1_lineUp_10 rfl (by decide) rfl ?_
  have loop : ∀ i, i ≤ nw → ∀ (x : Int32) (A1 : xx_H) (PS1 : xS), (x = nI i) → (xx_w bp (layP bp PS1) A1) → (xx_w b (layF b (a_up (a_up F 8 mp) 7 o)) A1) → (xx_s2 bp (bp + 6) b (b + 9) A A1) → (PS1.1 5 = nI (lup F ls i).length) → (lnL (PS1.2 3) (lup F ls i)) → xx_J G l mX1_lineUp 4 89 0 0 (xx_wr none n (fun A' => ∃ PS' mp o ls, (ordOf (f_R F nw) nw o ls ∧ PS'.1 5 = nI (lup F ls nw).length ∧ lnL (PS'.2 3) (lup F ls nw)) ∧ xx_w bp (layP bp PS') A' ∧ xx_w b (layF b (a_up (a_up F 8 mp) 7 o)) A' ∧ xx_s2 bp (bp + 6) b (b + 9) A A')) 11 [(2, .int x), (0, .ref bp), (1, .ref b)] [] A1 n 0 0 := by
    refine xx_dn ?_ ?_
    · intro x  A1  PS1  hx hP1 hF1 hs1 hz hl
      have en : ((a_up (a_up F 8 mp) 7 o).1 0).toInt = nw := by show (F.1 0).toInt = nw; rw [hn]; exact i_n (by omega)
      have en2 : (F.1 0).toInt = nw := en
      have ex : x.toInt = nw := by rw [hx]; exact i_n (by omega)
      refine J_iload_n dX1_lineUp_11 rfl rfl ?_
      refine J_aload_n dX1_lineUp_12 rfl rfl ?_
      refine J_getf dX1_lineUp_13 fl_X1_73 (hF1.at 0 rfl) rfl ?_
      refine J_icmp_ge (tgt := 70) dX1_lineUp_16 rfl (fun h16 => ?_) (fun h16 => ?_)
      · refine J_return dX1_lineUp_70 rfl (by decide) (by decide) ?_
        exact ⟨rfl, rfl, PS1, mp, o, ls, ⟨hord, hz, hl⟩, hP1, hF1, hs1⟩
      · first | (exfalso; simp only [i_lt, i_le, i_eq, i_0, i_1, i_2, i_3, i_4, i_5, i_6, i_8, i_9, i_10, i_12, i_16, i_20, i_m1] at h16; omega) | (exfalso; simp only [s_up, a_up, va_up, i_lt, i_le, i_eq, i_0, i_1, i_2, i_3, i_4, i_5, i_6, i_8, i_9, i_10, i_12, i_16, i_20, i_m1, ↓reduceIte, Nat.reduceEqDiff] at h16; omega)
    · intro i hii ih x  A1  PS1  hx hP1 hF1 hs1 hz hl
      have en : ((a_up (a_up F 8 mp) 7 o).1 0).toInt = nw := by show (F.1 0).toInt = nw; rw [hn]; exact i_n (by omega)
      have en2 : (F.1 0).toInt = nw := en
      have ex : x.toInt = i := by rw [hx]; exact i_n (by omega)
      have hll := @lup_len F ls i
      have e51 : (PS1.1 5).toInt = (lup F ls i).length := by rw [hz]; exact i_n (by omega)
      refine J_iload_n dX1_lineUp_11 rfl rfl ?_
      refine J_aload_n dX1_lineUp_12 rfl rfl ?_
      refine J_getf dX1_lineUp_13 fl_X1_73 (hF1.at 0 rfl) rfl ?_
      refine J_icmp_ge (tgt := 70) dX1_lineUp_16 rfl (fun h16 => ?_) (fun h16 => ?_)
      · first | (exfalso; simp only [i_lt, i_le, i_eq, i_0, i_1, i_2, i_3, i_4, i_5, i_6, i_8, i_9, i_10, i_12, i_16, i_20, i_m1] at h16; omega) | (exfalso; simp only [s_up, a_up, va_up, i_lt, i_le, i_eq, i_0, i_1, i_2, i_3, i_4, i_5, i_6, i_8, i_9, i_10, i_12, i_16, i_20, i_m1, ↓reduceIte, Nat.reduceEqDiff] at h16; omega)
      · refine J_aload_n dX1_lineUp_19 rfl rfl ?_
        refine J_iload_n dX1_lineUp_20 rfl rfl ?_
        refine J_callVr (As := [_]) dX1_lineUp_21 ml_X1_76 cal_X0_atPlace im_X0_atPlace se_X0_atPlace (hF1.at 0 rfl) rfl rfl rfl (Nat.le_of_ble_eq_true rfl) ⟨by decide, by decide⟩ ⟨by decide, by decide⟩ (c_X0_atPlace hst hF1 hn h12w hx hii) ?_
        refine J_istore_n (L' := [(3, _), (2, _), (0, _), (1, _)]) dX1_lineUp_24 rfl (by decide) rfl ?_
        refine J_aload_n dX1_lineUp_25 rfl rfl ?_
        refine J_bipush (v := 8) dX1_lineUp_26 (by decide) ?_
        refine J_iload_n dX1_lineUp_28 rfl rfl ?_
        refine J_callVr (As := [_, _]) dX1_lineUp_29 ml_X1_79 cal_X0_of im_X0_of se_X0_of (hF1.at 0 rfl) rfl rfl rfl (Nat.le_of_ble_eq_true rfl) ⟨by decide, by decide⟩ ⟨by decide, by decide⟩ (c_X0_of (q := 8) hst hF1 hn h12w rfl (by decide) (hord.2.2 i hii) (hord.lt hii)) ?_
        refine J_if_eq (tgt := 64) dX1_lineUp_32 rfl (fun h32 => ?_) (fun h32 => ?_)
        · have h32b : f_at F 8 (ls.getD i 0) = 0 := h32
          have hin : ¬ isI F (ls.getD i 0) = true := fun z => (of_decide_eq_true z) h32b
          refine J_iinc (v := _ + 1) (L' := [(2, _), (3, _), (0, _), (1, _)]) dX1_lineUp_64 rfl rfl (by decide) rfl ?_
          refine J_goto (tgt := 11) dX1_lineUp_67 rfl ?_
          refine xx_J.pick [0, 2, 3] rfl ?_
          exact ih _ _ _ (by rw [hx]; exact nI_1 i) hP1 hF1 hs1 (by rw [lup_s (by omega), if_neg hin]; exact hz) (by rw [lup_s (by omega), if_neg hin]; exact hl)
        · have h32b : ¬ f_at F 8 (ls.getD i 0) = 0 := h32
          have hin : isI F (ls.getD i 0) = true := decide_eq_true h32b
          refine J_aload_n dX1_lineUp_35 rfl rfl ?_
          refine J_getf dX1_lineUp_36 fl_X1_28 (hP1.at 0 rfl) rfl ?_
          refine J_bipush (v := 12) dX1_lineUp_39 (by decide) ?_
          refine J_icmp_ge (tgt := 64) dX1_lineUp_41 rfl (fun h41 => ?_) (fun h41 => ?_)
          · first | (exfalso; simp only [i_lt, i_le, i_eq, i_0, i_1, i_2, i_3, i_4, i_5, i_6, i_8, i_9, i_10, i_12, i_16, i_20, i_m1] at h41; omega) | (exfalso; simp only [s_up, a_up, va_up, i_lt, i_le, i_eq, i_0, i_1, i_2, i_3, i_4, i_5, i_6, i_8, i_9, i_10, i_12, i_16, i_20, i_m1, ↓reduceIte, Nat.reduceEqDiff] at h41; omega)
          · refine J_aload_n dX1_lineUp_44 rfl rfl ?_
            refine J_getf dX1_lineUp_45 fl_X1_31 (hP1.at 0 rfl) rfl ?_
            refine J_aload_n dX1_lineUp_48 rfl rfl ?_
            refine J_getf dX1_lineUp_49 fl_X1_28 (hP1.at 0 rfl) rfl ?_
            refine J_iload_n dX1_lineUp_52 rfl rfl ?_
            refine J_iastN (lup F ls i).length dX1_lineUp_53 (hP1.at 3 rfl) hz (by omega) (by decide) ?_
            refine J_gen2 (wP_a3 hP1 _) (hs1.put (by omega) (by omega) _) (fun A53 w53 s53 o53 => ?_)
            have w53F := hF1.o2 o53 (m := 9) rfl (by omega)
            refine J_aload_n dX1_lineUp_54 rfl rfl ?_
            refine J_dup dX1_lineUp_55 rfl ?_
            refine J_getf dX1_lineUp_56 fl_X1_28 (w53.at 0 rfl) rfl ?_
            refine J_iconst (v := 1) dX1_lineUp_59 (by decide) ?_
            refine J_iadd dX1_lineUp_60 ?_
            refine J_putf dX1_lineUp_61 fp_X1_28 (fun _ => ⟨rfl, rfl⟩) (w53.at 0 rfl) (Nat.le_of_ble_eq_true rfl) ?_
            refine J_gen2 (wP_s0_5 w53 _) (s53.put (by omega) (by omega) _) (fun A54 w54 s54 o54 => ?_)
            have w54F := w53F.o2 o54 (m := 9) rfl (by omega)
            refine J_iinc (v := _ + 1) (L' := [(2, _), (3, _), (0, _), (1, _)]) dX1_lineUp_64 rfl rfl (by decide) rfl ?_
            refine J_goto (tgt := 11) dX1_lineUp_67 rfl ?_
            refine xx_J.pick [0, 2, 3] rfl ?_
            exact ih _ _ _ (by rw [hx]; exact nI_1 i) w54 w54F s54 (by rw [lup_s (by omega), if_pos hin, List.length_append]; show PS1.1 5 + 1 = _; rw [hz]; exact nI_1 _) (by rw [lup_s (by omega), if_pos hin]; exact lnL_add hl (hord.2.2 i hii))
  refine xx_J.pick [0, 1, 2] rfl ?_
  exact loop 0 (by omega) _ _ _ rfl w2 w2F s2 rfl (fun q hq => absurd hq (Nat.not_lt_zero q))
end XPC
