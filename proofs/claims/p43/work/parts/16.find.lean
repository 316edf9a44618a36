/-! PAIRING.lineUp, find -/
section XPC
variable {G : xx_G} {l : Launch} {b n : Nat} {A : xx_H} {F : xS} {bp : Nat} {PS : xS} {met : Nat → Nat → Bool} {k p : Nat}
/-- nothing outside two regions has changed -/
def xx_s2 (b e b' e' : Nat) (A A' : xx_H) : Prop := ∀ h, (h < b ∨ e ≤ h) → (h < b' ∨ e' ≤ h) → A' h = A h
theorem xx_s2.rf {b e b' e' : Nat} {A : xx_H} : xx_s2 b e b' e' A A := fun _ _ _ => rfl
theorem xx_s2.put {b e b' e' : Nat} {A0 A : xx_H} (h : xx_s2 b e b' e' A0 A) {q : Nat} (h1 : (b ≤ q ∧ q < e) ∨ (b' ≤ q ∧ q < e')) (_ : (0 : Nat) ≤ 0) (c : va_E) : xx_s2 b e b' e' A0 (xx_up A q c) := fun z h2 h3 => by rw [xx_up_n _ _ (by omega)]; exact h z h2 h3
theorem xx_s2.trans {b e b' e' : Nat} {A0 A A1 : xx_H} (h : xx_s2 b e b' e' A0 A) (h' : xx_s2 b e b' e' A A1) : xx_s2 b e b' e' A0 A1 := fun z h1 h2 => (h' z h1 h2).trans (h z h1 h2)
theorem xx_s2.t1 {b e b' e' : Nat} {A0 A A1 : xx_H} (h : xx_s2 b e b' e' A0 A) (h' : xx_same b e A A1) : xx_s2 b e b' e' A0 A1 := fun z h1 h2 => (h' z h1).trans (h z h1 h2)
theorem xx_s2.t2 {b e b' e' : Nat} {A0 A A1 : xx_H} (h : xx_s2 b e b' e' A0 A) (h' : xx_same b' e' A A1) : xx_s2 b e b' e' A0 A1 := fun z h1 h2 => (h' z h2).trans (h z h1 h2)
theorem J_gen2 {M : xx_M} {fr lo mc ms : Nat} {Post : xx_Q} {pc : Nat} {L : List (Nat × Value)} {S : List Value} {k j b b0 e0 b1 e1 : Nat} {cs : List (Nat × va_E)} {A0 : xx_H} {q : Nat} {c : va_E} (hw : xx_w b cs (xx_up A q c)) (hs : xx_s2 b0 e0 b1 e1 A0 (xx_up A q c)) (kk : ∀ A', xx_w b cs A' → xx_s2 b0 e0 b1 e1 A0 A' → (∀ z, z ≠ q → A' z = A z) → xx_J G l M fr lo mc ms Post pc L S A' n k j) : xx_J G l M fr lo mc ms Post pc L S (xx_up A q c) n k j :=
  kk _ hw hs (fun _ hz => xx_up_n _ _ hz)
/-- who is in -/
abbrev isI (F : xS) : Nat → Bool := fun w => decide (¬ f_at F 8 w = 0)
def lup (F : xS) (ls : List Nat) (i : Nat) : List Nat := (ls.take i).filter (isI F)
theorem lup_s {ls : List Nat} {i : Nat} (h : i < ls.length) : lup F ls (i + 1) = if isI F (ls.getD i 0) = true then lup F ls i ++ [ls.getD i 0] else lup F ls i := by
  unfold lup
  rw [List.take_succ, List.getElem?_eq_getElem h, List.filter_append, getD_at h]
  simp only [Option.toList]
  by_cases hi : isI F ls[i] = true
  · rw [if_pos hi, List.filter_cons_of_pos hi, List.filter_nil]
  · rw [if_neg hi, List.filter_cons_of_neg hi, List.filter_nil, List.append_nil]
theorem lup_len {ls : List Nat} {i : Nat} : (lup F ls i).length ≤ i := Nat.le_trans (List.length_filter_le _ _) (List.length_take_le _ _)
abbrev lnL (ln : Nat → Int32) (li : List Nat) : Prop := ∀ q, q < li.length → ln q = nI (li.getD q 0)
theorem lnL_add {ln : Nat → Int32} {li : List Nat} (h : lnL ln li) {w : Nat} {v : Int32} (hv : v = nI w) : lnL (upd ln li.length v) (li ++ [w]) := by
  intro q hq
  rw [List.length_append] at hq
  simp only [upd]
  by_cases e : q = li.length
  · subst e
    rw [if_pos rfl, getD_at (by simp), hv]
    simp
  · have hq2 : q < li.length := by simp at hq; omega
    rw [if_neg e, h q hq2, getD_at hq2, getD_at (by simp; omega), List.getElem_append_left hq2]
set_option maxHeartbeats 4000000 in
theorem c_X1_lineUp (hst : l.stackTraces = false) (hP : xx_w bp (layP bp PS) A) (hF : xx_w b (layF b F) A) (hd : bp + 6 ≤ b ∨ b + 9 ≤ bp) {nw : Nat} (hn : F.1 0 = nI nw) (h12w : nw ≤ 12) : xx_C G l yX1_lineUp mX1_lineUp 4 89 0 0 [.ref bp, .ref b] A n (xx_wr none n (fun A' => ∃ PS' mp o ls, (ordOf (f_R F nw) nw o ls ∧ PS'.1 5 = nI (lup F ls nw).length ∧ lnL (PS'.2 3) (lup F ls nw)) ∧ xx_w bp (layP bp PS') A' ∧ xx_w b (layF b (a_up (a_up F 8 mp) 7 o)) A' ∧ xx_s2 bp (bp + 6) b (b + 9) A A')) := by
  refine J_C hst (by decide +kernel) rfl rfl rfl (Nat.le_of_ble_eq_true rfl) ?_
  show xx_J _ _ _ _ _ _ _ _ 0 [(0, _), (1, _)] [] _ _ _ _
  refine J_aload_n dX1_lineUp_0 rfl rfl ?_
  refine J_callVw (As := []) dX1_lineUp_1 ml_X1_68 cal_X0_putInOrder im_X0_putInOrder se_X0_putInOrder (hF.at 0 rfl) rfl rfl rfl (Nat.le_of_ble_eq_true rfl) ⟨by decide, by decide⟩ ⟨by decide, by decide⟩ (c_X0_putInOrder hst hF hn h12w) (fun A1 hQ1 => ?_)
  obtain ⟨mp, o, ls, hF9, hS9, hord⟩ := hQ1
  have hP9 := hP.s2 hS9 (m := 6) rfl (by omega)
  have hs9 := ((xx_s2.rf (b := bp) (e := bp + 6) (b' := b) (e' := b + 9))).t2 hS9
  have hlen := hord.len
  refine J_aload_n dX1_lineUp_4 rfl rfl ?_
  refine J_iconst (v := 0) dX1_lineUp_5 (by decide) ?_
  refine J_putf dX1_lineUp_6 fp_X1_28 (fun _ => ⟨rfl, rfl⟩) (hP9.at 0 rfl) (Nat.le_of_ble_eq_true rfl) ?_
  refine J_gen2 (wP_s0_5 hP9 _) (hs9.put (by omega) (by omega) _) (fun A2 w2 s2 o2 => ?_)
  have w2F := hF9.o2 o2 (m := 9) rfl (by omega)
  refine J_iconst (v := 0) dX1_lineUp_9 (by decide) ?_
  refine J_istore_n (L' := [(2, _), (0, _), (1, _)]) dX1_lineUp_10 rfl (by decide) rfl ?_
  have loop : ∀ i, i ≤ nw → ∀ (x : Int32) (A1 : xx_H) (PS1 : xS), (x = nI i) → (xx_w bp (layP bp PS1) A1) → (xx_w b (layF b (a_up (a_up F 8 mp) 7 o)) A1) → (xx_s2 bp (bp + 6) b (b + 9) A A1) → (PS1.1 5 = nI (lup F ls i).length) → (lnL (PS1.2 3) (lup F ls i)) → xx_J G l mX1_lineUp 4 89 0 0 (xx_wr none n (fun A' => ∃ PS' mp o ls, (ordOf (f_R F nw) nw o ls ∧ PS'.1 5 = nI (lup F ls nw).length ∧ lnL (PS'.2 3) (lup F ls nw)) ∧ xx_w bp (layP bp PS') A' ∧ xx_w b (layF b (a_up (a_up F 8 mp) 7 o)) A' ∧ xx_s2 bp (bp + 6) b (b + 9) A A')) 11 [(2, .int x), (0, .ref bp), (1, .ref b)] [] A1 n 0 0 := by
    refine xx_dn ?_ ?_
    · intro x  A1  PS1  hx hP1 hF1 hs1 hz hl
      have en : ((a_up (a_up F 8 mp) 7 o).1 0).toInt = nw := by show (F.1 0).toInt = nw; rw [hn]; exact i_n (by omega)
      have en2 : (F.1 0).toInt = nw := en
      have ex : x.toInt = nw := by rw [hx]; exact i_n (by omega)
      refine J_iload_n dX1_lineUp_11 rfl rfl ?_
      refine J_aload_n dX1_lineUp_12 rfl rfl ?_
      refine J_getf dX1_lineUp_13 fl_X1_73 (hF1.at 0 rfl) rfl ?_
      refine J_icmp_ge (tgt := 70) dX1_lineUp_16 rfl (fun h16 => ?_) (fun h16 => ?_)
      · refine J_return dX1_lineUp_70 rfl (by decide) (by decide) ?_
        exact ⟨rfl, rfl, PS1, mp, o, ls, ⟨hord, hz, hl⟩, hP1, hF1, hs1⟩
      · first | (exfalso; simp only [i_lt, i_le, i_eq, i_0, i_1, i_2, i_3, i_4, i_5, i_6, i_8, i_9, i_10, i_12, i_16, i_20, i_m1] at h16; omega) | (exfalso; simp only [s_up, a_up, va_up, i_lt, i_le, i_eq, i_0, i_1, i_2, i_3, i_4, i_5, i_6, i_8, i_9, i_10, i_12, i_16, i_20, i_m1, ↓reduceIte, Nat.reduceEqDiff] at h16; omega)
    · intro i hii ih x  A1  PS1  hx hP1 hF1 hs1 hz hl
      have en : ((a_up (a_up F 8 mp) 7 o).1 0).toInt = nw := by show (F.1 0).toInt = nw; rw [hn]; exact i_n (by omega)
      have en2 : (F.1 0).toInt = nw := en
      have ex : x.toInt = i := by rw [hx]; exact i_n (by omega)
      have hll := @lup_len F ls i
      have e51 : (PS1.1 5).toInt = (lup F ls i).length := by rw [hz]; exact i_n (by omega)
      refine J_iload_n dX1_lineUp_11 rfl rfl ?_
      refine J_aload_n dX1_lineUp_12 rfl rfl ?_
      refine J_getf dX1_lineUp_13 fl_X1_73 (hF1.at 0 rfl) rfl ?_
      refine J_icmp_ge (tgt := 70) dX1_lineUp_16 rfl (fun h16 => ?_) (fun h16 => ?_)
      · first | (exfalso; simp only [i_lt, i_le, i_eq, i_0, i_1, i_2, i_3, i_4, i_5, i_6, i_8, i_9, i_10, i_12, i_16, i_20, i_m1] at h16; omega) | (exfalso; simp only [s_up, a_up, va_up, i_lt, i_le, i_eq, i_0, i_1, i_2, i_3, i_4, i_5, i_6, i_8, i_9, i_10, i_12, i_16, i_20, i_m1, ↓reduceIte, Nat.reduceEqDiff] at h16; omega)
      · refine J_aload_n dX1_lineUp_19 rfl rfl ?_
        refine J_iload_n dX1_lineUp_20 rfl rfl ?_
        refine J_callVr (As := [_]) dX1_lineUp_21 ml_X1_76 cal_X0_atPlace im_X0_atPlace se_X0_atPlace (hF1.at 0 rfl) rfl rfl rfl (Nat.le_of_ble_eq_true rfl) ⟨by decide, by decide⟩ ⟨by decide, by decide⟩ (c_X0_atPlace hst hF1 hn h12w hx hii) ?_
        refine J_istore_n (L' := [(3, _), (2, _), (0, _), (1, _)]) dX1_lineUp_24 rfl (by decide) rfl ?_
        refine J_aload_n dX1_lineUp_25 rfl rfl ?_
        refine J_bipush (v := 8) dX1_lineUp_26 (by decide) ?_
        refine J_iload_n dX1_lineUp_28 rfl rfl ?_
        refine J_callVr (As := [_, _]) dX1_lineUp_29 ml_X1_79 cal_X0_of im_X0_of se_X0_of (hF1.at 0 rfl) rfl rfl rfl (Nat.le_of_ble_eq_true rfl) ⟨by decide, by decide⟩ ⟨by decide, by decide⟩ (c_X0_of (q := 8) hst hF1 hn h12w rfl (by decide) (hord.2.2 i hii) (hord.lt hii)) ?_
        refine J_if_eq (tgt := 64) dX1_lineUp_32 rfl (fun h32 => ?_) (fun h32 => ?_)
        · have h32b : f_at F 8 (ls.getD i 0) = 0 := h32
          have hin : ¬ isI F (ls.getD i 0) = true := fun z => (of_decide_eq_true z) h32b
          refine J_iinc (v := _ + 1) (L' := [(2, _), (3, _), (0, _), (1, _)]) dX1_lineUp_64 rfl rfl (by decide) rfl ?_
          refine J_goto (tgt := 11) dX1_lineUp_67 rfl ?_
          refine xx_J.pick [0, 2, 3] rfl ?_
          exact ih _ _ _ (by rw [hx]; exact nI_1 i) hP1 hF1 hs1 (by rw [lup_s (by omega), if_neg hin]; exact hz) (by rw [lup_s (by omega), if_neg hin]; exact hl)
        · have h32b : ¬ f_at F 8 (ls.getD i 0) = 0 := h32
          have hin : isI F (ls.getD i 0) = true := decide_eq_true h32b
          refine J_aload_n dX1_lineUp_35 rfl rfl ?_
          refine J_getf dX1_lineUp_36 fl_X1_28 (hP1.at 0 rfl) rfl ?_
          refine J_bipush (v := 12) dX1_lineUp_39 (by decide) ?_
          refine J_icmp_ge (tgt := 64) dX1_lineUp_41 rfl (fun h41 => ?_) (fun h41 => ?_)
          · first | (exfalso; simp only [i_lt, i_le, i_eq, i_0, i_1, i_2, i_3, i_4, i_5, i_6, i_8, i_9, i_10, i_12, i_16, i_20, i_m1] at h41; omega) | (exfalso; simp only [s_up, a_up, va_up, i_lt, i_le, i_eq, i_0, i_1, i_2, i_3, i_4, i_5, i_6, i_8, i_9, i_10, i_12, i_16, i_20, i_m1, ↓reduceIte, Nat.reduceEqDiff] at h41; omega)
          · refine J_aload_n dX1_lineUp_44 rfl rfl ?_
            refine J_getf dX1_lineUp_45 fl_X1_31 (hP1.at 0 rfl) rfl ?_
            refine J_aload_n dX1_lineUp_48 rfl rfl ?_
            refine J_getf dX1_lineUp_49 fl_X1_28 (hP1.at 0 rfl) rfl ?_
            refine J_iload_n dX1_lineUp_52 rfl rfl ?_
            refine J_iastN (lup F ls i).length dX1_lineUp_53 (hP1.at 3 rfl) hz (by omega) (by decide) ?_
            refine J_gen2 (wP_a3 hP1 _) (hs1.put (by omega) (by omega) _) (fun A53 w53 s53 o53 => ?_)
            have w53F := hF1.o2 o53 (m := 9) rfl (by omega)
            refine J_aload_n dX1_lineUp_54 rfl rfl ?_
            refine J_dup dX1_lineUp_55 rfl ?_
            refine J_getf dX1_lineUp_56 fl_X1_28 (w53.at 0 rfl) rfl ?_
            refine J_iconst (v := 1) dX1_lineUp_59 (by decide) ?_
            refine J_iadd dX1_lineUp_60 ?_
            refine J_putf dX1_lineUp_61 fp_X1_28 (fun _ => ⟨rfl, rfl⟩) (w53.at 0 rfl) (Nat.le_of_ble_eq_true rfl) ?_
            refine J_gen2 (wP_s0_5 w53 _) (s53.put (by omega) (by omega) _) (fun A54 w54 s54 o54 => ?_)
            have w54F := w53F.o2 o54 (m := 9) rfl (by omega)
            refine J_iinc (v := _ + 1) (L' := [(2, _), (3, _), (0, _), (1, _)]) dX1_lineUp_64 rfl rfl (by decide) rfl ?_
            refine J_goto (tgt := 11) dX1_lineUp_67 rfl ?_
            refine xx_J.pick [0, 2, 3] rfl ?_
            exact ih _ _ _ (by rw [hx]; exact nI_1 i) w54 w54F s54 (by rw [lup_s (by omega), if_pos hin, List.length_append]; show PS1.1 5 + 1 = _; rw [hz]; exact nI_1 _) (by rw [lup_s (by omega), if_pos hin]; exact lnL_add hl (hord.2.2 i hii))
  refine xx_J.pick [0, 1, 2] rfl ?_
  exact loop 0 (by omega) _ _ _ rfl w2 w2F s2 rfl (fun q hq => absurd hq (Nat.not_lt_zero q))
theorem div2 : ∀ k, k ≤ 12 → nI k / 2 = nI (k / 2) := by decide +kernel
theorem rs_even (k : Nat) : rs_k k % 2 = 0 ∧ rs_k k ≤ k := by unfold rs_k; split <;> omega
/-- the sets that are left behind i pairs -/
def setAt (met : Nat → Nat → Bool) (k np : Nat) : Nat → Nat
  | 0 => 2 ^ k - 1
  | i + 1 => clr (clr (setAt met k np i) (low (setAt met k np i))) (prt met k (np - (i + 1)) (setAt met k np i))
theorem setAt_ok {np : Nat} (h12 : k ≤ 12) (hk : k = 2 * np) : ∀ i, i ≤ np → setAt met k np i < 2 ^ k ∧ pcn (setAt met k np i) 12 = 2 * (np - i) := by
  intro i
  induction i with
  | zero =>
    intro _
    have h2 : 0 < 2 ^ k := Nat.two_pow_pos k
    have hlt : 2 ^ k - 1 < 2 ^ k := by omega
    refine ⟨hlt, ?_⟩
    have h := pcn_wide hlt (12 - k)
    rw [show k + (12 - k) = 12 by omega, pcn_full k k (Nat.le_refl _)] at h
    show pcn (2 ^ k - 1) 12 = _
    omega
  | succ i ih =>
    intro hi
    obtain ⟨h1, h2⟩ := ih (by omega)
    have h3 : pcn (setAt met k np i) 12 = 2 * ((np - (i + 1)) + 1) := by omega
    obtain ⟨g1, -⟩ := prt_spec (met := met) h12 h1 h3 (by omega)
    obtain ⟨-, -, -, -, g2⟩ := ev_step h12 h1 h3
    obtain ⟨-, -, q1, -, q2⟩ := g2 _ g1
    exact ⟨q1, q2⟩
abbrev fd_l (F : xS) (ls : List Nat) (nw : Nat) : Nat → Nat := fun q => (lup F ls nw).getD q 0
abbrev fd_k (F : xS) (ls : List Nat) (nw : Nat) : Nat := rs_k (lup F ls nw).length
abbrev fd_a (F : xS) (ls : List Nat) (nw : Nat) : Nat → Nat := rs_l F (fd_l F ls nw) (lup F ls nw).length
abbrev fd_m (F : xS) (ls : List Nat) (nw : Nat) : Nat → Nat → Bool := metL F (fd_a F ls nw)
/-- the i-th pair -/
def fd_1 (F : xS) (ls : List Nat) (nw i : Nat) : Nat := fd_a F ls nw (low (setAt (fd_m F ls nw) (fd_k F ls nw) (fd_k F ls nw / 2) i))
def fd_2 (F : xS) (ls : List Nat) (nw i : Nat) : Nat := fd_a F ls nw (prt (fd_m F ls nw) (fd_k F ls nw) (fd_k F ls nw / 2 - (i + 1)) (setAt (fd_m F ls nw) (fd_k F ls nw) (fd_k F ls nw / 2) i))
/-- what find lays, up to pair i -/
def fnd (F : xS) (ls : List Nat) (nw : Nat) (P : xS) (i : Nat) : Prop := P.1 0 = nI (fd_k F ls nw / 2) ∧ P.1 1 = nI (mr (fd_m F ls nw) (fd_k F ls nw) (fd_k F ls nw / 2) (2 ^ fd_k F ls nw - 1)) ∧ P.1 2 = rs_r F (fd_l F ls nw) (lup F ls nw).length ∧ ∀ q, q < i → P.2 1 q = nI (fd_1 F ls nw q) ∧ P.2 2 q = nI (fd_2 F ls nw q)
theorem fd_lnk {ls : List Nat} {nw : Nat} {ln : Nat → Int32} (hp : ls.Perm (List.range nw)) (h : lnL ln (lup F ls nw)) : lnk ln (fd_l F ls nw) (lup F ls nw).length nw := by
  intro q hq
  refine ⟨h q hq, ?_⟩
  show (lup F ls nw).getD q 0 < nw
  rw [getD_at hq]
  have hm := List.getElem_mem hq
  exact List.mem_range.mp (hp.mem_iff.mp (List.mem_of_mem_take (List.mem_filter.mp hm).1))
set_option maxHeartbeats 8000000 in
theorem c_X1_find (hst : l.stackTraces = false) (hP : xx_w bp (layP bp PS) A) (hF : xx_w b (layF b F) A) (hd : bp + 6 ≤ b ∨ b + 9 ≤ bp) {nw : Nat} (hn : F.1 0 = nI nw) (h12w : nw ≤ 12) : xx_C G l yX1_find mX1_find 30 700 0 0 [.ref bp, .ref b] A n (xx_wr none n (fun A' => ∃ PS' mp o ls, (ordOf (f_R F nw) nw o ls ∧ fnd F ls nw PS' (fd_k F ls nw / 2)) ∧ xx_w bp (layP bp PS') A' ∧ xx_w b (layF b (a_up (a_up F 8 mp) 7 o)) A' ∧ xx_s2 bp (bp + 6) b (b + 9) A A')) := by
  refine J_C hst (by decide +kernel) rfl rfl rfl (Nat.le_of_ble_eq_true rfl) ?_
  show xx_J _ _ _ _ _ _ _ _ 0 [(0, _), (1, _)] [] _ _ _ _
  refine J_aload_n dX1_find_0 rfl rfl ?_
  refine J_aload_n dX1_find_1 rfl rfl ?_
  refine J_callVw (As := [_]) dX1_find_2 ml_X1_40 cal_X1_lineUp im_X1_lineUp se_X1_lineUp (hP.at 0 rfl) rfl rfl rfl (Nat.le_of_ble_eq_true rfl) ⟨by decide, by decide⟩ ⟨by decide, by decide⟩ (c_X1_lineUp hst hP hF hd hn h12w) (fun A1 hQ1 => ?_)
  obtain ⟨P1, mp, o, ls, ⟨hord, hz1, hl1⟩, hP1, hF1, hs1⟩ := hQ1
  have hll := @lup_len F ls nw
  have hev : fd_k F ls nw % 2 = 0 ∧ fd_k F ls nw ≤ (lup F ls nw).length := rs_even (lup F ls nw).length
  have hlk := fd_lnk hord.1 hl1
  refine J_aload_n dX1_find_5 rfl rfl ?_
  refine J_aload_n dX1_find_6 rfl rfl ?_
  refine J_callVw (As := [_]) dX1_find_7 ml_X1_44 cal_X1_takeOutResting im_X1_takeOutResting se_X1_takeOutResting (hP1.at 0 rfl) rfl rfl rfl (Nat.le_of_ble_eq_true rfl) ⟨by decide, by decide⟩ ⟨by decide, by decide⟩ (c_X1_takeOutResting (la := fd_l F ls nw) hst hP1 hF1 hd hn h12w hz1 (by omega) hlk) (fun A2 hQ2 => ?_)
  obtain ⟨P2, ⟨hz2, hr2, hl2⟩, hP2, hS2⟩ := hQ2
  have hF2 := hF1.s2 hS2 (m := 9) rfl (by omega)
  have hs2 := hs1.t1 hS2
  have hz2 : P2.1 5 = nI (fd_k F ls nw) := hz2
  have hl2 : lnk (P2.2 3) (fd_a F ls nw) (fd_k F ls nw) nw := hl2
  refine J_aload_n dX1_find_10 rfl rfl ?_
  refine J_aload_n dX1_find_11 rfl rfl ?_
  refine J_callVw (As := [_]) dX1_find_12 ml_X1_47 cal_X1_noteMeetings im_X1_noteMeetings se_X1_noteMeetings (hP2.at 0 rfl) rfl rfl rfl (Nat.le_of_ble_eq_true rfl) ⟨by decide, by decide⟩ ⟨by decide, by decide⟩ (c_X1_noteMeetings (la := fd_a F ls nw) hst hP2 hF2 hd hn h12w hz2 (by omega) hl2) (fun A3 hQ3 => ?_)
  obtain ⟨mb, hmb, hP3, hS3⟩ := hQ3
  have hF3 := hF2.s2 hS3 (m := 9) rfl (by omega)
  have hs3 := hs2.t1 hS3
  have hmb : mbt (fd_m F ls nw) (fd_k F ls nw) mb := hmb
  obtain ⟨np, enp⟩ : ∃ np, np = fd_k F ls nw / 2 := ⟨_, rfl⟩
  have hk2 : fd_k F ls nw = 2 * np := by omega
  refine J_aload_n dX1_find_15 rfl rfl ?_
  refine J_getf dX1_find_16 fl_X1_37 (hP3.at 0 rfl) rfl ?_
  refine J_iconst (v := -1) dX1_find_19 (by decide) ?_
  refine J_callSw (As := [_, _]) dX1_find_20 ml_X1_50 cal_J7_fill_53178 sm_J7_fill_53178 rfl rfl (Nat.le_of_ble_eq_true rfl) ⟨by decide, by decide⟩ ⟨by decide, by decide⟩ (c_J7_fill_53178 hst (hP3.at 5 rfl) (by decide) (-1)) (fun A4 hQ4 => ?_)
  subst hQ4
  refine J_gen2 (wP_a5 hP3 _) (hs3.put (by omega) (by omega) _) (fun A4 hP4 hs4 o4 => ?_)
  have hF4 := hF3.o2 o4 (m := 9) rfl (by omega)
  refine J_aload_n dX1_find_23 rfl rfl ?_
  refine J_aload_n dX1_find_24 rfl rfl ?_
  refine J_getf dX1_find_25 fl_X1_28 (hP4.at 0 rfl) rfl ?_
  refine J_iconst (v := 2) dX1_find_28 (by decide) ?_
  refine J_idiv dX1_find_29 (by decide) ?_
  rw [show (Value.int ((a_up (a_up P2 4 mb) 5 (fil (-1) 4096 ((a_up P2 4 mb).2 5))).1 5 / 2)) = Value.int (nI np) from by show Value.int (P2.1 5 / 2) = _; rw [hz2, div2 _ (by omega), ← enp]]
  refine J_putf dX1_find_30 fp_X1_9 (fun _ => ⟨rfl, rfl⟩) (hP4.at 0 rfl) (Nat.le_of_ble_eq_true rfl) ?_
  refine J_gen2 (wP_s0_0 hP4 _) (hs4.put (by omega) (by omega) _) (fun A5 w5 s5 o5 => ?_)
  have w5F := hF4.o2 o5 (m := 9) rfl (by omega)
  refine J_iconst (v := 1) dX1_find_33 (by decide) ?_
  refine J_aload_n dX1_find_34 rfl rfl ?_
  refine J_getf dX1_find_35 fl_X1_28 (w5.at 0 rfl) rfl ?_
  refine J_ishl dX1_find_38 ?_
  refine J_iconst (v := 1) dX1_find_39 (by decide) ?_
  refine J_isub dX1_find_40 ?_
  rw [show ((1 : Int32) <<< ((s_up (a_up (a_up P2 4 mb) 5 (fil (-1) 4096 ((a_up P2 4 mb).2 5))) 0 (nI np)).1 5 &&& 31) - 1) = nI (2 ^ (fd_k F ls nw) - 1) from by show (1 : Int32) <<< (P2.1 5 &&& 31) - 1 = _; rw [hz2, is_one (by omega), show (1 : Int32) = nI 1 from rfl, pk_sub (Nat.two_pow_pos _)]]
  refine J_istore_n (L' := [(2, _), (0, _), (1, _)]) dX1_find_41 rfl (by decide) rfl ?_
  refine J_aload_n dX1_find_42 rfl rfl ?_
  refine J_aload_n dX1_find_43 rfl rfl ?_
  refine J_iload_n dX1_find_44 rfl rfl ?_
  refine J_aload_n dX1_find_45 rfl rfl ?_
  refine J_getf dX1_find_46 fl_X1_9 (w5.at 0 rfl) rfl ?_
  refine J_callVw (As := [_, _]) dX1_find_49 ml_X1_56 cal_X1_fewestRematches im_X1_fewestRematches se_X1_fewestRematches (w5.at 0 rfl) rfl rfl rfl (Nat.le_of_ble_eq_true rfl) ⟨by omega, by show 8 + (3 + 11) + _ ≤ _; omega⟩ ⟨by decide, by decide⟩ (c_few (PS := s_up (a_up P2 4 mb) 0 (nI np)) (met := (fd_m F ls nw)) (k := (fd_k F ls nw)) hst hz2 (by omega) hmb np (by omega) _ _ (fil (-1) 4096 (P2.2 5)) _ _ _ rfl rfl (by have := Nat.two_pow_pos (fd_k F ls nw); omega) (setAt_ok (met := (fd_m F ls nw)) (by omega) hk2 0 (by omega)).2 (fun q hq => Or.inl (by unfold fil; rw [if_pos (by have := pw12 (k := (fd_k F ls nw)) (by omega); omega)])) w5) (fun A6 hQ6 => ?_)
  obtain ⟨fw6, hm6, hP6, hS6⟩ := hQ6
  have hF6 := w5F.s2 hS6 (m := 9) rfl (by omega)
  have hs6 := s5.t1 hS6
  refine J_putf dX1_find_52 fp_X1_15 (fun _ => ⟨rfl, rfl⟩) (hP6.at 0 rfl) (Nat.le_of_ble_eq_true rfl) ?_
  refine J_gen2 (wP_s0_1 hP6 _) (hs6.put (by omega) (by omega) _) (fun A7 w7 s7 o7 => ?_)
  have w7F := hF6.o2 o7 (m := 9) rfl (by omega)
  refine J_iconst (v := 0) dX1_find_55 (by decide) ?_
  refine J_istore_n (L' := [(3, _), (2, _), (0, _), (1, _)]) dX1_find_56 rfl (by decide) rfl ?_
  have loop : ∀ i, i ≤ np → ∀ (x : Int32) (A7 : xx_H) (Q1 : xS), (x = nI i) → (xx_w bp (layP bp Q1) A7) → (xx_w b (layF b (a_up (a_up F 8 mp) 7 o)) A7) → (xx_s2 bp (bp + 6) b (b + 9) A A7) → (fnd F ls nw Q1 i) → (Q1.1 5 = nI (fd_k F ls nw)) → (lnk (Q1.2 3) (fd_a F ls nw) (fd_k F ls nw) nw) → (mbt (fd_m F ls nw) (fd_k F ls nw) (Q1.2 4)) → (mok (fd_m F ls nw) (fd_k F ls nw) (Q1.2 5)) → xx_J G l mX1_find 30 700 0 0 (xx_wr none n (fun A' => ∃ PS' mp o ls, (ordOf (f_R F nw) nw o ls ∧ fnd F ls nw PS' (fd_k F ls nw / 2)) ∧ xx_w bp (layP bp PS') A' ∧ xx_w b (layF b (a_up (a_up F 8 mp) 7 o)) A' ∧ xx_s2 bp (bp + 6) b (b + 9) A A')) 57 [(3, .int x), (2, .int (nI (setAt (fd_m F ls nw) (fd_k F ls nw) np i))), (0, .ref bp), (1, .ref b)] [] A7 n 0 0 := by
    refine xx_dn ?_ ?_
    · intro x  A7  Q1  hx hP7 hF7 hs7 hf hz7 hl7 hb7 hm7
      have ep : (Q1.1 0).toInt = np := by rw [hf.1, ← enp]; exact i_n (by omega)
      have ex : x.toInt = np := by rw [hx]; exact i_n (by omega)
      refine J_iload_n dX1_find_57 rfl rfl ?_
      refine J_aload_n dX1_find_58 rfl rfl ?_
      refine J_getf dX1_find_59 fl_X1_9 (hP7.at 0 rfl) rfl ?_
      refine J_icmp_ge (tgt := 141) dX1_find_62 rfl (fun h62 => ?_) (fun h62 => ?_)
      · refine J_return dX1_find_141 rfl (by decide) (by decide) ?_
        exact ⟨rfl, rfl, Q1, mp, o, ls, ⟨hord, by rw [← enp]; exact hf⟩, hP7, hF7, hs7⟩
      · first | (exfalso; simp only [i_lt, i_le, i_eq, i_0, i_1, i_2, i_3, i_4, i_5, i_6, i_8, i_9, i_10, i_12, i_16, i_20, i_m1] at h62; omega) | (exfalso; simp only [s_up, a_up, va_up, i_lt, i_le, i_eq, i_0, i_1, i_2, i_3, i_4, i_5, i_6, i_8, i_9, i_10, i_12, i_16, i_20, i_m1, ↓reduceIte, Nat.reduceEqDiff] at h62; omega)
    · intro i hii ih x  A7  Q1  hx hP7 hF7 hs7 hf hz7 hl7 hb7 hm7
      have ep : (Q1.1 0).toInt = np := by rw [hf.1, ← enp]; exact i_n (by omega)
      have ex : x.toInt = i := by rw [hx]; exact i_n (by omega)
      have hP7i : xx_w bp (layP bp (a_up Q1 5 (Q1.2 5))) A7 := by rw [a_up_id]; exact hP7
      obtain ⟨t1, t2⟩ := setAt_ok (met := (fd_m F ls nw)) (by omega) hk2 i (by omega)
      have t3 : pcn (setAt (fd_m F ls nw) (fd_k F ls nw) np i) 12 = 2 * ((np - (i + 1)) + 1) := by omega
      obtain ⟨u1, u2, hlk2, u4, u5⟩ := ev_step (by omega) t1 t3
      obtain ⟨v1, v2, v3, hpk, v5⟩ := prt_spec (met := (fd_m F ls nw)) (by omega) t1 t3 (by omega)
      have p12 := pw12 (k := (fd_k F ls nw)) (by omega)
      have hcl := clr_le (setAt (fd_m F ls nw) (fd_k F ls nw) np i) (low (setAt (fd_m F ls nw) (fd_k F ls nw) np i))
      refine J_iload_n dX1_find_57 rfl rfl ?_
      refine J_aload_n dX1_find_58 rfl rfl ?_
      refine J_getf dX1_find_59 fl_X1_9 (hP7.at 0 rfl) rfl ?_
      refine J_icmp_ge (tgt := 141) dX1_find_62 rfl (fun h62 => ?_) (fun h62 => ?_)
      · first | (exfalso; simp only [i_lt, i_le, i_eq, i_0, i_1, i_2, i_3, i_4, i_5, i_6, i_8, i_9, i_10, i_12, i_16, i_20, i_m1] at h62; omega) | (exfalso; simp only [s_up, a_up, va_up, i_lt, i_le, i_eq, i_0, i_1, i_2, i_3, i_4, i_5, i_6, i_8, i_9, i_10, i_12, i_16, i_20, i_m1, ↓reduceIte, Nat.reduceEqDiff] at h62; omega)
      · refine J_iload_n dX1_find_65 rfl rfl ?_
        refine J_callSr (As := [_]) dX1_find_66 ml_X1_60 cal_X1_firstOf sm_X1_firstOf rfl rfl (Nat.le_of_ble_eq_true rfl) ⟨by decide, by decide⟩ ⟨by decide, by decide⟩ (c_X1_firstOf hst rfl (by omega) u1) ?_
        refine J_istore (L' := [(4, _), (3, _), (2, _), (0, _), (1, _)]) dX1_find_69 (by decide) rfl ?_
        refine J_iload_n dX1_find_71 rfl rfl ?_
        refine J_iconst (v := 1) dX1_find_72 (by decide) ?_
        refine J_iload dX1_find_73 rfl ?_
        refine J_ishl dX1_find_75 ?_
        refine J_iconst (v := -1) dX1_find_76 (by decide) ?_
        refine J_ixor dX1_find_77 ?_
        refine J_iand dX1_find_78 ?_
        rw [is_clr (by omega)]
        refine J_istore (L' := [(5, _), (4, _), (3, _), (2, _), (0, _), (1, _)]) dX1_find_79 (by decide) rfl ?_
        refine J_aload_n dX1_find_81 rfl rfl ?_
        refine J_iload dX1_find_82 rfl ?_
        refine J_iload dX1_find_84 rfl ?_
        refine J_aload_n dX1_find_86 rfl rfl ?_
        refine J_getf dX1_find_87 fl_X1_9 (hP7.at 0 rfl) rfl ?_
        refine J_iload_n dX1_find_90 rfl rfl ?_
        refine J_isub dX1_find_91 ?_
        refine J_iconst (v := 1) dX1_find_92 (by decide) ?_
        refine J_isub dX1_find_93 ?_
        have hz94 : Q1.1 0 - x - 1 = nI (np - (i + 1)) := by rw [hf.1, ← enp, hx, pk_sub (by omega), show (1 : Int32) = nI 1 from rfl, pk_sub (by omega)]; rfl
        refine J_callVw (As := [_, _, _]) dX1_find_94 ml_X1_64 cal_X1_secondFor im_X1_secondFor se_X1_secondFor (hP7.at 0 rfl) rfl rfl rfl (Nat.le_of_ble_eq_true rfl) ⟨by omega, by show 8 + (6 + 11) + _ ≤ _; omega⟩ ⟨by decide, by decide⟩ (c_X1_secondFor (PS := Q1) (met := (fd_m F ls nw)) (k := (fd_k F ls nw)) (p := np - (i + 1)) hst hz7 (by omega) hb7 (by omega) rfl rfl hz94 t1 t3 hm7 hP7i) (fun A58 hQ58 => ?_)
        obtain ⟨fw8, hm8, hP8, hS8⟩ := hQ58
        have hF8 := hF7.s2 hS8 (m := 9) rfl (by omega)
        have hs8 := hs7.t1 hS8
        refine J_istore (L' := [(6, _), (5, _), (4, _), (3, _), (2, _), (0, _), (1, _)]) dX1_find_97 (by decide) rfl ?_
        refine J_aload_n dX1_find_99 rfl rfl ?_
        refine J_getf dX1_find_100 fl_X1_21 (hP8.at 0 rfl) rfl ?_
        refine J_iload_n dX1_find_103 rfl rfl ?_
        refine J_aload_n dX1_find_104 rfl rfl ?_
        refine J_getf dX1_find_105 fl_X1_31 (hP8.at 0 rfl) rfl ?_
        refine J_iload dX1_find_108 rfl ?_
        refine J_ialdN (low (setAt (fd_m F ls nw) (fd_k F ls nw) np i)) dX1_find_110 (hP8.at 3 rfl) rfl (by omega) (by decide) ?_
        refine J_iastN i dX1_find_111 (hP8.at 1 rfl) hx (by omega) (by decide) ?_
        refine J_gen2 (wP_a1 hP8 _) (hs8.put (by omega) (by omega) _) (fun A59 w59 s59 o59 => ?_)
        have w59F := hF8.o2 o59 (m := 9) rfl (by omega)
        refine J_aload_n dX1_find_112 rfl rfl ?_
        refine J_getf dX1_find_113 fl_X1_25 (w59.at 0 rfl) rfl ?_
        refine J_iload_n dX1_find_116 rfl rfl ?_
        refine J_aload_n dX1_find_117 rfl rfl ?_
        refine J_getf dX1_find_118 fl_X1_31 (w59.at 0 rfl) rfl ?_
        refine J_iload dX1_find_121 rfl ?_
        refine J_ialdN (prt (fd_m F ls nw) (fd_k F ls nw) (np - (i + 1)) (setAt (fd_m F ls nw) (fd_k F ls nw) np i)) dX1_find_123 (w59.at 3 rfl) rfl (by omega) (by decide) ?_
        refine J_iastN i dX1_find_124 (w59.at 2 rfl) hx (by omega) (by decide) ?_
        refine J_gen2 (wP_a2 w59 _) (s59.put (by omega) (by omega) _) (fun A60 w60 s60 o60 => ?_)
        have w60F := w59F.o2 o60 (m := 9) rfl (by omega)
        refine J_iload dX1_find_125 rfl ?_
        refine J_iconst (v := 1) dX1_find_127 (by decide) ?_
        refine J_iload dX1_find_128 rfl ?_
        refine J_ishl dX1_find_130 ?_
        refine J_iconst (v := -1) dX1_find_131 (by decide) ?_
        refine J_ixor dX1_find_132 ?_
        refine J_iand dX1_find_133 ?_
        rw [is_clr (by omega)]
        refine J_istore_n (L' := [(2, _), (6, _), (5, _), (4, _), (3, _), (0, _), (1, _)]) dX1_find_134 rfl (by decide) rfl ?_
        refine J_iinc (v := _ + 1) (L' := [(3, _), (2, _), (6, _), (5, _), (4, _), (0, _), (1, _)]) dX1_find_135 rfl rfl (by decide) rfl ?_
        refine J_goto (tgt := 57) dX1_find_138 rfl ?_
        refine xx_J.pick [0, 1, 5, 6] rfl ?_
        have hfs : ∀ q, q < i + 1 → upd (Q1.2 1) i (Q1.2 3 (low (setAt (fd_m F ls nw) (fd_k F ls nw) np i))) q = nI (fd_1 F ls nw q) ∧ upd (Q1.2 2) i (Q1.2 3 (prt (fd_m F ls nw) (fd_k F ls nw) (np - (i + 1)) (setAt (fd_m F ls nw) (fd_k F ls nw) np i))) q = nI (fd_2 F ls nw q) := by
          intro q hq
          simp only [upd]
          by_cases hqi : q = i
          · subst hqi
            rw [if_pos rfl, if_pos rfl]
            unfold fd_1 fd_2
            rw [← enp]
            exact ⟨(hl7 _ hlk2).1, (hl7 _ hpk).1⟩
          · rw [if_neg hqi, if_neg hqi]
            exact hf.2.2.2 q (by omega)
        exact ih _ _ _ (by rw [hx]; exact nI_1 i) w60 w60F s60 ⟨hf.1, hf.2.1, hf.2.2.1, hfs⟩ hz7 hl7 hb7 hm8
  refine xx_J.pick [0, 1, 2, 3] rfl ?_
  exact loop 0 (by omega) _ _ _ rfl w7 w7F s7 ⟨by rw [← enp]; rfl, by rw [← enp]; rfl, hr2, fun q hq => absurd hq (Nat.not_lt_zero q)⟩ hz2 hl2 hmb hm6
end XPC
