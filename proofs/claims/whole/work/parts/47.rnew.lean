/-! THE REFERENCE: newWrestler -/
section XSH
variable {G : xx_G} {l : Launch} {A A' : xx_H} {n : Nat} {bm bp bs bn ba : Nat} {vL nl : Nat → Int64} {M M' M1 P S : xS} {T : xS} {len i j k q s e t d nt tok v m : Nat} {tk : Nat → Nat}
/-- is y among the names from i on -/
def dpL (f : Nat → Int64) (y : Int64) : Nat → Nat → Bool
  | 0, _ => false
  | d + 1, i => if f i = y then true else dpL f y d (i + 1)
theorem dpL_s {f : Nat → Int64} {y : Int64} {i e : Nat} (h : i < e) : dpL f y (e - i) i = if f i = y then true else dpL f y (e - (i + 1)) (i + 1) := by
  rw [show e - i = (e - (i + 1)) + 1 by omega]
  rfl
def nwE (f : Nat → Int64) (y : Int64) (nw : Nat) : Int32 := if dpL f y nw 0 = true then 2 else if nw = 12 then 4 else 0
def nwL (f : Nat → Int64) (y : Int64) (nw : Nat) : Nat → Int64 := if nwE f y nw = 0 then vp_updL f nw y else f
def nwP (P : xS) (f : Nat → Int64) (y : Int64) (nw : Nat) : xS := if nwE f y nw = 0 then s_up P 0 (P.1 0 + 1) else P
theorem c_X9_newWrestler (hst : l.stackTraces = false) (hN : xx_w bp (layN nl bp P) A) {nw : Nat} (hn : P.1 0 = nI nw) (h12 : nw ≤ 12) (y : Int64) : xx_C G l yX9_newWrestler mX9_newWrestler 0 0 0 0 [.ref bm, .ref bp, .long y] A n (xx_wr (some (.int (nwE nl y nw))) n (fun A' => xx_w bp (layN (nwL nl y nw) bp (nwP P nl y nw)) A' ∧ xx_same bp (bp + 9) A A')) := by
  refine J_C hst (by decide +kernel) rfl rfl rfl (Nat.le_of_ble_eq_true rfl) ?_
  show xx_J _ _ _ _ _ _ _ _ 0 [(0, _), (1, _), (2, _)] [] _ _ _ _
  refine J_iconst (v := 0) dX9_newWrestler_0 (by decide) ?_
  refine J_istore (L' := [(4, _), (0, _), (1, _), (2, _)]) dX9_newWrestler_1 (by decide) rfl ?_
  have loop : ∀ i, i ≤ nw → ∀ (x : Int32) , (x = nI i) → (dpL nl y (nw - i) i = dpL nl y nw 0) → xx_J G l mX9_newWrestler 0 0 0 0 (xx_wr (some (.int (nwE nl y nw))) n (fun A' => xx_w bp (layN (nwL nl y nw) bp (nwP P nl y nw)) A' ∧ xx_same bp (bp + 9) A A')) 3 [(4, .int x), (0, .ref bm), (1, .ref bp), (2, .long y)] [] A n 0 0 := by
    refine xx_dn ?_ ?_
    · intro x   hx hv
      have en : (P.1 0).toInt = nw := by rw [hn]; exact i_n (by omega)
      have ex : x.toInt = nw := by rw [hx]; exact i_n (by omega)
      have hd0 : ¬ dpL nl y nw 0 = true := by rw [← hv, Nat.sub_self]; exact Bool.false_ne_true
      refine J_iload dX9_newWrestler_3 rfl ?_
      refine J_aload_n dX9_newWrestler_5 rfl rfl ?_
      refine J_getf dX9_newWrestler_6 fl_X9_65 (hN.at 0 rfl) rfl ?_
      refine J_icmp_ge (tgt := 32) dX9_newWrestler_9 rfl (fun h9 => ?_) (fun h9 => ?_)
      · refine J_aload_n dX9_newWrestler_32 rfl rfl ?_
        refine J_getf dX9_newWrestler_33 fl_X9_65 (hN.at 0 rfl) rfl ?_
        refine J_bipush (v := 12) dX9_newWrestler_36 (by decide) ?_
        refine J_icmp_ne (tgt := 43) dX9_newWrestler_38 rfl (fun h38 => ?_) (fun h38 => ?_)
        · have hc : ¬ nw = 12 := fun z => h38 (by rw [hn, z]; rfl)
          refine J_aload_n dX9_newWrestler_43 rfl rfl ?_
          refine J_getf dX9_newWrestler_44 fl_X9_376 (hN.at 0 rfl) rfl ?_
          refine J_aload_n dX9_newWrestler_47 rfl rfl ?_
          refine J_getf dX9_newWrestler_48 fl_X9_65 (hN.at 0 rfl) rfl ?_
          refine J_lload_n dX9_newWrestler_51 rfl rfl ?_
          refine J_lastN nw dX9_newWrestler_52 (hN.at 1 rfl) hn (by omega) (by decide) ?_
          refine J_gen (wN_a1 hN _) ((xx_same.rf (b := bp) (e := bp + 9)).put (by omega) (by omega) _) (fun A21 w21 s21 o21 => ?_)
          refine J_aload_n dX9_newWrestler_53 rfl rfl ?_
          refine J_dup dX9_newWrestler_54 rfl ?_
          refine J_getf dX9_newWrestler_55 fl_X9_65 (w21.at 0 rfl) rfl ?_
          refine J_iconst (v := 1) dX9_newWrestler_58 (by decide) ?_
          refine J_iadd dX9_newWrestler_59 ?_
          refine J_putf dX9_newWrestler_60 fp_X9_65 (fun _ => ⟨rfl, rfl⟩) (w21.at 0 rfl) (Nat.le_of_ble_eq_true rfl) ?_
          refine J_gen (wN_s0_0 w21 _) (s21.put (by omega) (by omega) _) (fun A22 w22 s22 o22 => ?_)
          refine J_iconst (v := 0) dX9_newWrestler_63 (by decide) ?_
          refine J_ireturn dX9_newWrestler_64 rfl rfl (by decide) (by decide) ?_
          have e0 : nwE nl y nw = 0 := by unfold nwE; rw [if_neg hd0, if_neg hc]
          refine ⟨by rw [e0], rfl, ?_, s22⟩
          unfold nwL nwP
          rw [e0]
          exact w22
        · have hc : nw = 12 := by rw [hn, i_eq, i_n (by omega), i_12] at h38; omega
          refine J_iconst (v := 4) dX9_newWrestler_41 (by decide) ?_
          refine J_ireturn dX9_newWrestler_42 rfl rfl (by decide) (by decide) ?_
          have e0 : nwE nl y nw = 4 := by unfold nwE; rw [if_neg hd0, if_pos hc]
          refine ⟨by rw [e0], rfl, ?_, (xx_same.rf (b := bp) (e := bp + 9))⟩
          unfold nwL nwP
          rw [e0]
          exact hN
      · first | (exfalso; simp only [i_lt, i_le, i_eq, i_0, i_1, i_2, i_3, i_4, i_5, i_6, i_8, i_9, i_10, i_12, i_16, i_20, i_m1, i_400, i_2000] at h9; omega) | (exfalso; simp only [s_up, a_up, va_up, i_lt, i_le, i_eq, i_0, i_1, i_2, i_3, i_4, i_5, i_6, i_8, i_9, i_10, i_12, i_16, i_20, i_m1, i_400, i_2000, ↓reduceIte, Nat.reduceEqDiff] at h9; omega)
    · intro i hii ih x   hx hv
      have en : (P.1 0).toInt = nw := by rw [hn]; exact i_n (by omega)
      have ex : x.toInt = i := by rw [hx]; exact i_n (by omega)
      refine J_iload dX9_newWrestler_3 rfl ?_
      refine J_aload_n dX9_newWrestler_5 rfl rfl ?_
      refine J_getf dX9_newWrestler_6 fl_X9_65 (hN.at 0 rfl) rfl ?_
      refine J_icmp_ge (tgt := 32) dX9_newWrestler_9 rfl (fun h9 => ?_) (fun h9 => ?_)
      · first | (exfalso; simp only [i_lt, i_le, i_eq, i_0, i_1, i_2, i_3, i_4, i_5, i_6, i_8, i_9, i_10, i_12, i_16, i_20, i_m1, i_400, i_2000] at h9; omega) | (exfalso; simp only [s_up, a_up, va_up, i_lt, i_le, i_eq, i_0, i_1, i_2, i_3, i_4, i_5, i_6, i_8, i_9, i_10, i_12, i_16, i_20, i_m1, i_400, i_2000, ↓reduceIte, Nat.reduceEqDiff] at h9; omega)
      · refine J_aload_n dX9_newWrestler_12 rfl rfl ?_
        refine J_getf dX9_newWrestler_13 fl_X9_376 (hN.at 0 rfl) rfl ?_
        refine J_iload dX9_newWrestler_16 rfl ?_
        refine J_laldN i dX9_newWrestler_18 (hN.at 1 rfl) hx (by omega) (by decide) ?_
        refine J_lload_n dX9_newWrestler_19 rfl rfl ?_
        refine J_lcmp dX9_newWrestler_20 ?_
        refine J_if_ne (tgt := 26) dX9_newWrestler_21 rfl (fun h21 => ?_) (fun h21 => ?_)
        · refine J_iinc (v := _ + 1) (L' := [(4, _), (0, _), (1, _), (2, _)]) dX9_newWrestler_26 rfl rfl (by decide) rfl ?_
          refine J_goto (tgt := 3) dX9_newWrestler_29 rfl ?_
          refine xx_J.pick [0, 1, 2, 3] rfl ?_
          exact ih _  (by rw [hx]; exact nI_1 i) (by rw [← hv, dpL_s hii, if_neg (fun z => h21 (lg_eq.mpr z))])
        · refine J_iconst (v := 2) dX9_newWrestler_24 (by decide) ?_
          refine J_ireturn dX9_newWrestler_25 rfl rfl (by decide) (by decide) ?_
          have e0 : nwE nl y nw = 2 := by unfold nwE; rw [← hv, dpL_s hii, if_pos (lg_eq.mp h21), if_pos rfl]
          refine ⟨by rw [e0], rfl, ?_, (xx_same.rf (b := bp) (e := bp + 9))⟩
          unfold nwL nwP
          rw [e0]
          exact hN
  refine xx_J.pick [0, 1, 2, 3] rfl ?_
  exact loop 0 (by omega) _  rfl rfl
end XSH
