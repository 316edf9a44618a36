/-! READER, its small methods -/
section XRD
def layD (bt : Nat) (bu : Nat) (b : Nat) (F : xS) : List (Nat × va_E) := [(0, .inr (2, [.ref (bt), .ref (bu), .ref (b + 1), .ref (b + 2), .ref (b + 3), .int (F.1 5), .int (F.1 6), .int (F.1 7), .int (F.1 8)])), (1, .inl (0, 12, .inl (F.2 1))), (2, .inl (0, 12, .inl (F.2 2))), (3, .inl (0, 3, .inl (F.2 3)))]
theorem wD_s0_5 {bt : Nat} {bu : Nat} {b : Nat} {F : xS} {A : xx_H} (h : xx_w b (layD bt bu b F) A) (x : Int32) : xx_w b (layD bt bu b (s_up F 5 x)) (xx_up A (b + 0) (.inr (2, [Value.ref (bt), .ref (bu), .ref (b + 1), .ref (b + 2), .ref (b + 3), .int (F.1 5), .int (F.1 6), .int (F.1 7), .int (F.1 8)].set 5 (.int x)))) := h.put 0 _ rfl rfl
theorem wD_s0_6 {bt : Nat} {bu : Nat} {b : Nat} {F : xS} {A : xx_H} (h : xx_w b (layD bt bu b F) A) (x : Int32) : xx_w b (layD bt bu b (s_up F 6 x)) (xx_up A (b + 0) (.inr (2, [Value.ref (bt), .ref (bu), .ref (b + 1), .ref (b + 2), .ref (b + 3), .int (F.1 5), .int (F.1 6), .int (F.1 7), .int (F.1 8)].set 6 (.int x)))) := h.put 0 _ rfl rfl
theorem wD_s0_7 {bt : Nat} {bu : Nat} {b : Nat} {F : xS} {A : xx_H} (h : xx_w b (layD bt bu b F) A) (x : Int32) : xx_w b (layD bt bu b (s_up F 7 x)) (xx_up A (b + 0) (.inr (2, [Value.ref (bt), .ref (bu), .ref (b + 1), .ref (b + 2), .ref (b + 3), .int (F.1 5), .int (F.1 6), .int (F.1 7), .int (F.1 8)].set 7 (.int x)))) := h.put 0 _ rfl rfl
theorem wD_s0_8 {bt : Nat} {bu : Nat} {b : Nat} {F : xS} {A : xx_H} (h : xx_w b (layD bt bu b F) A) (x : Int32) : xx_w b (layD bt bu b (s_up F 8 x)) (xx_up A (b + 0) (.inr (2, [Value.ref (bt), .ref (bu), .ref (b + 1), .ref (b + 2), .ref (b + 3), .int (F.1 5), .int (F.1 6), .int (F.1 7), .int (F.1 8)].set 8 (.int x)))) := h.put 0 _ rfl rfl
theorem wD_a1 {bt : Nat} {bu : Nat} {b : Nat} {F : xS} {A : xx_H} (h : xx_w b (layD bt bu b F) A) (f : Nat → Int32) : xx_w b (layD bt bu b (a_up F 1 f)) (xx_up A (b + 1) (.inl (0, 12, .inl f))) := h.put 1 _ rfl rfl
theorem wD_a2 {bt : Nat} {bu : Nat} {b : Nat} {F : xS} {A : xx_H} (h : xx_w b (layD bt bu b F) A) (f : Nat → Int32) : xx_w b (layD bt bu b (a_up F 2 f)) (xx_up A (b + 2) (.inl (0, 12, .inl f))) := h.put 2 _ rfl rfl
theorem wD_a3 {bt : Nat} {bu : Nat} {b : Nat} {F : xS} {A : xx_H} (h : xx_w b (layD bt bu b F) A) (f : Nat → Int32) : xx_w b (layD bt bu b (a_up F 3 f)) (xx_up A (b + 3) (.inl (0, 3, .inl f))) := h.put 3 _ rfl rfl
variable {G : xx_G} {l : Launch} {A : xx_H} {n : Nat} {b bt bu : Nat} {D T : xS} {sg : Nat → Option Nat}
theorem c_X2_sees (hst : l.stackTraces = false) (hD : xx_w b (layD bt bu b D) A) (hT : xx_w bt (layT sg bt T) A) {k : Nat} (hat : D.1 6 = nI k) {tok : Nat} (htok : T.1 5 = nI tok) (h401 : tok ≤ 401) (hk : k < 2 ^ 31) (hsg : ∀ q, q < tok → ∃ v, sg q = some v ∧ v < 39) {v : Nat} (hv : v < 39) : xx_C G l yX2_sees mX2_sees 0 0 0 0 [.ref b, .ref v] A n (xx_ro (some (.int (xx_b (k < tok ∧ sg k = some v)))) A n) := by
  have eat : (D.1 6).toInt = k := by rw [hat]; exact i_n hk
  have etok : (T.1 5).toInt = tok := by rw [htok]; exact i_n (by omega)
  refine J_C hst (by decide +kernel) rfl rfl rfl (Nat.le_of_ble_eq_true rfl) ?_
  show xx_J _ _ _ _ _ _ _ _ 0 [(0, _), (1, _)] [] _ _ _ _
  refine J_aload_n dX2_sees_0 rfl rfl ?_
  refine J_getf dX2_sees_1 fl_X2_39 (hD.at 0 rfl) rfl ?_
  refine J_if_lt (tgt := 41) dX2_sees_4 rfl (fun h4 => ?_) (fun h4 => ?_)
  · first | (exfalso; simp only [i_lt, i_le, i_eq, i_0, i_1, i_2, i_3, i_4, i_5, i_6, i_8, i_9, i_10, i_12, i_16, i_20, i_m1, i_400, i_2000] at h4; omega) | (exfalso; simp only [s_up, a_up, va_up, i_lt, i_le, i_eq, i_0, i_1, i_2, i_3, i_4, i_5, i_6, i_8, i_9, i_10, i_12, i_16, i_20, i_m1, i_400, i_2000, ↓reduceIte, Nat.reduceEqDiff] at h4; omega)
  · refine J_aload_n dX2_sees_7 rfl rfl ?_
    refine J_getf dX2_sees_8 fl_X2_39 (hD.at 0 rfl) rfl ?_
    refine J_aload_n dX2_sees_11 rfl rfl ?_
    refine J_getf dX2_sees_12 fl_X2_12 (hD.at 0 rfl) rfl ?_
    refine J_getf dX2_sees_15 fl_X2_273 (hT.at 0 rfl) rfl ?_
    refine J_icmp_ge (tgt := 41) dX2_sees_18 rfl (fun h18 => ?_) (fun h18 => ?_)
    · have hkt : ¬ k < tok := fun z => by simp only [i_lt, i_le, i_eq, i_0, i_1, i_2, i_3, i_4, i_5, i_6, i_8, i_9, i_10, i_12, i_16, i_20, i_m1] at h18; omega
      have hz : ¬ (k < tok ∧ sg k = some v) := fun z => hkt z.1
      refine J_iconst (v := 0) dX2_sees_41 (by decide) ?_
      refine J_ireturn dX2_sees_42 rfl rfl (by decide) (by decide) ?_
      first | exact ⟨by rw [xx_bf hz], rfl, rfl⟩ | exact ⟨by rw [xx_bt hz], rfl, rfl⟩
    · have hkt : k < tok := by simp only [i_lt, i_le, i_eq, i_0, i_1, i_2, i_3, i_4, i_5, i_6, i_8, i_9, i_10, i_12, i_16, i_20, i_m1] at h18; omega
      refine J_aload_n dX2_sees_21 rfl rfl ?_
      refine J_getf dX2_sees_22 fl_X2_12 (hD.at 0 rfl) rfl ?_
      refine J_getf dX2_sees_25 fl_X2_276 (hT.at 0 rfl) rfl ?_
      refine J_aload_n dX2_sees_28 rfl rfl ?_
      refine J_getf dX2_sees_29 fl_X2_39 (hD.at 0 rfl) rfl ?_
      refine J_aaldN k dX2_sees_32 (hT.at 2 rfl) hat (by omega) (by decide) ?_
      refine J_aload_n dX2_sees_33 rfl rfl ?_
      refine J_acmp_ne (tgt := 41) (rx := sg k) (ry := some v) dX2_sees_34 rfl (fun q h => by obtain ⟨w, hw, hw2⟩ := hsg k hkt; rw [hw] at h; cases h; exact hw2) (fun q h => by cases h; exact hv) (fun h34 => ?_) (fun h34 => ?_)
      · have hz : ¬ (k < tok ∧ sg k = some v) := fun z => h34 z.2
        refine J_iconst (v := 0) dX2_sees_41 (by decide) ?_
        refine J_ireturn dX2_sees_42 rfl rfl (by decide) (by decide) ?_
        first | exact ⟨by rw [xx_bf hz], rfl, rfl⟩ | exact ⟨by rw [xx_bt hz], rfl, rfl⟩
      · have hz : k < tok ∧ sg k = some v := ⟨hkt, h34⟩
        refine J_iconst (v := 1) dX2_sees_37 (by decide) ?_
        refine J_goto (tgt := 42) dX2_sees_38 rfl ?_
        refine J_ireturn dX2_sees_42 rfl rfl (by decide) (by decide) ?_
        first | exact ⟨by rw [xx_bf hz], rfl, rfl⟩ | exact ⟨by rw [xx_bt hz], rfl, rfl⟩
/-- is token k the sign v -/
abbrev seeP (sg : Nat → Option Nat) (tok k v : Nat) : Prop := k < tok ∧ sg k = some v
/-- .. then one further -/
def tkD (D : xS) (sg : Nat → Option Nat) (tok k v : Nat) : xS := if seeP sg tok k v then s_up D 6 (D.1 6 + 1) else D
theorem c_X2_takes (hst : l.stackTraces = false) (hD : xx_w b (layD bt bu b D) A) (hT : xx_w bt (layT sg bt T) A) (hdd : bt + 5 ≤ b ∨ b + 4 ≤ bt) {k : Nat} (hat : D.1 6 = nI k) {tok : Nat} (htok : T.1 5 = nI tok) (h401 : tok ≤ 401) (hk : k < 2 ^ 31) (hsg : ∀ q, q < tok → ∃ v, sg q = some v ∧ v < 39) {v : Nat} (hv : v < 39) : xx_C G l yX2_takes mX2_takes 1 21 0 0 [.ref b, .ref v] A n (xx_wr (some (.int (xx_b (seeP sg tok k v)))) n (fun A' => xx_w b (layD bt bu b (tkD D sg tok k v)) A' ∧ xx_same b (b + 4) A A')) := by
  refine J_C hst (by decide +kernel) rfl rfl rfl (Nat.le_of_ble_eq_true rfl) ?_
  show xx_J _ _ _ _ _ _ _ _ 0 [(0, _), (1, _)] [] _ _ _ _
  refine J_aload_n dX2_takes_0 rfl rfl ?_
  refine J_aload_n dX2_takes_1 rfl rfl ?_
  refine J_callVr (As := [_]) dX2_takes_2 ml_X2_57 cal_X2_sees im_X2_sees se_X2_sees (hD.at 0 rfl) rfl rfl rfl (Nat.le_of_ble_eq_true rfl) ⟨by decide, by decide⟩ ⟨by decide, by decide⟩ (c_X2_sees hst hD hT hat htok h401 hk hsg (v := v) (by first | assumption | decide)) ?_
  refine J_ifb_ne (tgt := 10) dX2_takes_5 rfl (fun h5 => ?_) (fun h5 => ?_)
  · have hh : seeP sg tok k v := h5
    refine J_aload_n dX2_takes_10 rfl rfl ?_
    refine J_dup dX2_takes_11 rfl ?_
    refine J_getf dX2_takes_12 fl_X2_39 (hD.at 0 rfl) rfl ?_
    refine J_iconst (v := 1) dX2_takes_15 (by decide) ?_
    refine J_iadd dX2_takes_16 ?_
    refine J_putf dX2_takes_17 fp_X2_39 (fun _ => ⟨rfl, rfl⟩) (hD.at 0 rfl) (Nat.le_of_ble_eq_true rfl) ?_
    refine J_gen (wD_s0_6 hD _) ((xx_same.rf (b := b) (e := b + 4)).put (by omega) (by omega) _) (fun A1 w1 s1 o1 => ?_)
    have w1T := hT.o2 o1 (m := 5) rfl (by omega)
    refine J_iconst (v := 1) dX2_takes_20 (by decide) ?_
    refine J_ireturn dX2_takes_21 rfl rfl (by decide) (by decide) ?_
    first | exact ⟨by rw [xx_bf hh], rfl, by unfold tkD; rw [if_neg hh]; exact w1, s1⟩ | exact ⟨by rw [xx_bt hh], rfl, by unfold tkD; rw [if_pos hh]; exact w1, s1⟩
  · have hh : ¬ seeP sg tok k v := h5
    refine J_iconst (v := 0) dX2_takes_8 (by decide) ?_
    refine J_ireturn dX2_takes_9 rfl rfl (by decide) (by decide) ?_
    first | exact ⟨by rw [xx_bf hh], rfl, by unfold tkD; rw [if_neg hh]; exact hD, (xx_same.rf (b := b) (e := b + 4))⟩ | exact ⟨by rw [xx_bt hh], rfl, by unfold tkD; rw [if_pos hh]; exact hD, (xx_same.rf (b := b) (e := b + 4))⟩
theorem c_X2_takesDeeper (hst : l.stackTraces = false) (hD : xx_w b (layD bt bu b D) A) (hT : xx_w bt (layT sg bt T) A) (hdd : bt + 5 ≤ b ∨ b + 4 ≤ bt) {k : Nat} (hat : D.1 6 = nI k) {tok : Nat} (htok : T.1 5 = nI tok) (h401 : tok ≤ 401) (hk : k < 2 ^ 31) (hsg : ∀ q, q < tok → ∃ v, sg q = some v ∧ v < 39) {v : Nat} (hv : v < 39) {d : Nat} {y : Int32} (hy : y = nI d) (hd8 : d ≤ 8) : xx_C G l yX2_takesDeeper mX2_takesDeeper 1 21 0 0 [.ref b, .ref v, .int y] A n (xx_wr (some (.int (xx_b (d < 8 ∧ seeP sg tok k v)))) n (fun A' => xx_w b (layD bt bu b (if d < 8 then tkD D sg tok k v else D)) A' ∧ xx_same b (b + 4) A A')) := by
  have ey : y.toInt = d := by rw [hy]; exact i_n (by omega)
  refine J_C hst (by decide +kernel) rfl rfl rfl (Nat.le_of_ble_eq_true rfl) ?_
  show xx_J _ _ _ _ _ _ _ _ 0 [(0, _), (1, _), (2, _)] [] _ _ _ _
  refine J_iload_n dX2_takesDeeper_0 rfl rfl ?_
  refine J_bipush (v := 8) dX2_takesDeeper_1 (by decide) ?_
  refine J_icmp_ge (tgt := 14) dX2_takesDeeper_3 rfl (fun h3 => ?_) (fun h3 => ?_)
  · have h8 : ¬ d < 8 := fun z => by simp only [i_lt, i_le, i_eq, i_0, i_1, i_2, i_3, i_4, i_5, i_6, i_8, i_9, i_10, i_12, i_16, i_20, i_m1] at h3; omega
    refine J_iconst (v := 0) dX2_takesDeeper_14 (by decide) ?_
    refine J_ireturn dX2_takesDeeper_15 rfl rfl (by decide) (by decide) ?_
    first | exact ⟨by rw [xx_bf (fun z => h8 z.1)], rfl, by rw [if_neg h8]; exact hD, (xx_same.rf (b := b) (e := b + 4))⟩ | exact ⟨by rw [xx_bf (fun z => hh z.2)], rfl, by rw [if_pos h8]; unfold tkD; rw [if_neg hh]; exact hD, (xx_same.rf (b := b) (e := b + 4))⟩ | exact ⟨by rw [xx_bt (And.intro h8 hh)], rfl, by rw [if_pos h8]; unfold tkD; rw [if_pos hh]; exact hD, (xx_same.rf (b := b) (e := b + 4))⟩
  · have h8 : d < 8 := by simp only [i_lt, i_le, i_eq, i_0, i_1, i_2, i_3, i_4, i_5, i_6, i_8, i_9, i_10, i_12, i_16, i_20, i_m1] at h3; omega
    refine J_aload_n dX2_takesDeeper_6 rfl rfl ?_
    refine J_aload_n dX2_takesDeeper_7 rfl rfl ?_
    refine J_callVr (As := [_]) dX2_takesDeeper_8 ml_X2_57 cal_X2_sees im_X2_sees se_X2_sees (hD.at 0 rfl) rfl rfl rfl (Nat.le_of_ble_eq_true rfl) ⟨by decide, by decide⟩ ⟨by decide, by decide⟩ (c_X2_sees hst hD hT hat htok h401 hk hsg (v := v) (by first | assumption | decide)) ?_
    refine J_ifb_ne (tgt := 16) dX2_takesDeeper_11 rfl (fun h11 => ?_) (fun h11 => ?_)
    · have hh : seeP sg tok k v := h11
      refine J_aload_n dX2_takesDeeper_16 rfl rfl ?_
      refine J_dup dX2_takesDeeper_17 rfl ?_
      refine J_getf dX2_takesDeeper_18 fl_X2_39 (hD.at 0 rfl) rfl ?_
      refine J_iconst (v := 1) dX2_takesDeeper_21 (by decide) ?_
      refine J_iadd dX2_takesDeeper_22 ?_
      refine J_putf dX2_takesDeeper_23 fp_X2_39 (fun _ => ⟨rfl, rfl⟩) (hD.at 0 rfl) (Nat.le_of_ble_eq_true rfl) ?_
      refine J_gen (wD_s0_6 hD _) ((xx_same.rf (b := b) (e := b + 4)).put (by omega) (by omega) _) (fun A1 w1 s1 o1 => ?_)
      have w1T := hT.o2 o1 (m := 5) rfl (by omega)
      refine J_iconst (v := 1) dX2_takesDeeper_26 (by decide) ?_
      refine J_ireturn dX2_takesDeeper_27 rfl rfl (by decide) (by decide) ?_
      first | exact ⟨by rw [xx_bf (fun z => h8 z.1)], rfl, by rw [if_neg h8]; exact w1, s1⟩ | exact ⟨by rw [xx_bf (fun z => hh z.2)], rfl, by rw [if_pos h8]; unfold tkD; rw [if_neg hh]; exact w1, s1⟩ | exact ⟨by rw [xx_bt (And.intro h8 hh)], rfl, by rw [if_pos h8]; unfold tkD; rw [if_pos hh]; exact w1, s1⟩
    · have hh : ¬ seeP sg tok k v := h11
      refine J_iconst (v := 0) dX2_takesDeeper_14 (by decide) ?_
      refine J_ireturn dX2_takesDeeper_15 rfl rfl (by decide) (by decide) ?_
      first | exact ⟨by rw [xx_bf (fun z => h8 z.1)], rfl, by rw [if_neg h8]; exact hD, (xx_same.rf (b := b) (e := b + 4))⟩ | exact ⟨by rw [xx_bf (fun z => hh z.2)], rfl, by rw [if_pos h8]; unfold tkD; rw [if_neg hh]; exact hD, (xx_same.rf (b := b) (e := b + 4))⟩ | exact ⟨by rw [xx_bt (And.intro h8 hh)], rfl, by rw [if_pos h8]; unfold tkD; rw [if_pos hh]; exact hD, (xx_same.rf (b := b) (e := b + 4))⟩
def cntS (sg : Nat → Option Nat) (tok k : Nat) : Int32 := if seeP sg tok k 1 then 0 else if seeP sg tok k 11 then 2 else if seeP sg tok k 13 then 6 else if seeP sg tok k 14 then 7 else if seeP sg tok k 4 then 5 else if seeP sg tok k 2 then 1 else 10
theorem c_X2_countSeen (hst : l.stackTraces = false) (hD : xx_w b (layD bt bu b D) A) (hT : xx_w bt (layT sg bt T) A) {k : Nat} (hat : D.1 6 = nI k) {tok : Nat} (htok : T.1 5 = nI tok) (h401 : tok ≤ 401) (hk : k < 2 ^ 31) (hsg : ∀ q, q < tok → ∃ v, sg q = some v ∧ v < 39) : xx_C G l yX2_countSeen mX2_countSeen 1 21 0 0 [.ref b] A n (xx_ro (some (.int (cntS sg tok k))) A n) := by
  refine J_C hst (by decide +kernel) rfl rfl rfl (Nat.le_of_ble_eq_true rfl) ?_
  show xx_J _ _ _ _ _ _ _ _ 0 [(0, _)] [] _ _ _ _
  refine J_aload_n dX2_countSeen_0 rfl rfl ?_
  refine J_gets (v := .ref 1) dX2_countSeen_1 (gs_mem 1 (by decide)) (show (1 : Nat) < 200 by decide) sl_X2_102 ?_
  refine J_callVr (As := [_]) dX2_countSeen_4 ml_X2_57 cal_X2_sees im_X2_sees se_X2_sees (hD.at 0 rfl) rfl rfl rfl (Nat.le_of_ble_eq_true rfl) ⟨by decide, by decide⟩ ⟨by decide, by decide⟩ (c_X2_sees hst hD hT hat htok h401 hk hsg (v := 1) (by first | assumption | decide)) ?_
  refine J_ifb_eq (tgt := 14) dX2_countSeen_7 rfl (fun h7 => ?_) (fun h7 => ?_)
  · refine J_aload_n dX2_countSeen_14 rfl rfl ?_
    refine J_gets (v := .ref 11) dX2_countSeen_15 (gs_mem 11 (by decide)) (show (11 : Nat) < 200 by decide) sl_X2_261 ?_
    refine J_callVr (As := [_]) dX2_countSeen_18 ml_X2_57 cal_X2_sees im_X2_sees se_X2_sees (hD.at 0 rfl) rfl rfl rfl (Nat.le_of_ble_eq_true rfl) ⟨by decide, by decide⟩ ⟨by decide, by decide⟩ (c_X2_sees hst hD hT hat htok h401 hk hsg (v := 11) (by first | assumption | decide)) ?_
    refine J_ifb_eq (tgt := 28) dX2_countSeen_21 rfl (fun h21 => ?_) (fun h21 => ?_)
    · refine J_aload_n dX2_countSeen_28 rfl rfl ?_
      refine J_gets (v := .ref 13) dX2_countSeen_29 (gs_mem 13 (by decide)) (show (13 : Nat) < 200 by decide) sl_X2_264 ?_
      refine J_callVr (As := [_]) dX2_countSeen_32 ml_X2_57 cal_X2_sees im_X2_sees se_X2_sees (hD.at 0 rfl) rfl rfl rfl (Nat.le_of_ble_eq_true rfl) ⟨by decide, by decide⟩ ⟨by decide, by decide⟩ (c_X2_sees hst hD hT hat htok h401 hk hsg (v := 13) (by first | assumption | decide)) ?_
      refine J_ifb_eq (tgt := 43) dX2_countSeen_35 rfl (fun h35 => ?_) (fun h35 => ?_)
      · refine J_aload_n dX2_countSeen_43 rfl rfl ?_
        refine J_gets (v := .ref 14) dX2_countSeen_44 (gs_mem 14 (by decide)) (show (14 : Nat) < 200 by decide) sl_X2_267 ?_
        refine J_callVr (As := [_]) dX2_countSeen_47 ml_X2_57 cal_X2_sees im_X2_sees se_X2_sees (hD.at 0 rfl) rfl rfl rfl (Nat.le_of_ble_eq_true rfl) ⟨by decide, by decide⟩ ⟨by decide, by decide⟩ (c_X2_sees hst hD hT hat htok h401 hk hsg (v := 14) (by first | assumption | decide)) ?_
        refine J_ifb_eq (tgt := 58) dX2_countSeen_50 rfl (fun h50 => ?_) (fun h50 => ?_)
        · refine J_aload_n dX2_countSeen_58 rfl rfl ?_
          refine J_gets (v := .ref 4) dX2_countSeen_59 (gs_mem 4 (by decide)) (show (4 : Nat) < 200 by decide) sl_X2_270 ?_
          refine J_callVr (As := [_]) dX2_countSeen_62 ml_X2_57 cal_X2_sees im_X2_sees se_X2_sees (hD.at 0 rfl) rfl rfl rfl (Nat.le_of_ble_eq_true rfl) ⟨by decide, by decide⟩ ⟨by decide, by decide⟩ (c_X2_sees hst hD hT hat htok h401 hk hsg (v := 4) (by first | assumption | decide)) ?_
          refine J_ifb_eq (tgt := 72) dX2_countSeen_65 rfl (fun h65 => ?_) (fun h65 => ?_)
          · refine J_aload_n dX2_countSeen_72 rfl rfl ?_
            refine J_gets (v := .ref 2) dX2_countSeen_73 (gs_mem 2 (by decide)) (show (2 : Nat) < 200 by decide) sl_X2_71 ?_
            refine J_callVr (As := [_]) dX2_countSeen_76 ml_X2_57 cal_X2_sees im_X2_sees se_X2_sees (hD.at 0 rfl) rfl rfl rfl (Nat.le_of_ble_eq_true rfl) ⟨by decide, by decide⟩ ⟨by decide, by decide⟩ (c_X2_sees hst hD hT hat htok h401 hk hsg (v := 2) (by first | assumption | decide)) ?_
            refine J_ifb_eq (tgt := 86) dX2_countSeen_79 rfl (fun h79 => ?_) (fun h79 => ?_)
            · refine J_bipush (v := 10) dX2_countSeen_86 (by decide) ?_
              refine J_ireturn dX2_countSeen_88 rfl rfl (by decide) (by decide) ?_
              refine ⟨congrArg (fun v => Sum.inl (some (Value.int v))) ?_, rfl, rfl⟩
              unfold cntS
              first | (rw [if_pos h7]; done) | (rw [if_neg h7, if_pos h21]; done) | (rw [if_neg h7, if_neg h21, if_pos h35]; done) | (rw [if_neg h7, if_neg h21, if_neg h35, if_pos h50]; done) | (rw [if_neg h7, if_neg h21, if_neg h35, if_neg h50, if_pos h65]; done) | (rw [if_neg h7, if_neg h21, if_neg h35, if_neg h50, if_neg h65, if_pos h79]; done) | (rw [if_neg h7, if_neg h21, if_neg h35, if_neg h50, if_neg h65, if_neg h79]; done)
            · refine J_iconst (v := 1) dX2_countSeen_82 (by decide) ?_
              refine J_goto (tgt := 88) dX2_countSeen_83 rfl ?_
              refine J_ireturn dX2_countSeen_88 rfl rfl (by decide) (by decide) ?_
              refine ⟨congrArg (fun v => Sum.inl (some (Value.int v))) ?_, rfl, rfl⟩
              unfold cntS
              first | (rw [if_pos h7]; done) | (rw [if_neg h7, if_pos h21]; done) | (rw [if_neg h7, if_neg h21, if_pos h35]; done) | (rw [if_neg h7, if_neg h21, if_neg h35, if_pos h50]; done) | (rw [if_neg h7, if_neg h21, if_neg h35, if_neg h50, if_pos h65]; done) | (rw [if_neg h7, if_neg h21, if_neg h35, if_neg h50, if_neg h65, if_pos h79]; done) | (rw [if_neg h7, if_neg h21, if_neg h35, if_neg h50, if_neg h65, if_neg h79]; done)
          · refine J_iconst (v := 5) dX2_countSeen_68 (by decide) ?_
            refine J_goto (tgt := 88) dX2_countSeen_69 rfl ?_
            refine J_ireturn dX2_countSeen_88 rfl rfl (by decide) (by decide) ?_
            refine ⟨congrArg (fun v => Sum.inl (some (Value.int v))) ?_, rfl, rfl⟩
            unfold cntS
            first | (rw [if_pos h7]; done) | (rw [if_neg h7, if_pos h21]; done) | (rw [if_neg h7, if_neg h21, if_pos h35]; done) | (rw [if_neg h7, if_neg h21, if_neg h35, if_pos h50]; done) | (rw [if_neg h7, if_neg h21, if_neg h35, if_neg h50, if_pos h65]; done) | (rw [if_neg h7, if_neg h21, if_neg h35, if_neg h50, if_neg h65, if_pos h79]; done) | (rw [if_neg h7, if_neg h21, if_neg h35, if_neg h50, if_neg h65, if_neg h79]; done)
        · refine J_bipush (v := 7) dX2_countSeen_53 (by decide) ?_
          refine J_goto (tgt := 88) dX2_countSeen_55 rfl ?_
          refine J_ireturn dX2_countSeen_88 rfl rfl (by decide) (by decide) ?_
          refine ⟨congrArg (fun v => Sum.inl (some (Value.int v))) ?_, rfl, rfl⟩
          unfold cntS
          first | (rw [if_pos h7]; done) | (rw [if_neg h7, if_pos h21]; done) | (rw [if_neg h7, if_neg h21, if_pos h35]; done) | (rw [if_neg h7, if_neg h21, if_neg h35, if_pos h50]; done) | (rw [if_neg h7, if_neg h21, if_neg h35, if_neg h50, if_pos h65]; done) | (rw [if_neg h7, if_neg h21, if_neg h35, if_neg h50, if_neg h65, if_pos h79]; done) | (rw [if_neg h7, if_neg h21, if_neg h35, if_neg h50, if_neg h65, if_neg h79]; done)
      · refine J_bipush (v := 6) dX2_countSeen_38 (by decide) ?_
        refine J_goto (tgt := 88) dX2_countSeen_40 rfl ?_
        refine J_ireturn dX2_countSeen_88 rfl rfl (by decide) (by decide) ?_
        refine ⟨congrArg (fun v => Sum.inl (some (Value.int v))) ?_, rfl, rfl⟩
        unfold cntS
        first | (rw [if_pos h7]; done) | (rw [if_neg h7, if_pos h21]; done) | (rw [if_neg h7, if_neg h21, if_pos h35]; done) | (rw [if_neg h7, if_neg h21, if_neg h35, if_pos h50]; done) | (rw [if_neg h7, if_neg h21, if_neg h35, if_neg h50, if_pos h65]; done) | (rw [if_neg h7, if_neg h21, if_neg h35, if_neg h50, if_neg h65, if_pos h79]; done) | (rw [if_neg h7, if_neg h21, if_neg h35, if_neg h50, if_neg h65, if_neg h79]; done)
    · refine J_iconst (v := 2) dX2_countSeen_24 (by decide) ?_
      refine J_goto (tgt := 88) dX2_countSeen_25 rfl ?_
      refine J_ireturn dX2_countSeen_88 rfl rfl (by decide) (by decide) ?_
      refine ⟨congrArg (fun v => Sum.inl (some (Value.int v))) ?_, rfl, rfl⟩
      unfold cntS
      first | (rw [if_pos h7]; done) | (rw [if_neg h7, if_pos h21]; done) | (rw [if_neg h7, if_neg h21, if_pos h35]; done) | (rw [if_neg h7, if_neg h21, if_neg h35, if_pos h50]; done) | (rw [if_neg h7, if_neg h21, if_neg h35, if_neg h50, if_pos h65]; done) | (rw [if_neg h7, if_neg h21, if_neg h35, if_neg h50, if_neg h65, if_pos h79]; done) | (rw [if_neg h7, if_neg h21, if_neg h35, if_neg h50, if_neg h65, if_neg h79]; done)
  · refine J_iconst (v := 0) dX2_countSeen_10 (by decide) ?_
    refine J_goto (tgt := 88) dX2_countSeen_11 rfl ?_
    refine J_ireturn dX2_countSeen_88 rfl rfl (by decide) (by decide) ?_
    refine ⟨congrArg (fun v => Sum.inl (some (Value.int v))) ?_, rfl, rfl⟩
    unfold cntS
    first | (rw [if_pos h7]; done) | (rw [if_neg h7, if_pos h21]; done) | (rw [if_neg h7, if_neg h21, if_pos h35]; done) | (rw [if_neg h7, if_neg h21, if_neg h35, if_pos h50]; done) | (rw [if_neg h7, if_neg h21, if_neg h35, if_neg h50, if_pos h65]; done) | (rw [if_neg h7, if_neg h21, if_neg h35, if_neg h50, if_neg h65, if_pos h79]; done) | (rw [if_neg h7, if_neg h21, if_neg h35, if_neg h50, if_neg h65, if_neg h79]; done)
def cmpS (sg : Nat → Option Nat) (tok k : Nat) : Int32 := if seeP sg tok k 30 then 14 else if seeP sg tok k 31 then 15 else if seeP sg tok k 32 then 16 else if seeP sg tok k 33 then 17 else if seeP sg tok k 34 then 18 else 0
theorem c_X2_comparisonSeen (hst : l.stackTraces = false) (hD : xx_w b (layD bt bu b D) A) (hT : xx_w bt (layT sg bt T) A) {k : Nat} (hat : D.1 6 = nI k) {tok : Nat} (htok : T.1 5 = nI tok) (h401 : tok ≤ 401) (hk : k < 2 ^ 31) (hsg : ∀ q, q < tok → ∃ v, sg q = some v ∧ v < 39) : xx_C G l yX2_comparisonSeen mX2_comparisonSeen 1 21 0 0 [.ref b] A n (xx_ro (some (.int (cmpS sg tok k))) A n) := by
  refine J_C hst (by decide +kernel) rfl rfl rfl (Nat.le_of_ble_eq_true rfl) ?_
  show xx_J _ _ _ _ _ _ _ _ 0 [(0, _)] [] _ _ _ _
  refine J_aload_n dX2_comparisonSeen_0 rfl rfl ?_
  refine J_gets (v := .ref 30) dX2_comparisonSeen_1 (gs_mem 30 (by decide)) (show (30 : Nat) < 200 by decide) sl_X2_193 ?_
  refine J_callVr (As := [_]) dX2_comparisonSeen_4 ml_X2_57 cal_X2_sees im_X2_sees se_X2_sees (hD.at 0 rfl) rfl rfl rfl (Nat.le_of_ble_eq_true rfl) ⟨by decide, by decide⟩ ⟨by decide, by decide⟩ (c_X2_sees hst hD hT hat htok h401 hk hsg (v := 30) (by first | assumption | decide)) ?_
  refine J_ifb_eq (tgt := 15) dX2_comparisonSeen_7 rfl (fun h7 => ?_) (fun h7 => ?_)
  · refine J_aload_n dX2_comparisonSeen_15 rfl rfl ?_
    refine J_gets (v := .ref 31) dX2_comparisonSeen_16 (gs_mem 31 (by decide)) (show (31 : Nat) < 200 by decide) sl_X2_196 ?_
    refine J_callVr (As := [_]) dX2_comparisonSeen_19 ml_X2_57 cal_X2_sees im_X2_sees se_X2_sees (hD.at 0 rfl) rfl rfl rfl (Nat.le_of_ble_eq_true rfl) ⟨by decide, by decide⟩ ⟨by decide, by decide⟩ (c_X2_sees hst hD hT hat htok h401 hk hsg (v := 31) (by first | assumption | decide)) ?_
    refine J_ifb_eq (tgt := 30) dX2_comparisonSeen_22 rfl (fun h22 => ?_) (fun h22 => ?_)
    · refine J_aload_n dX2_comparisonSeen_30 rfl rfl ?_
      refine J_gets (v := .ref 32) dX2_comparisonSeen_31 (gs_mem 32 (by decide)) (show (32 : Nat) < 200 by decide) sl_X2_199 ?_
      refine J_callVr (As := [_]) dX2_comparisonSeen_34 ml_X2_57 cal_X2_sees im_X2_sees se_X2_sees (hD.at 0 rfl) rfl rfl rfl (Nat.le_of_ble_eq_true rfl) ⟨by decide, by decide⟩ ⟨by decide, by decide⟩ (c_X2_sees hst hD hT hat htok h401 hk hsg (v := 32) (by first | assumption | decide)) ?_
      refine J_ifb_eq (tgt := 45) dX2_comparisonSeen_37 rfl (fun h37 => ?_) (fun h37 => ?_)
      · refine J_aload_n dX2_comparisonSeen_45 rfl rfl ?_
        refine J_gets (v := .ref 33) dX2_comparisonSeen_46 (gs_mem 33 (by decide)) (show (33 : Nat) < 200 by decide) sl_X2_202 ?_
        refine J_callVr (As := [_]) dX2_comparisonSeen_49 ml_X2_57 cal_X2_sees im_X2_sees se_X2_sees (hD.at 0 rfl) rfl rfl rfl (Nat.le_of_ble_eq_true rfl) ⟨by decide, by decide⟩ ⟨by decide, by decide⟩ (c_X2_sees hst hD hT hat htok h401 hk hsg (v := 33) (by first | assumption | decide)) ?_
        refine J_ifb_eq (tgt := 60) dX2_comparisonSeen_52 rfl (fun h52 => ?_) (fun h52 => ?_)
        · refine J_aload_n dX2_comparisonSeen_60 rfl rfl ?_
          refine J_gets (v := .ref 34) dX2_comparisonSeen_61 (gs_mem 34 (by decide)) (show (34 : Nat) < 200 by decide) sl_X2_205 ?_
          refine J_callVr (As := [_]) dX2_comparisonSeen_64 ml_X2_57 cal_X2_sees im_X2_sees se_X2_sees (hD.at 0 rfl) rfl rfl rfl (Nat.le_of_ble_eq_true rfl) ⟨by decide, by decide⟩ ⟨by decide, by decide⟩ (c_X2_sees hst hD hT hat htok h401 hk hsg (v := 34) (by first | assumption | decide)) ?_
          refine J_ifb_eq (tgt := 75) dX2_comparisonSeen_67 rfl (fun h67 => ?_) (fun h67 => ?_)
          · refine J_iconst (v := 0) dX2_comparisonSeen_75 (by decide) ?_
            refine J_ireturn dX2_comparisonSeen_76 rfl rfl (by decide) (by decide) ?_
            refine ⟨congrArg (fun v => Sum.inl (some (Value.int v))) ?_, rfl, rfl⟩
            unfold cmpS
            first | (rw [if_pos h7]; done) | (rw [if_neg h7, if_pos h22]; done) | (rw [if_neg h7, if_neg h22, if_pos h37]; done) | (rw [if_neg h7, if_neg h22, if_neg h37, if_pos h52]; done) | (rw [if_neg h7, if_neg h22, if_neg h37, if_neg h52, if_pos h67]; done) | (rw [if_neg h7, if_neg h22, if_neg h37, if_neg h52, if_neg h67]; done)
          · refine J_bipush (v := 18) dX2_comparisonSeen_70 (by decide) ?_
            refine J_goto (tgt := 76) dX2_comparisonSeen_72 rfl ?_
            refine J_ireturn dX2_comparisonSeen_76 rfl rfl (by decide) (by decide) ?_
            refine ⟨congrArg (fun v => Sum.inl (some (Value.int v))) ?_, rfl, rfl⟩
            unfold cmpS
            first | (rw [if_pos h7]; done) | (rw [if_neg h7, if_pos h22]; done) | (rw [if_neg h7, if_neg h22, if_pos h37]; done) | (rw [if_neg h7, if_neg h22, if_neg h37, if_pos h52]; done) | (rw [if_neg h7, if_neg h22, if_neg h37, if_neg h52, if_pos h67]; done) | (rw [if_neg h7, if_neg h22, if_neg h37, if_neg h52, if_neg h67]; done)
        · refine J_bipush (v := 17) dX2_comparisonSeen_55 (by decide) ?_
          refine J_goto (tgt := 76) dX2_comparisonSeen_57 rfl ?_
          refine J_ireturn dX2_comparisonSeen_76 rfl rfl (by decide) (by decide) ?_
          refine ⟨congrArg (fun v => Sum.inl (some (Value.int v))) ?_, rfl, rfl⟩
          unfold cmpS
          first | (rw [if_pos h7]; done) | (rw [if_neg h7, if_pos h22]; done) | (rw [if_neg h7, if_neg h22, if_pos h37]; done) | (rw [if_neg h7, if_neg h22, if_neg h37, if_pos h52]; done) | (rw [if_neg h7, if_neg h22, if_neg h37, if_neg h52, if_pos h67]; done) | (rw [if_neg h7, if_neg h22, if_neg h37, if_neg h52, if_neg h67]; done)
      · refine J_bipush (v := 16) dX2_comparisonSeen_40 (by decide) ?_
        refine J_goto (tgt := 76) dX2_comparisonSeen_42 rfl ?_
        refine J_ireturn dX2_comparisonSeen_76 rfl rfl (by decide) (by decide) ?_
        refine ⟨congrArg (fun v => Sum.inl (some (Value.int v))) ?_, rfl, rfl⟩
        unfold cmpS
        first | (rw [if_pos h7]; done) | (rw [if_neg h7, if_pos h22]; done) | (rw [if_neg h7, if_neg h22, if_pos h37]; done) | (rw [if_neg h7, if_neg h22, if_neg h37, if_pos h52]; done) | (rw [if_neg h7, if_neg h22, if_neg h37, if_neg h52, if_pos h67]; done) | (rw [if_neg h7, if_neg h22, if_neg h37, if_neg h52, if_neg h67]; done)
    · refine J_bipush (v := 15) dX2_comparisonSeen_25 (by decide) ?_
      refine J_goto (tgt := 76) dX2_comparisonSeen_27 rfl ?_
      refine J_ireturn dX2_comparisonSeen_76 rfl rfl (by decide) (by decide) ?_
      refine ⟨congrArg (fun v => Sum.inl (some (Value.int v))) ?_, rfl, rfl⟩
      unfold cmpS
      first | (rw [if_pos h7]; done) | (rw [if_neg h7, if_pos h22]; done) | (rw [if_neg h7, if_neg h22, if_pos h37]; done) | (rw [if_neg h7, if_neg h22, if_neg h37, if_pos h52]; done) | (rw [if_neg h7, if_neg h22, if_neg h37, if_neg h52, if_pos h67]; done) | (rw [if_neg h7, if_neg h22, if_neg h37, if_neg h52, if_neg h67]; done)
  · refine J_bipush (v := 14) dX2_comparisonSeen_10 (by decide) ?_
    refine J_goto (tgt := 76) dX2_comparisonSeen_12 rfl ?_
    refine J_ireturn dX2_comparisonSeen_76 rfl rfl (by decide) (by decide) ?_
    refine ⟨congrArg (fun v => Sum.inl (some (Value.int v))) ?_, rfl, rfl⟩
    unfold cmpS
    first | (rw [if_pos h7]; done) | (rw [if_neg h7, if_pos h22]; done) | (rw [if_neg h7, if_neg h22, if_pos h37]; done) | (rw [if_neg h7, if_neg h22, if_neg h37, if_pos h52]; done) | (rw [if_neg h7, if_neg h22, if_neg h37, if_neg h52, if_pos h67]; done) | (rw [if_neg h7, if_neg h22, if_neg h37, if_neg h52, if_neg h67]; done)
/-- the first error only -/
def neD (D T : xS) (e : Int32) (t : Nat) : xS := if D.1 7 = 0 then s_up (s_up D 7 e) 8 (T.2 3 t) else D
theorem c_X2_noteError (hst : l.stackTraces = false) (hD : xx_w b (layD bt bu b D) A) (hT : xx_w bt (layT sg bt T) A) (hdd : bt + 5 ≤ b ∨ b + 4 ≤ bt) {tok : Nat} (htok : T.1 5 = nI tok) (h401 : tok ≤ 401) (e : Int32) {t : Nat} {y : Int32} (hy : y = nI t) (ht : t < tok) : xx_C G l yX2_noteError mX2_noteError 2 42 0 0 [.ref b, .int e, .int y] A n (xx_wr none n (fun A' => xx_w b (layD bt bu b (neD D T e t)) A' ∧ xx_same b (b + 4) A A')) := by
  refine J_C hst (by decide +kernel) rfl rfl rfl (Nat.le_of_ble_eq_true rfl) ?_
  show xx_J _ _ _ _ _ _ _ _ 0 [(0, _), (1, _), (2, _)] [] _ _ _ _
  refine J_aload_n dX2_noteError_0 rfl rfl ?_
  refine J_getf dX2_noteError_1 fl_X2_42 (hD.at 0 rfl) rfl ?_
  refine J_if_ne (tgt := 24) dX2_noteError_4 rfl (fun h4 => ?_) (fun h4 => ?_)
  · refine J_return dX2_noteError_24 rfl (by decide) (by decide) ?_
    refine ⟨rfl, rfl, ?_, (xx_same.rf (b := b) (e := b + 4))⟩
    unfold neD
    first | (rw [if_neg h4]; exact hD) | (rw [if_pos h4]; exact hD)
  · refine J_aload_n dX2_noteError_7 rfl rfl ?_
    refine J_iload_n dX2_noteError_8 rfl rfl ?_
    refine J_putf dX2_noteError_9 fp_X2_42 (fun _ => ⟨rfl, rfl⟩) (hD.at 0 rfl) (Nat.le_of_ble_eq_true rfl) ?_
    refine J_gen (wD_s0_7 hD _) ((xx_same.rf (b := b) (e := b + 4)).put (by omega) (by omega) _) (fun A1 w1 s1 o1 => ?_)
    have w1T := hT.o2 o1 (m := 5) rfl (by omega)
    refine J_aload_n dX2_noteError_12 rfl rfl ?_
    refine J_aload_n dX2_noteError_13 rfl rfl ?_
    refine J_getf dX2_noteError_14 fl_X2_12 (w1.at 0 rfl) rfl ?_
    refine J_iload_n dX2_noteError_17 rfl rfl ?_
    refine J_callVr (As := [_]) dX2_noteError_18 ml_X2_86 cal_X5_start im_X5_start se_X5_start (w1T.at 0 rfl) rfl rfl rfl (Nat.le_of_ble_eq_true rfl) ⟨by decide, by decide⟩ ⟨by decide, by decide⟩ (c_X5_start hst w1T htok h401 hy ht) ?_
    refine J_putf dX2_noteError_21 fp_X2_45 (fun _ => ⟨rfl, rfl⟩) (w1.at 0 rfl) (Nat.le_of_ble_eq_true rfl) ?_
    refine J_gen (wD_s0_8 w1 _) (s1.put (by omega) (by omega) _) (fun A2 w2 s2 o2 => ?_)
    have w2T := w1T.o2 o2 (m := 5) rfl (by omega)
    refine J_return dX2_noteError_24 rfl (by decide) (by decide) ?_
    refine ⟨rfl, rfl, ?_, s2⟩
    unfold neD
    first | (rw [if_neg h4]; exact w2) | (rw [if_pos h4]; exact w2)
/-- a number is taken -/
def tnE (D T : xS) (v lo hi : Int32) (k : Nat) : xS := if v < lo ∨ hi < v then neD D T 5 k else D
def tnD (D T : xS) (v lo hi : Int32) (k : Nat) : xS := s_up (tnE D T v lo hi k) 6 ((tnE D T v lo hi k).1 6 + 1)
theorem c_X2_takeNumber (hst : l.stackTraces = false) (hD : xx_w b (layD bt bu b D) A) (hT : xx_w bt (layT sg bt T) A) (hdd : bt + 5 ≤ b ∨ b + 4 ≤ bt) {k : Nat} (hat : D.1 6 = nI k) {tok : Nat} (htok : T.1 5 = nI tok) (h401 : tok ≤ 401) (hk : k < 2 ^ 31) {len : Nat} (hlen : T.1 1 = nI len) (h20 : len ≤ 2000) (hkt : k < tok) (hg : sg k = some 36) {s e : Nat} (hs : T.2 3 k = nI s) (he : T.2 4 k = nI e) (hse : s ≤ e) (hel : e ≤ len) (lo hi : Int32) : xx_C G l yX2_takeNumber mX2_takeNumber 3 64 0 0 [.ref b, .int lo, .int hi] A n (xx_wr (some (.int (nmF T len (e - s) s 0))) n (fun A' => xx_w b (layD bt bu b (tnD D T (nmF T len (e - s) s 0) lo hi k)) A' ∧ xx_same b (b + 4) A A')) := by
  refine J_C hst (by decide +kernel) rfl rfl rfl (Nat.le_of_ble_eq_true rfl) ?_
  show xx_J _ _ _ _ _ _ _ _ 0 [(0, _), (1, _), (2, _)] [] _ _ _ _
  refine J_aload_n dX2_takeNumber_0 rfl rfl ?_
  refine J_getf dX2_takeNumber_1 fl_X2_12 (hD.at 0 rfl) rfl ?_
  refine J_aload_n dX2_takeNumber_4 rfl rfl ?_
  refine J_getf dX2_takeNumber_5 fl_X2_39 (hD.at 0 rfl) rfl ?_
  refine J_callVr (As := [_]) dX2_takeNumber_8 ml_X2_226 cal_X5_number im_X5_number se_X5_number (hT.at 0 rfl) rfl rfl rfl (Nat.le_of_ble_eq_true rfl) ⟨by decide, by decide⟩ ⟨by decide, by decide⟩ (c_X5_number hst hT hlen h20 htok h401 hat hkt hg hs he hse hel) ?_
  refine J_istore_n (L' := [(3, _), (0, _), (1, _), (2, _)]) dX2_takeNumber_11 rfl (by decide) rfl ?_
  refine J_iload_n dX2_takeNumber_12 rfl rfl ?_
  refine J_iload_n dX2_takeNumber_13 rfl rfl ?_
  refine J_icmp_lt (tgt := 22) dX2_takeNumber_14 rfl (fun h14 => ?_) (fun h14 => ?_)
  · have hh : nmF T len (e - s) s 0 < lo ∨ hi < nmF T len (e - s) s 0 := Or.inl h14
    refine J_aload_n dX2_takeNumber_22 rfl rfl ?_
    refine J_iconst (v := 5) dX2_takeNumber_23 (by decide) ?_
    refine J_aload_n dX2_takeNumber_24 rfl rfl ?_
    refine J_getf dX2_takeNumber_25 fl_X2_39 (hD.at 0 rfl) rfl ?_
    refine J_callVw (As := [_, _]) dX2_takeNumber_28 ml_X2_116 cal_X2_noteError im_X2_noteError se_X2_noteError (hD.at 0 rfl) rfl rfl rfl (Nat.le_of_ble_eq_true rfl) ⟨by decide, by decide⟩ ⟨by decide, by decide⟩ (c_X2_noteError hst hD hT hdd htok h401 5 hat hkt) (fun A1 hQ1 => ?_)
    have w1T := hT.s2 hQ1.2 (m := 5) rfl (by omega)
    refine J_aload_n dX2_takeNumber_31 rfl rfl ?_
    refine J_dup dX2_takeNumber_32 rfl ?_
    refine J_getf dX2_takeNumber_33 fl_X2_39 (hQ1.1.at 0 rfl) rfl ?_
    refine J_iconst (v := 1) dX2_takeNumber_36 (by decide) ?_
    refine J_iadd dX2_takeNumber_37 ?_
    refine J_putf dX2_takeNumber_38 fp_X2_39 (fun _ => ⟨rfl, rfl⟩) (hQ1.1.at 0 rfl) (Nat.le_of_ble_eq_true rfl) ?_
    refine J_gen (wD_s0_6 hQ1.1 _) (((xx_same.rf (b := b) (e := b + 4)).trans (hQ1.2.wide (by omega) (by omega))).put (by omega) (by omega) _) (fun A2 w2 s2 o2 => ?_)
    have w2T := w1T.o2 o2 (m := 5) rfl (by omega)
    refine J_iload_n dX2_takeNumber_41 rfl rfl ?_
    refine J_ireturn dX2_takeNumber_42 rfl rfl (by decide) (by decide) ?_
    refine ⟨rfl, rfl, ?_, s2⟩
    unfold tnD tnE
    first | (rw [if_pos hh]; exact w2) | (rw [if_neg hh]; exact w2)
  · refine J_iload_n dX2_takeNumber_17 rfl rfl ?_
    refine J_iload_n dX2_takeNumber_18 rfl rfl ?_
    refine J_icmp_le (tgt := 31) dX2_takeNumber_19 rfl (fun h19 => ?_) (fun h19 => ?_)
    · have hh : ¬ (nmF T len (e - s) s 0 < lo ∨ hi < nmF T len (e - s) s 0) := fun z => z.elim h14 (Int32.not_lt.mpr h19)
      refine J_aload_n dX2_takeNumber_31 rfl rfl ?_
      refine J_dup dX2_takeNumber_32 rfl ?_
      refine J_getf dX2_takeNumber_33 fl_X2_39 (hD.at 0 rfl) rfl ?_
      refine J_iconst (v := 1) dX2_takeNumber_36 (by decide) ?_
      refine J_iadd dX2_takeNumber_37 ?_
      refine J_putf dX2_takeNumber_38 fp_X2_39 (fun _ => ⟨rfl, rfl⟩) (hD.at 0 rfl) (Nat.le_of_ble_eq_true rfl) ?_
      refine J_gen (wD_s0_6 hD _) ((xx_same.rf (b := b) (e := b + 4)).put (by omega) (by omega) _) (fun A3 w3 s3 o3 => ?_)
      have w3T := hT.o2 o3 (m := 5) rfl (by omega)
      refine J_iload_n dX2_takeNumber_41 rfl rfl ?_
      refine J_ireturn dX2_takeNumber_42 rfl rfl (by decide) (by decide) ?_
      refine ⟨rfl, rfl, ?_, s3⟩
      unfold tnD tnE
      first | (rw [if_pos hh]; exact w3) | (rw [if_neg hh]; exact w3)
    · have hh : nmF T len (e - s) s 0 < lo ∨ hi < nmF T len (e - s) s 0 := Or.inr (Int32.not_le.mp h19)
      refine J_aload_n dX2_takeNumber_22 rfl rfl ?_
      refine J_iconst (v := 5) dX2_takeNumber_23 (by decide) ?_
      refine J_aload_n dX2_takeNumber_24 rfl rfl ?_
      refine J_getf dX2_takeNumber_25 fl_X2_39 (hD.at 0 rfl) rfl ?_
      refine J_callVw (As := [_, _]) dX2_takeNumber_28 ml_X2_116 cal_X2_noteError im_X2_noteError se_X2_noteError (hD.at 0 rfl) rfl rfl rfl (Nat.le_of_ble_eq_true rfl) ⟨by decide, by decide⟩ ⟨by decide, by decide⟩ (c_X2_noteError hst hD hT hdd htok h401 5 hat hkt) (fun A4 hQ4 => ?_)
      have w4T := hT.s2 hQ4.2 (m := 5) rfl (by omega)
      refine J_aload_n dX2_takeNumber_31 rfl rfl ?_
      refine J_dup dX2_takeNumber_32 rfl ?_
      refine J_getf dX2_takeNumber_33 fl_X2_39 (hQ4.1.at 0 rfl) rfl ?_
      refine J_iconst (v := 1) dX2_takeNumber_36 (by decide) ?_
      refine J_iadd dX2_takeNumber_37 ?_
      refine J_putf dX2_takeNumber_38 fp_X2_39 (fun _ => ⟨rfl, rfl⟩) (hQ4.1.at 0 rfl) (Nat.le_of_ble_eq_true rfl) ?_
      refine J_gen (wD_s0_6 hQ4.1 _) (((xx_same.rf (b := b) (e := b + 4)).trans (hQ4.2.wide (by omega) (by omega))).put (by omega) (by omega) _) (fun A5 w5 s5 o5 => ?_)
      have w5T := w4T.o2 o5 (m := 5) rfl (by omega)
      refine J_iload_n dX2_takeNumber_41 rfl rfl ?_
      refine J_ireturn dX2_takeNumber_42 rfl rfl (by decide) (by decide) ?_
      refine ⟨rfl, rfl, ?_, s5⟩
      unfold tnD tnE
      first | (rw [if_pos hh]; exact w5) | (rw [if_neg hh]; exact w5)
/-- the reader begins to read -/
def bgD (D : xS) : xS := a_up (a_up (a_up (s_up (s_up (s_up (s_up D 6 0) 7 0) 8 (-1)) 5 0) 3 (upd (D.2 3) 0 2)) 3 (upd (upd (D.2 3) 0 2) 1 1)) 3 (upd (upd (upd (D.2 3) 0 2) 1 1) 2 2)
end XRD
