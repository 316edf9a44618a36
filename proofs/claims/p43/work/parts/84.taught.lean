/-! taught: a text goes to the tape, and is taught -/
section XTG
variable {G : xx_G} {l : Launch} {A A' : xx_H} {n : Nat} {k j i q s e t d : Nat}
/-- a char of the text, blanks behind it -/
def cT (f : Nat → Int32) (L p : Nat) : Int32 := if p < L then f p else 32
/-- four chars as an int -/
def w4p (f : Nat → Int32) (L p : Nat) : Nat → Int32
  | 0 => 0
  | t + 1 => (w4p f L p t <<< ((8 : Int32) &&& 31)) ||| cT f L (p + t)
abbrev w4 (f : Nat → Int32) (L p : Nat) : Int32 := w4p f L p 4
/-- the tape behind so many feeds -/
def tpF (f : Nat → Int32) (L : Nat) (T : xS) : Nat → xS
  | 0 => T
  | i + 1 => tFeed (tpF f L T i) (20 * i) (w4 f L (20 * i)) (w4 f L (20 * i + 4)) (w4 f L (20 * i + 8)) (w4 f L (20 * i + 12)) (w4 f L (20 * i + 16))
theorem tpF_1 {f : Nat → Int32} {L : Nat} {T : xS} (h : T.1 1 = 0) : ∀ i, 20 * i ≤ 2000 → (tpF f L T i).1 1 = nI (20 * i) := by
  intro i
  induction i with
  | zero => intro _; exact h
  | succ i ih =>
    intro h9
    have z := tFeed_1 (ih (by omega)) (v0 := w4 f L (20 * i)) (v1 := w4 f L (20 * i + 4)) (v2 := w4 f L (20 * i + 8)) (v3 := w4 f L (20 * i + 12)) (v4 := w4 f L (20 * i + 16))
    show (tFeed (tpF f L T i) (20 * i) _ _ _ _ _).1 1 = _
    rw [z]
    unfold nFeed
    rw [if_pos (by omega)]
    exact congrArg nI (by omega)
/-- what taught leaves: as teach, over the tape that holds the text -/
def tgQ (f : Nat → Int32) (L : Nat) (T : xS) (b n : Nat) (A : xx_H) : xx_Q := fun r A' n' => ∃ (A2 : xx_H) (R F : xS), xx_w (b + 16) (layR (b + 16) R) A2 ∧ xx_w (b + 22) (layF (b + 22) F) A2 ∧ n' = n + 1 ∧ (∀ z, z < n → (z < b + 2 ∨ b + 7 ≤ z) → A2 z = A z) ∧ tcX (tTrim (tpF f L T ((L + 19) / 20)) (20 * ((L + 19) / 20)) (nI L)) L b n' R F A2 r A' n'
set_option maxRecDepth 100000 in
set_option maxHeartbeats 8000000 in
theorem c_L_taught (hst : l.stackTraces = false) {b h v L : Nat} {f : Nat → Int32} {sg : Nat → Option Nat} {T R F : xS} (hL : L ≤ 900) (hX : xx_w b (layX b) A) (hT : xx_w (b + 2) (layT sg (b + 2) T) A) (hT0 : T.1 1 = 0) (hR : xx_w (b + 16) (layR (b + 16) R) A) (hF : xx_w (b + 22) (layF (b + 22) F) A)
    (hRd : ∀ A2 : xx_H, (∀ z, z < n → (z < b + 2 ∨ b + 7 ≤ z) → A2 z = A z) → ∀ T2, xx_w (b + 2) (layT sg (b + 2) T2) A2 → ∃ D R0, rdW (b + 1) D T2 R0 sg A2)
    (tA : A h = some (oT v)) (tB : A v = some (rB L f)) (hch : ∀ p, p < L → ∃ c, f p = nI c ∧ c < 128) (hb1 : b + 46 ≤ h) (hb2 : b + 46 ≤ v) (hbn : b + 46 ≤ n) : xx_C G l yL_taught mL_taught 58 1540 50 300 [.ref b, .ref h] A n (tgQ f L T b n A) := by
  refine J_C hst (by decide +kernel) rfl rfl rfl (Nat.le_of_ble_eq_true rfl) ?_
  show xx_J _ _ _ _ _ _ _ _ 0 [(0, _), (1, _)] [] _ _ _ _
  refine J_ltA (fun lt0 => ?_)
  have hhl := lt0 _ _ tA
  have hvl := lt0 _ _ tB
  have hhn : ¬ h = n := by omega
  have hvn : ¬ v = n := by omega
  have hTl : ∀ (q o : Nat) (e : va_E) (T9 : xS), (layT sg (b + 2) T9)[q]? = some (o, e) → b + 2 + o < b + 7 := fun q o e T9 he => by
    have : q < 5 := by have z := (List.getElem?_eq_some_iff.mp he).1; exact z
    rcases (show q = 0 ∨ q = 1 ∨ q = 2 ∨ q = 3 ∨ q = 4 by omega) with rfl | rfl | rfl | rfl | rfl <;> (simp only [layT, List.getElem?_cons_zero, List.getElem?_cons_succ, Option.some.injEq, Prod.mk.injEq] at he; omega)
  have hRl : ∀ (q o : Nat) (e : va_E), (layR (b + 16) R)[q]? = some (o, e) → b + 16 + o < b + 46 := fun q o e he => by
    have : q < 6 := by have z := (List.getElem?_eq_some_iff.mp he).1; exact z
    rcases (show q = 0 ∨ q = 1 ∨ q = 2 ∨ q = 3 ∨ q = 4 ∨ q = 5 by omega) with rfl | rfl | rfl | rfl | rfl | rfl <;> (simp only [layR, List.getElem?_cons_zero, List.getElem?_cons_succ, Option.some.injEq, Prod.mk.injEq] at he; omega)
  have hFl : ∀ (q o : Nat) (e : va_E), (layF (b + 22) F)[q]? = some (o, e) → b + 22 + o < b + 46 := fun q o e he => by
    have : q < 9 := by have z := (List.getElem?_eq_some_iff.mp he).1; exact z
    rcases (show q = 0 ∨ q = 1 ∨ q = 2 ∨ q = 3 ∨ q = 4 ∨ q = 5 ∨ q = 6 ∨ q = 7 ∨ q = 8 by omega) with rfl | rfl | rfl | rfl | rfl | rfl | rfl | rfl | rfl <;> (simp only [layF, List.getElem?_cons_zero, List.getElem?_cons_succ, Option.some.injEq, Prod.mk.injEq] at he; omega)
  have inner : ∀ (i y : Nat), 20 * i < L → y < 5 → ∀ (K9 J9 : Nat), (K9 ≤ 49 ∧ J9 ≤ 290) → ∀ (A2 : xx_H), A2 h = some (oT v) → A2 v = some (rB L f) → ∀ (g0 : Nat → Int32), (∀ (A3 : xx_H) (g : Nat → Int32), A3 n = some (.inl (0, 5, .inl g)) → g y = w4 f L (20 * i + 4 * y) → (∀ p, p < y → g p = g0 p) → (∀ z, ¬ z = n → A3 z = A2 z) → xx_J G l mL_taught 58 1540 50 300 (tgQ f L T b n A) 87 [(4, .int (nI y)), (3, .int (nI (20 * i))), (2, .ref n), (0, .ref b), (1, .ref h)] [] A3 (n + 1) K9 J9) → ∀ t, t ≤ 4 → ∀ (x5 : Int32) (A3 : xx_H) (g : Nat → Int32), x5 = nI (20 * i + 4 * y + t) → A3 n = some (.inl (0, 5, .inl g)) → g y = w4p f L (20 * i + 4 * y) t → (∀ p, p < y → g p = g0 p) → (∀ z, ¬ z = n → A3 z = A2 z) → xx_J G l mL_taught 58 1540 50 300 (tgQ f L T b n A) 36 [(5, .int x5), (4, .int (nI y)), (3, .int (nI (20 * i))), (2, .ref n), (0, .ref b), (1, .ref h)] [] A3 (n + 1) K9 J9 := by
    intro i y hiL hy5 K9 J9 hKJ A2 tA2 tB2 g0 kk
    refine xx_dn ?_ ?_
    · intro x5 A3 g hx hg hgy hgp hz3
      have ex : x5.toInt = (20 * i + 4 * y + 4 : Nat) := by rw [hx]; exact i_n (by omega)
      have e4 : (nI (20 * i + 4 * y + 4)).toInt = (20 * i + 4 * y + 4 : Nat) := i_n (by omega)
      refine J_iload dL_taught_36 rfl ?_
      refine J_iload_n dL_taught_38 rfl rfl ?_
      refine J_iconst (v := 4) dL_taught_39 (by decide) ?_
      refine J_iload dL_taught_40 rfl ?_
      refine J_imul dL_taught_42 ?_
      refine J_iadd dL_taught_43 ?_
      rw [show (4 : Int32) * nI y = nI (4 * y) from nI_mul 4 y, nI_add]
      refine J_iconst (v := 4) dL_taught_44 (by decide) ?_
      refine J_iadd dL_taught_45 ?_
      rw [show nI (20 * i + 4 * y) + (4 : Int32) = nI (20 * i + 4 * y + 4) from nI_add _ 4]
      refine J_icmp_ge (tgt := 87) dL_taught_46 rfl (fun h46 => ?_) (fun h46 => ?_)
      · refine xx_J.pick [1, 2, 3, 4, 5] rfl ?_
        exact kk A3 g hg hgy hgp hz3
      · first | (exfalso; simp only [i_lt, i_le, i_eq, i_0, i_1, i_2, i_3, i_4, i_5, i_6, i_8, i_9, i_10, i_12, i_16, i_20, i_m1] at h46; omega) | (exfalso; simp only [s_up, a_up, va_up, i_lt, i_le, i_eq, i_0, i_1, i_2, i_3, i_4, i_5, i_6, i_8, i_9, i_10, i_12, i_16, i_20, i_m1, ↓reduceIte, Nat.reduceEqDiff] at h46; omega)
    · intro t ht ih x5 A3 g hx hg hgy hgp hz3
      subst hx
      have ex : (nI (20 * i + 4 * y + t)).toInt = (20 * i + 4 * y + t : Nat) := i_n (by omega)
      have e4 : (nI (20 * i + 4 * y + 4)).toInt = (20 * i + 4 * y + 4 : Nat) := i_n (by omega)
      have eL : (nI L).toInt = (L : Nat) := i_n (by omega)
      have tA1 := (hz3 h hhn).trans tA2
      have tB1 := (hz3 v hvn).trans tB2
      refine J_iload dL_taught_36 rfl ?_
      refine J_iload_n dL_taught_38 rfl rfl ?_
      refine J_iconst (v := 4) dL_taught_39 (by decide) ?_
      refine J_iload dL_taught_40 rfl ?_
      refine J_imul dL_taught_42 ?_
      refine J_iadd dL_taught_43 ?_
      rw [show (4 : Int32) * nI y = nI (4 * y) from nI_mul 4 y, nI_add]
      refine J_iconst (v := 4) dL_taught_44 (by decide) ?_
      refine J_iadd dL_taught_45 ?_
      rw [show nI (20 * i + 4 * y) + (4 : Int32) = nI (20 * i + 4 * y + 4) from nI_add _ 4]
      refine J_icmp_ge (tgt := 87) dL_taught_46 rfl (fun h46 => ?_) (fun h46 => ?_)
      · first | (exfalso; simp only [i_lt, i_le, i_eq, i_0, i_1, i_2, i_3, i_4, i_5, i_6, i_8, i_9, i_10, i_12, i_16, i_20, i_m1] at h46; omega) | (exfalso; simp only [s_up, a_up, va_up, i_lt, i_le, i_eq, i_0, i_1, i_2, i_3, i_4, i_5, i_6, i_8, i_9, i_10, i_12, i_16, i_20, i_m1, ↓reduceIte, Nat.reduceEqDiff] at h46; omega)
      · refine J_aload_n dL_taught_49 rfl rfl ?_
        refine J_iload dL_taught_50 rfl ?_
        refine J_aload_n dL_taught_52 rfl rfl ?_
        refine J_iload dL_taught_53 rfl ?_
        refine J_ialdN (y) dL_taught_55 hg rfl (by omega) (by decide) ?_
        refine J_bipush (v := 8) dL_taught_56 (by decide) ?_
        refine J_ishl dL_taught_58 ?_
        refine J_iload dL_taught_59 rfl ?_
        refine J_aload_n dL_taught_61 rfl rfl ?_
        refine J_callVr (As := []) dL_taught_62 ml_L_9 cal_J0_length_8abf5 im_J0_length_8abf5 se_J0_length_8abf5 tA1 rfl rfl rfl (Nat.le_of_ble_eq_true rfl) ⟨by decide, by decide⟩ ⟨by omega, by omega⟩ (cH_J0_length hst tA1 tB1 (by omega)) ?_
        refine J_icmp_ge (tgt := 77) dL_taught_65 rfl (fun h65 => ?_) (fun h65 => ?_)
        · have hcL : ¬ 20 * i + 4 * y + t < L := by simp only [i_le, i_lt, ex, eL] at h65; omega
          refine J_bipush (v := 32) dL_taught_77 (by decide) ?_
          refine J_ior dL_taught_79 ?_
          have hcv : (32 : Int32) = cT f L (20 * i + 4 * y + t) := by unfold cT; rw [if_neg hcL]
          rw [hcv, hgy]
          refine J_iastQ y dL_taught_80 hg rfl (by omega) (by decide) (fun A4 g4 o4 => ?_)
          refine J_iinc (v := _ + 1) (L' := [(5, _), (4, _), (3, _), (2, _), (0, _), (1, _)]) dL_taught_81 rfl rfl (by decide) rfl ?_
          refine J_goto (tgt := 36) dL_taught_84 rfl ?_
          refine xx_J.pick [0, 1, 2, 3, 4, 5] rfl ?_
          exact ih _ A4 _ (nI_1 _) g4 pk_us (fun p hp => (pk_un (by omega)).trans (hgp p hp)) (fun z hz => (o4 z hz).trans (hz3 z hz))
        · have hcL : 20 * i + 4 * y + t < L := by simp only [i_le, i_lt, ex, eL] at h65; omega
          refine J_aload_n dL_taught_68 rfl rfl ?_
          refine J_iload dL_taught_69 rfl ?_
          obtain ⟨cc, hcc, hc8⟩ := hch _ hcL
          refine J_callVr (As := [_]) dL_taught_71 ml_L_15 cal_J0_charAt_5068e im_J0_charAt_5068e se_J0_charAt_5068e tA1 rfl rfl rfl (Nat.le_of_ble_eq_true rfl) ⟨by decide, by decide⟩ ⟨by omega, by omega⟩ (cH_J0_charAt hst tA1 tB1 (by omega) rfl hcL hcc hc8) ?_
          refine J_goto (tgt := 79) dL_taught_74 rfl ?_
          refine J_ior dL_taught_79 ?_
          have hcv : nI cc = cT f L (20 * i + 4 * y + t) := by unfold cT; rw [if_pos hcL]; exact hcc.symm
          rw [hcv, hgy]
          refine J_iastQ y dL_taught_80 hg rfl (by omega) (by decide) (fun A4 g4 o4 => ?_)
          refine J_iinc (v := _ + 1) (L' := [(5, _), (4, _), (3, _), (2, _), (0, _), (1, _)]) dL_taught_81 rfl rfl (by decide) rfl ?_
          refine J_goto (tgt := 36) dL_taught_84 rfl ?_
          refine xx_J.pick [0, 1, 2, 3, 4, 5] rfl ?_
          exact ih _ A4 _ (nI_1 _) g4 pk_us (fun p hp => (pk_un (by omega)).trans (hgp p hp)) (fun z hz => (o4 z hz).trans (hz3 z hz))
  have middle : ∀ (i : Nat), 20 * i < L → ∀ (K9 J9 : Nat), (K9 ≤ 49 ∧ J9 ≤ 290) → ∀ (A1 : xx_H), A1 h = some (oT v) → A1 v = some (rB L f) → (∀ (A3 : xx_H) (g : Nat → Int32), A3 n = some (.inl (0, 5, .inl g)) → (∀ p, p < 5 → g p = w4 f L (20 * i + 4 * p)) → (∀ z, ¬ z = n → A3 z = A1 z) → xx_J G l mL_taught 58 1540 50 300 (tgQ f L T b n A) 93 [(3, .int (nI (20 * i))), (2, .ref n), (0, .ref b), (1, .ref h)] [] A3 (n + 1) K9 J9) → ∀ y, y ≤ 5 → ∀ (x4 : Int32) (A2 : xx_H) (g : Nat → Int32), x4 = nI y → A2 n = some (.inl (0, 5, .inl g)) → (∀ p, p < y → g p = w4 f L (20 * i + 4 * p)) → (∀ z, ¬ z = n → A2 z = A1 z) → xx_J G l mL_taught 58 1540 50 300 (tgQ f L T b n A) 17 [(4, .int x4), (3, .int (nI (20 * i))), (2, .ref n), (0, .ref b), (1, .ref h)] [] A2 (n + 1) K9 J9 := by
    intro i hiL K9 J9 hKJ A1 tA0 tB0 kk
    refine xx_dn ?_ ?_
    · intro x4 A2 g hx hg hgp hz2
      have ex : x4.toInt = 5 := by rw [hx]; exact i_n (by omega)
      refine J_iload dL_taught_17 rfl ?_
      refine J_iconst (v := 5) dL_taught_19 (by decide) ?_
      refine J_icmp_ge (tgt := 93) dL_taught_20 rfl (fun h20 => ?_) (fun h20 => ?_)
      · refine xx_J.pick [1, 2, 3, 4] rfl ?_
        exact kk A2 g hg hgp hz2
      · first | (exfalso; simp only [i_lt, i_le, i_eq, i_0, i_1, i_2, i_3, i_4, i_5, i_6, i_8, i_9, i_10, i_12, i_16, i_20, i_m1] at h20; omega) | (exfalso; simp only [s_up, a_up, va_up, i_lt, i_le, i_eq, i_0, i_1, i_2, i_3, i_4, i_5, i_6, i_8, i_9, i_10, i_12, i_16, i_20, i_m1, ↓reduceIte, Nat.reduceEqDiff] at h20; omega)
    · intro y hy5 ih x4 A2 g hx hg hgp hz2
      subst hx
      have ex : (nI y).toInt = y := i_n (by omega)
      have k87 : ∀ (A5 : xx_H) (g5 : Nat → Int32), A5 n = some (.inl (0, 5, .inl g5)) → g5 y = w4 f L (20 * i + 4 * y) → (∀ p, p < y → g5 p = g p) → (∀ z, ¬ z = n → A5 z = A2 z) → xx_J G l mL_taught 58 1540 50 300 (tgQ f L T b n A) 87 [(4, .int (nI y)), (3, .int (nI (20 * i))), (2, .ref n), (0, .ref b), (1, .ref h)] [] A5 (n + 1) K9 J9 := by
        intro A5 g5 hg5 hgy5 hgp5 hz5
        refine J_iinc (v := _ + 1) (L' := [(4, _), (3, _), (2, _), (0, _), (1, _)]) dL_taught_87 rfl rfl (by decide) rfl ?_
        refine J_goto (tgt := 17) dL_taught_90 rfl ?_
        refine xx_J.pick [0, 1, 2, 3, 4] rfl ?_
        exact ih _ A5 g5 (nI_1 y) hg5 (fun p hp => by
          by_cases e : p = y
          · subst e; exact hgy5
          · exact (hgp5 p (by omega)).trans (hgp p (by omega))) (fun z hz => (hz5 z hz).trans (hz2 z hz))
      refine J_iload dL_taught_17 rfl ?_
      refine J_iconst (v := 5) dL_taught_19 (by decide) ?_
      refine J_icmp_ge (tgt := 93) dL_taught_20 rfl (fun h20 => ?_) (fun h20 => ?_)
      · first | (exfalso; simp only [i_lt, i_le, i_eq, i_0, i_1, i_2, i_3, i_4, i_5, i_6, i_8, i_9, i_10, i_12, i_16, i_20, i_m1] at h20; omega) | (exfalso; simp only [s_up, a_up, va_up, i_lt, i_le, i_eq, i_0, i_1, i_2, i_3, i_4, i_5, i_6, i_8, i_9, i_10, i_12, i_16, i_20, i_m1, ↓reduceIte, Nat.reduceEqDiff] at h20; omega)
      · refine J_aload_n dL_taught_23 rfl rfl ?_
        refine J_iload dL_taught_24 rfl ?_
        refine J_iconst (v := 0) dL_taught_26 (by decide) ?_
        refine J_iastQ y dL_taught_27 hg rfl (by omega) (by decide) (fun A4 g4 o4 => ?_)
        refine J_iload_n dL_taught_28 rfl rfl ?_
        refine J_iconst (v := 4) dL_taught_29 (by decide) ?_
        refine J_iload dL_taught_30 rfl ?_
        refine J_imul dL_taught_32 ?_
        refine J_iadd dL_taught_33 ?_
        rw [show (4 : Int32) * nI y = nI (4 * y) from nI_mul 4 y, nI_add]
        refine J_istore (L' := [(5, _), (4, _), (3, _), (2, _), (0, _), (1, _)]) dL_taught_34 (by decide) rfl ?_
        refine xx_J.pick [0, 1, 2, 3, 4, 5] rfl ?_
        exact inner i y hiL hy5 K9 J9 hKJ A2 ((hz2 h hhn).trans tA0) ((hz2 v hvn).trans tB0) g k87 0 (Nat.zero_le _) _ A4 _ rfl g4 pk_us (fun p hp => pk_un (by omega)) (fun z hz => o4 z hz)
  have outer : ∀ i, i ≤ (L + 19) / 20 → ∀ (x3 : Int32) (A1 : xx_H) (g : Nat → Int32) (k1 j1 : Nat), x3 = nI (20 * i) → (k1 ≤ 1 + i ∧ j1 ≤ 5 + 6 * i) → A1 n = some (.inl (0, 5, .inl g)) → xx_w (b + 2) (layT sg (b + 2) (tpF f L T i)) A1 → (∀ z, z < n → (z < b + 2 ∨ b + 7 ≤ z) → A1 z = A z) → xx_J G l mL_taught 58 1540 50 300 (tgQ f L T b n A) 6 [(3, .int x3), (2, .ref n), (0, .ref b), (1, .ref h)] [] A1 (n + 1) k1 j1 := by
    refine xx_dn ?_ ?_
    · intro x3 A1 g k1 j1 hx hk hg hT1 hz1
      have ex : x3.toInt = (20 * ((L + 19) / 20) : Nat) := by rw [hx]; exact i_n (by omega)
      have tA1 := (hz1 h hhl (by omega)).trans tA
      have tB1 := (hz1 v hvl (by omega)).trans tB
      have hX1 : xx_w b (layX b) A1 := fun q o e he => by
        have z := hX q o e he
        have ho : o = 0 := by rcases q with _ | q <;> simp [layX] at he; exact he.1.symm
        subst ho
        exact (hz1 b (by omega) (by omega)).trans z
      have eL : (nI L).toInt = (L : Nat) := i_n (by omega)
      refine J_iload_n dL_taught_6 rfl rfl ?_
      refine J_aload_n dL_taught_7 rfl rfl ?_
      refine J_callVr (As := []) dL_taught_8 ml_L_9 cal_J0_length_8abf5 im_J0_length_8abf5 se_J0_length_8abf5 tA1 rfl rfl rfl (Nat.le_of_ble_eq_true rfl) ⟨by decide, by decide⟩ ⟨by omega, by omega⟩ (cH_J0_length hst tA1 tB1 (by omega)) ?_
      refine J_icmp_ge (tgt := 119) dL_taught_11 rfl (fun h11 => ?_) (fun h11 => ?_)
      · have htr : aTrim (20 * ((L + 19) / 20)) (nI L) = (0, nI L) := if_pos ⟨nI_pos' (by omega), nI_le (by omega) (by omega)⟩
        have htT : (tTrim (tpF f L T ((L + 19) / 20)) (20 * ((L + 19) / 20)) (nI L)).1 1 = nI L := by unfold tTrim; rw [if_pos ⟨nI_pos' (by omega), nI_le (by omega) (by omega)⟩]; show va_up (tpF f L T ((L + 19) / 20)).1 1 (nI L) 1 = nI L; exact va_up_self _ _ _
        refine J_aload_n dL_taught_119 rfl rfl ?_
        refine J_aload_n dL_taught_120 rfl rfl ?_
        refine J_callVr (As := []) dL_taught_121 ml_L_9 cal_J0_length_8abf5 im_J0_length_8abf5 se_J0_length_8abf5 tA1 rfl rfl rfl (Nat.le_of_ble_eq_true rfl) ⟨by decide, by decide⟩ ⟨by omega, by omega⟩ (cH_J0_length hst tA1 tB1 (by omega)) ?_
        have htl := tpF_1 (f := f) (L := L) hT0 ((L + 19) / 20) (by omega)
        refine J_callV (As := [_]) dL_taught_124 ml_L_25 cal_X6_trim im_X6_trim se_X6_trim (hX1.at 0 rfl) rfl rfl rfl (Nat.le_of_ble_eq_true rfl) ⟨by decide, by decide⟩ ⟨by omega, by omega⟩ (c_X6_trim hst hX1 hT1 htl (by omega) (nI L)) (fun _ _ _ _ hE => by have z := hE.2.1; rw [htr, ansR_0] at z; cases z) (fun v9 A2 n2 _ hQ => ?_)
        obtain ⟨hn2, hr2, hT2, hs2⟩ := hQ
        rw [htr, ansR_0] at hr2
        cases hr2
        subst n2
        refine J_pop dL_taught_127 rfl ?_
        refine J_aload_n dL_taught_128 rfl rfl ?_
        have up2 : ∀ z, z < n → (z < b + 2 ∨ b + 7 ≤ z) → A2 z = A z := fun z h1 h2 => (hs2 z h2).trans (hz1 z h1 h2)
        obtain ⟨D, sg2, hD⟩ := hRd A2 (fun z h1 h2 => up2 z h1 h2) _ hT2
        have hX2 : xx_w b (layX b) A2 := fun q o e he => by
          have z := hX q o e he
          have ho : o = 0 := by rcases q with _ | q <;> simp [layX] at he; exact he.1.symm
          subst ho
          exact (up2 b (by omega) (by omega)).trans z
        have hR2 : xx_w (b + 16) (layR (b + 16) R) A2 := fun q o e he => (up2 _ (Nat.lt_of_lt_of_le (hRl q o e he) hbn) (by omega)).trans (hR q o e he)
        have hF2 : xx_w (b + 22) (layF (b + 22) F) A2 := fun q o e he => (up2 _ (Nat.lt_of_lt_of_le (hFl q o e he) hbn) (by omega)).trans (hF q o e he)
        refine J_callV (As := []) dL_taught_129 ml_L_29 cal_X6_teach im_X6_teach se_X6_teach (hX2.at 0 rfl) rfl rfl rfl (Nat.le_of_ble_eq_true rfl) ⟨by decide, by decide⟩ ⟨by omega, by omega⟩ (c_X6_teach hst hX2 hD (show _ = nI L from htT) (by omega) hR2 hF2) (fun _ _ _ _ hE => absurd hE.1 (fun z => nomatch z)) (fun v9 A3 n3 _ hQ => ?_)
        have hQ0 := hQ
        obtain ⟨e9, hn3, -⟩ := hQ
        cases e9
        subst n3
        refine J_ireturn dL_taught_132 rfl rfl (by omega) (by omega) ?_
        exact ⟨A2, R, F, hR2, hF2, rfl, up2, hQ0⟩
      · first | (exfalso; simp only [i_lt, i_le, i_eq, i_0, i_1, i_2, i_3, i_4, i_5, i_6, i_8, i_9, i_10, i_12, i_16, i_20, i_m1] at h11; omega) | (exfalso; simp only [s_up, a_up, va_up, i_lt, i_le, i_eq, i_0, i_1, i_2, i_3, i_4, i_5, i_6, i_8, i_9, i_10, i_12, i_16, i_20, i_m1, ↓reduceIte, Nat.reduceEqDiff] at h11; omega)
    · intro i hii ih x3 A1 g k1 j1 hx hk hg hT1 hz1
      subst hx
      have hiL : 20 * i < L := by omega
      have ex : (nI (20 * i)).toInt = (20 * i : Nat) := i_n (by omega)
      have tA1 := (hz1 h hhl (by omega)).trans tA
      have tB1 := (hz1 v hvl (by omega)).trans tB
      have hX1 : xx_w b (layX b) A1 := fun q o e he => by
        have z := hX q o e he
        have ho : o = 0 := by rcases q with _ | q <;> simp [layX] at he; exact he.1.symm
        subst ho
        exact (hz1 b (by omega) (by omega)).trans z
      have eL : (nI L).toInt = (L : Nat) := i_n (by omega)
      have htl := tpF_1 (f := f) (L := L) hT0 i (by omega)
      have k93 : ∀ (A5 : xx_H) (g5 : Nat → Int32), A5 n = some (.inl (0, 5, .inl g5)) → (∀ p, p < 5 → g5 p = w4 f L (20 * i + 4 * p)) → (∀ z, ¬ z = n → A5 z = A1 z) → xx_J G l mL_taught 58 1540 50 300 (tgQ f L T b n A) 93 [(3, .int (nI (20 * i))), (2, .ref n), (0, .ref b), (1, .ref h)] [] A5 (n + 1) k1 j1 := by
        intro A5 g5 hg hgv hz5
        have hX5 : xx_w b (layX b) A5 := fun q o e he => (hz5 _ (by have := lt0 _ _ (hX q o e he); omega)).trans (hX1 q o e he)
        have hT5 : xx_w (b + 2) (layT sg (b + 2) (tpF f L T i)) A5 := fun q o e he => (hz5 _ (fun e2 => by have z := hT1 q o e he; have y := hTl q o e (tpF f L T i) he; omega)).trans (hT1 q o e he)
        refine J_aload_n dL_taught_93 rfl rfl ?_
        refine J_aload_n dL_taught_94 rfl rfl ?_
        refine J_iconst (v := 0) dL_taught_95 (by decide) ?_
        refine J_ialdN (0) dL_taught_96 hg rfl (by omega) (by decide) ?_
        refine J_aload_n dL_taught_97 rfl rfl ?_
        refine J_iconst (v := 1) dL_taught_98 (by decide) ?_
        refine J_ialdN (1) dL_taught_99 hg rfl (by omega) (by decide) ?_
        refine J_aload_n dL_taught_100 rfl rfl ?_
        refine J_iconst (v := 2) dL_taught_101 (by decide) ?_
        refine J_ialdN (2) dL_taught_102 hg rfl (by omega) (by decide) ?_
        refine J_aload_n dL_taught_103 rfl rfl ?_
        refine J_iconst (v := 3) dL_taught_104 (by decide) ?_
        refine J_ialdN (3) dL_taught_105 hg rfl (by omega) (by decide) ?_
        refine J_aload_n dL_taught_106 rfl rfl ?_
        refine J_iconst (v := 4) dL_taught_107 (by decide) ?_
        refine J_ialdN (4) dL_taught_108 hg rfl (by omega) (by decide) ?_
        rw [hgv 0 (by decide), hgv 1 (by decide), hgv 2 (by decide), hgv 3 (by decide), hgv 4 (by decide)]
        refine J_callV (As := [_, _, _, _, _]) dL_taught_109 ml_L_19 cal_X6_feed im_X6_feed se_X6_feed (hX5.at 0 rfl) rfl rfl rfl (Nat.le_of_ble_eq_true rfl) ⟨by decide, by decide⟩ ⟨by omega, by omega⟩ (c_X6_feed hst hX5 hT5 htl (by omega) _ _ _ _ _) (fun _ _ _ _ hE => by have z := hE.2.1; unfold aFeed at z; rw [if_pos (by omega), ansR_0] at z; cases z) (fun v9 A6 n6 _ hQ => ?_)
        obtain ⟨hn6, hr6, hT6, hs6⟩ := hQ
        unfold aFeed at hr6
        rw [if_pos (by omega), ansR_0] at hr6
        cases hr6
        subst n6
        refine J_pop dL_taught_112 rfl ?_
        refine J_iinc (v := _ + 20) (L' := [(3, _), (2, _), (0, _), (1, _)]) dL_taught_113 rfl rfl (by decide) rfl ?_
        refine J_goto (tgt := 6) dL_taught_116 rfl ?_
        refine xx_J.pick [0, 1, 2, 3] rfl ?_
        exact ih _ A6 g5 _ _ (nI_add (20 * i) 20) (by omega) ((hs6 n (by omega)).trans hg) hT6 (fun z h1 h2 => (hs6 z h2).trans ((hz5 z (by omega)).trans (hz1 z h1 h2)))
      refine J_iload_n dL_taught_6 rfl rfl ?_
      refine J_aload_n dL_taught_7 rfl rfl ?_
      refine J_callVr (As := []) dL_taught_8 ml_L_9 cal_J0_length_8abf5 im_J0_length_8abf5 se_J0_length_8abf5 tA1 rfl rfl rfl (Nat.le_of_ble_eq_true rfl) ⟨by decide, by decide⟩ ⟨by omega, by omega⟩ (cH_J0_length hst tA1 tB1 (by omega)) ?_
      refine J_icmp_ge (tgt := 119) dL_taught_11 rfl (fun h11 => ?_) (fun h11 => ?_)
      · first | (exfalso; simp only [i_lt, i_le, i_eq, i_0, i_1, i_2, i_3, i_4, i_5, i_6, i_8, i_9, i_10, i_12, i_16, i_20, i_m1] at h11; omega) | (exfalso; simp only [s_up, a_up, va_up, i_lt, i_le, i_eq, i_0, i_1, i_2, i_3, i_4, i_5, i_6, i_8, i_9, i_10, i_12, i_16, i_20, i_m1, ↓reduceIte, Nat.reduceEqDiff] at h11; omega)
      · refine J_iconst (v := 0) dL_taught_14 (by decide) ?_
        refine J_istore (L' := [(4, _), (3, _), (2, _), (0, _), (1, _)]) dL_taught_15 (by decide) rfl ?_
        refine xx_J.pick [0, 1, 2, 3, 4] rfl ?_
        exact middle i hiL k1 j1 (by omega) A1 tA1 tB1 k93 0 (Nat.zero_le _) _ A1 g rfl hg (fun p hp => absurd hp (Nat.not_lt_zero p)) (fun _ _ => rfl)
  refine J_iconst (v := 5) dL_taught_0 (by decide) ?_
  refine J_newi (N := 5) dL_taught_1 ac_int (by decide) (by decide) (by decide) (by decide) (by decide) ?_
  refine J_up (fun A1 g1 o1 => ?_)
  refine J_astore_n (L' := [(2, _), (0, _), (1, _)]) dL_taught_3 rfl (by decide) rfl ?_
  refine J_iconst (v := 0) dL_taught_4 (by decide) ?_
  refine J_istore_n (L' := [(3, _), (2, _), (0, _), (1, _)]) dL_taught_5 rfl (by decide) rfl ?_
  refine xx_J.pick [0, 1, 2, 3] rfl ?_
  exact outer 0 (Nat.zero_le _) _ A1 _ _ _ rfl ⟨by omega, by omega⟩ g1 (fun q o e he => (o1 _ (fun e2 => by have y := hTl q o e T he; omega)).trans (hT q o e he)) (fun z h1 _ => o1 z (by omega))
end XTG
