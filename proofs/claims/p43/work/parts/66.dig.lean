/-! meanPoints, digest: both sides -/
section XDG
variable {G : xx_G} {l : Launch} {A A' : xx_H} {n : Nat} {b bm bp bs bn ba : Nat} {vL nl : Nat → Int64} {M M' M1 P P' S S1 F FF F' R PS F2 D R0 T : xS} {len i j k q s e t d nt tok v m nw nb r cr w : Nat} {tk : Nat → Nat} {ru : xS → Nat → Nat → Int32} {sg : Nat → Option Nat}
def dgs (d : Int64) (x : Int32) : Int64 := d * 31 + x.toInt64
/-- a row of numbers -/
def dgr (f : Nat → Int32) (d : Int64) : Nat → Int64
  | 0 => d
  | i + 1 => dgs (dgr f d i) (f i)
def dgO (F : xS) (nw w : Nat) (d : Int64) : Int64 := dgr (fun o => F.2 3 (w * 12 + o)) (dgs (dgs (dgs (dgr (fun c => F.2 2 (c * 12 + w)) d 8) (rpts F nw w)) (nI (rkN (f_R F nw) nw w))) (F.2 2 (8 * 12 + w))) nw
def dgN (F : xS) (nw : Nat) (d : Int64) : Nat → Int64
  | 0 => d
  | i + 1 => dgO F nw i (dgN F nw d i)
def dgB (F : xS) (d : Int64) : Nat → Int64
  | 0 => d
  | i + 1 => dgs (dgs (dgs (dgB F d i) (F.2 4 i)) (F.2 5 i)) (F.2 6 i)
def dgA (F : xS) (nw nb cr len : Nat) : Int64 := dgB F (dgN F nw (dgs (dgs (dgs (dgs (dgs (dgs (dgs 967 (F.1 0)) (bx_sum (fun w => F.2 2 (8 * 12 + w)) nw)) (nI cr)) (F.1 1)) (nI len)) (F.1 5)) (bx_sum (opn (F.2 6)) nb)) nw) nb
theorem dgr_c {f g : Nat → Int32} {d : Int64} : ∀ k, (∀ i, i < k → f i = g i) → dgr f d k = dgr g d k := by
  intro k
  induction k with
  | zero => intro _; rfl
  | succ k ih =>
    intro h
    show dgs (dgr f d k) (f k) = dgs (dgr g d k) (g k)
    rw [ih (fun i hi => h i (by omega)), h k (by omega)]
theorem dgO_c (he : eqF nw nb F F') (hw : w < nw) (d : Int64) : dgO F nw w d = dgO F' nw w d := by
  unfold dgO
  rw [dgr_c 8 (fun i hi => he.2.2.1 i w (by omega) hw), he.rp hw, rkN_c he hw, he.2.2.1 8 w (by decide) hw, dgr_c nw (fun i hi => he.2.2.2.1 w i hw hi)]
theorem dgA_c (he : eqF nw nb F F') : dgA F nw nb cr len = dgA F' nw nb cr len := by
  have hN : ∀ d k, k ≤ nw → dgN F nw d k = dgN F' nw d k := by
    intro d k
    induction k with
    | zero => intro _; rfl
    | succ k ih =>
      intro hk
      show dgO F nw k (dgN F nw d k) = dgO F' nw k (dgN F' nw d k)
      rw [ih (by omega), dgO_c he (by omega)]
  have hB : ∀ d k, k ≤ nb → dgB F d k = dgB F' d k := by
    intro d k
    induction k with
    | zero => intro _; rfl
    | succ k ih =>
      intro hk
      show dgs (dgs (dgs (dgB F d k) (F.2 4 k)) (F.2 5 k)) (F.2 6 k) = dgs (dgs (dgs (dgB F' d k) (F'.2 4 k)) (F'.2 5 k)) (F'.2 6 k)
      obtain ⟨h1, h2, h3⟩ := he.2.2.2.2 k (by omega)
      rw [ih (by omega), h1, h2, h3]
  unfold dgA
  rw [hN _ nw (Nat.le_refl _), hB _ nb (Nat.le_refl _), he.1.1, he.sum (c := 8) (by decide), he.1.2.1, he.1.2.2.1, op_c he]
theorem c_X6_meanPoints (hst : l.stackTraces = false) (hX : xx_w b (layX b) A) (hF : xx_w (b + 22) (layF (b + 22) F) A) (hn : F.1 0 = nI nw) (h12 : nw ≤ 12) : xx_C G l yX6_meanPoints mX6_meanPoints 2 44 0 0 [.ref b] A n (xx_ro (some (.double (mnD F nw))) A n) := by
  refine J_C hst (by decide +kernel) rfl rfl rfl (Nat.le_of_ble_eq_true rfl) ?_
  show xx_J _ _ _ _ _ _ _ _ 0 [(0, _)] [] _ _ _ _
  refine J_aload_n dX6_meanPoints_0 rfl rfl ?_
  refine J_getf dX6_meanPoints_1 fl_X6_31 (hX.at 0 rfl) rfl ?_
  refine J_getf dX6_meanPoints_4 fl_X6_93 (hF.at 0 rfl) rfl ?_
  refine J_if_ne (tgt := 12) dX6_meanPoints_7 rfl (fun h7 => ?_) (fun h7 => ?_)
  · have hz : ¬ nw = 0 := fun z => h7 (by rw [hn, z]; rfl)
    refine J_iconst (v := 0) dX6_meanPoints_12 (by decide) ?_
    refine J_istore_n (L' := [(1, _), (0, _)]) dX6_meanPoints_13 rfl (by decide) rfl ?_
    refine J_iconst (v := 0) dX6_meanPoints_14 (by decide) ?_
    refine J_istore_n (L' := [(2, _), (1, _), (0, _)]) dX6_meanPoints_15 rfl (by decide) rfl ?_
    have loop : ∀ i, i ≤ nw → ∀ (x c : Int32) , (x = nI i) → (c = bx_sum (fun w => F.2 2 (1 * 12 + w)) i) → xx_J G l mX6_meanPoints 2 44 0 0 (xx_ro (some (.double (mnD F nw))) A n) 16 [(2, .int x), (1, .int c), (0, .ref b)] [] A n 0 0 := by
      refine xx_dn ?_ ?_
      · intro x c   hx hc
        have ex : x.toInt = nw := by rw [hx]; exact i_n (by omega)
        have en : (F.1 0).toInt = nw := by rw [hn]; exact i_n (by omega)
        refine J_iload_n dX6_meanPoints_16 rfl rfl ?_
        refine J_aload_n dX6_meanPoints_17 rfl rfl ?_
        refine J_getf dX6_meanPoints_18 fl_X6_31 (hX.at 0 rfl) rfl ?_
        refine J_getf dX6_meanPoints_21 fl_X6_93 (hF.at 0 rfl) rfl ?_
        refine J_icmp_ge (tgt := 45) dX6_meanPoints_24 rfl (fun h24 => ?_) (fun h24 => ?_)
        · refine J_iload_n dX6_meanPoints_45 rfl rfl ?_
          refine J_i2d dX6_meanPoints_46 ?_
          refine J_aload_n dX6_meanPoints_47 rfl rfl ?_
          refine J_getf dX6_meanPoints_48 fl_X6_31 (hX.at 0 rfl) rfl ?_
          refine J_getf dX6_meanPoints_51 fl_X6_93 (hF.at 0 rfl) rfl ?_
          refine J_i2d dX6_meanPoints_54 ?_
          refine J_ddiv dX6_meanPoints_55 (by rw [hn]; exact ddiv_nn _ (by omega) h12) ?_
          refine J_dreturn dX6_meanPoints_56 rfl (by decide) (by decide) ?_
          have e1 : mnD F nw = FP.ddiv (FP.i2d (bx_sum (fun w => F.2 2 (1 * 12 + w)) nw)) (FP.i2d (nI nw)) := if_neg hz
          rw [e1]
          exact ⟨by rw [← hc, ← hn], rfl, rfl⟩
        · first | (exfalso; simp only [i_lt, i_le, i_eq, i_0, i_1, i_2, i_3, i_4, i_5, i_6, i_8, i_9, i_10, i_12, i_16, i_20, i_m1, i_400, i_2000] at h24; omega) | (exfalso; simp only [s_up, a_up, va_up, i_lt, i_le, i_eq, i_0, i_1, i_2, i_3, i_4, i_5, i_6, i_8, i_9, i_10, i_12, i_16, i_20, i_m1, i_400, i_2000, ↓reduceIte, Nat.reduceEqDiff] at h24; omega)
      · intro i hii ih x c   hx hc
        have ex : x.toInt = i := by rw [hx]; exact i_n (by omega)
        have en : (F.1 0).toInt = nw := by rw [hn]; exact i_n (by omega)
        refine J_iload_n dX6_meanPoints_16 rfl rfl ?_
        refine J_aload_n dX6_meanPoints_17 rfl rfl ?_
        refine J_getf dX6_meanPoints_18 fl_X6_31 (hX.at 0 rfl) rfl ?_
        refine J_getf dX6_meanPoints_21 fl_X6_93 (hF.at 0 rfl) rfl ?_
        refine J_icmp_ge (tgt := 45) dX6_meanPoints_24 rfl (fun h24 => ?_) (fun h24 => ?_)
        · first | (exfalso; simp only [i_lt, i_le, i_eq, i_0, i_1, i_2, i_3, i_4, i_5, i_6, i_8, i_9, i_10, i_12, i_16, i_20, i_m1, i_400, i_2000] at h24; omega) | (exfalso; simp only [s_up, a_up, va_up, i_lt, i_le, i_eq, i_0, i_1, i_2, i_3, i_4, i_5, i_6, i_8, i_9, i_10, i_12, i_16, i_20, i_m1, i_400, i_2000, ↓reduceIte, Nat.reduceEqDiff] at h24; omega)
        · refine J_iload_n dX6_meanPoints_27 rfl rfl ?_
          refine J_aload_n dX6_meanPoints_28 rfl rfl ?_
          refine J_getf dX6_meanPoints_29 fl_X6_31 (hX.at 0 rfl) rfl ?_
          refine J_iconst (v := 1) dX6_meanPoints_32 (by decide) ?_
          refine J_iload_n dX6_meanPoints_33 rfl rfl ?_
          refine J_callVr (As := [_, _]) dX6_meanPoints_34 ml_X6_112 cal_X0_of im_X0_of se_X0_of (hF.at 0 rfl) rfl rfl rfl (Nat.le_of_ble_eq_true rfl) ⟨by decide, by decide⟩ ⟨by decide, by decide⟩ (c_X0_of hst hF hn h12 (q := 1) rfl (by decide) hx hii) ?_
          refine J_iadd dX6_meanPoints_37 ?_
          refine J_istore_n (L' := [(1, _), (2, _), (0, _)]) dX6_meanPoints_38 rfl (by decide) rfl ?_
          refine J_iinc (v := _ + 1) (L' := [(2, _), (1, _), (0, _)]) dX6_meanPoints_39 rfl rfl (by decide) rfl ?_
          refine J_goto (tgt := 16) dX6_meanPoints_42 rfl ?_
          refine xx_J.pick [0, 1, 2] rfl ?_
          exact ih _ _  (by rw [hx]; exact nI_1 i) (by rw [hc]; rfl)
    refine xx_J.pick [0, 1, 2] rfl ?_
    exact loop 0 (by omega) _ _  rfl rfl
  · have hz : nw = 0 := by
      have z : F.1 0 = 0 := h7
      rw [hn, i_eq, i_n (by omega), i_0] at z
      omega
    refine J_dconst0 dX6_meanPoints_10 ?_
    refine J_dreturn dX6_meanPoints_11 rfl (by decide) (by decide) ?_
    have e1 : mnD F nw = FP.dconst0 := if_pos hz
    rw [e1]
    exact ⟨rfl, rfl, rfl⟩
set_option maxHeartbeats 1000000 in
theorem c_X6_digestWrestler (hst : l.stackTraces = false) (hX : xx_w b (layX b) A) (hF : xx_w (b + 22) (layF (b + 22) F) A) (hn : F.1 0 = nI nw) (h12 : nw ≤ 12) {ls : List Nat} (hor : ordOf (f_R F nw) nw (F.2 7) ls) (hw : w < nw) (d0 : Int64) : xx_C G l yX6_digestWrestler mX6_digestWrestler 3 67 0 0 [.ref b, .long d0, .int (nI w)] A n (xx_ro (some (.long (dgO F nw w d0))) A n) := by
  have epl := plc_rk (ahd_sto (f_pts F) (rpts F nw) (f_str F)) hor h12 hw
  refine J_C hst (by decide +kernel) rfl rfl rfl (Nat.le_of_ble_eq_true rfl) ?_
  show xx_J _ _ _ _ _ _ _ _ 0 [(0, _), (1, _), (3, _)] [] _ _ _ _
  refine J_lload_n dX6_digestWrestler_0 rfl rfl ?_
  refine J_lstore (L' := [(4, _), (0, _), (1, _), (3, _)]) dX6_digestWrestler_1 (by decide) rfl ?_
  refine J_iconst (v := 0) dX6_digestWrestler_3 (by decide) ?_
  refine J_istore (L' := [(6, _), (4, _), (0, _), (1, _), (3, _)]) dX6_digestWrestler_4 (by decide) rfl ?_
  have loop : ∀ i, i ≤ 8 → ∀ (x : Int32) (y : Int64) , (x = nI i) → (y = dgr (fun c => F.2 2 (c * 12 + w)) d0 i) → xx_J G l mX6_digestWrestler 3 67 0 0 (xx_ro (some (.long (dgO F nw w d0))) A n) 6 [(6, .int x), (4, .long y), (0, .ref b), (1, .long d0), (3, .int (nI w))] [] A n 0 0 := by
    refine xx_dn ?_ ?_
    · intro x  y   hx hy
      have ex : x.toInt = 8 := by rw [hx]; rfl
      have e7 : (7 : Int32).toInt = 7 := rfl
      refine J_iload dX6_digestWrestler_6 rfl ?_
      refine J_bipush (v := 7) dX6_digestWrestler_8 (by decide) ?_
      refine J_icmp_gt (tgt := 39) dX6_digestWrestler_10 rfl (fun h10 => ?_) (fun h10 => ?_)
      · refine J_lload dX6_digestWrestler_39 rfl ?_
        refine J_ldc2 dX6_digestWrestler_41 kl_X6_214 ?_
        refine J_lmul dX6_digestWrestler_44 ?_
        refine J_aload_n dX6_digestWrestler_45 rfl rfl ?_
        refine J_getf dX6_digestWrestler_46 fl_X6_31 (hX.at 0 rfl) rfl ?_
        refine J_iload_n dX6_digestWrestler_49 rfl rfl ?_
        refine J_callVr (As := [_]) dX6_digestWrestler_50 ml_X6_116 cal_X0_pointsOfRivals im_X0_pointsOfRivals se_X0_pointsOfRivals (hF.at 0 rfl) rfl rfl rfl (Nat.le_of_ble_eq_true rfl) ⟨by decide, by decide⟩ ⟨by decide, by decide⟩ (c_X0_pointsOfRivals hst hF hn h12 rfl hw) ?_
        refine J_i2l dX6_digestWrestler_53 rfl ?_
        refine J_ladd dX6_digestWrestler_54 ?_
        refine J_lstore (L' := [(4, _), (6, _), (0, _), (1, _), (3, _)]) dX6_digestWrestler_55 (by decide) rfl ?_
        refine J_lload dX6_digestWrestler_57 rfl ?_
        refine J_ldc2 dX6_digestWrestler_59 kl_X6_214 ?_
        refine J_lmul dX6_digestWrestler_62 ?_
        refine J_aload_n dX6_digestWrestler_63 rfl rfl ?_
        refine J_getf dX6_digestWrestler_64 fl_X6_31 (hX.at 0 rfl) rfl ?_
        refine J_iload_n dX6_digestWrestler_67 rfl rfl ?_
        refine J_callVr (As := [_]) dX6_digestWrestler_68 ml_X6_123 cal_X0_placeOf im_X0_placeOf se_X0_placeOf (hF.at 0 rfl) rfl rfl rfl (Nat.le_of_ble_eq_true rfl) ⟨by decide, by decide⟩ ⟨by decide, by decide⟩ (c_X0_placeOf hst hF hn h12 _) ?_
        refine J_i2l dX6_digestWrestler_71 rfl ?_
        refine J_ladd dX6_digestWrestler_72 ?_
        refine J_lstore (L' := [(4, _), (6, _), (0, _), (1, _), (3, _)]) dX6_digestWrestler_73 (by decide) rfl ?_
        refine J_lload dX6_digestWrestler_75 rfl ?_
        refine J_ldc2 dX6_digestWrestler_77 kl_X6_214 ?_
        refine J_lmul dX6_digestWrestler_80 ?_
        refine J_aload_n dX6_digestWrestler_81 rfl rfl ?_
        refine J_getf dX6_digestWrestler_82 fl_X6_31 (hX.at 0 rfl) rfl ?_
        refine J_bipush (v := 8) dX6_digestWrestler_85 (by decide) ?_
        refine J_iload_n dX6_digestWrestler_87 rfl rfl ?_
        refine J_callVr (As := [_, _]) dX6_digestWrestler_88 ml_X6_112 cal_X0_of im_X0_of se_X0_of (hF.at 0 rfl) rfl rfl rfl (Nat.le_of_ble_eq_true rfl) ⟨by decide, by decide⟩ ⟨by decide, by decide⟩ (c_X0_of hst hF hn h12 (q := 8) rfl (by decide) rfl hw) ?_
        refine J_i2l dX6_digestWrestler_91 rfl ?_
        refine J_ladd dX6_digestWrestler_92 ?_
        refine J_lstore (L' := [(4, _), (6, _), (0, _), (1, _), (3, _)]) dX6_digestWrestler_93 (by decide) rfl ?_
        refine J_iconst (v := 0) dX6_digestWrestler_95 (by decide) ?_
        refine J_istore (L' := [(6, _), (4, _), (0, _), (1, _), (3, _)]) dX6_digestWrestler_96 (by decide) rfl ?_
        have loop2 : ∀ i, i ≤ nw → ∀ (x : Int32) (y : Int64) , (x = nI i) → (y = dgr (fun o => F.2 3 (w * 12 + o)) (dgs (dgs (dgs (dgr (fun c => F.2 2 (c * 12 + w)) d0 8) (rpts F nw w)) (nI (rkN (f_R F nw) nw w))) (F.2 2 (8 * 12 + w))) i) → xx_J G l mX6_digestWrestler 3 67 0 0 (xx_ro (some (.long (dgO F nw w d0))) A n) 98 [(6, .int x), (4, .long y), (0, .ref b), (1, .long d0), (3, .int (nI w))] [] A n 0 0 := by
          refine xx_dn ?_ ?_
          · intro x  y   hx hy
            have ex : x.toInt = nw := by rw [hx]; exact i_n (by omega)
            have en : (F.1 0).toInt = nw := by rw [hn]; exact i_n (by omega)
            refine J_iload dX6_digestWrestler_98 rfl ?_
            refine J_aload_n dX6_digestWrestler_100 rfl rfl ?_
            refine J_getf dX6_digestWrestler_101 fl_X6_31 (hX.at 0 rfl) rfl ?_
            refine J_getf dX6_digestWrestler_104 fl_X6_93 (hF.at 0 rfl) rfl ?_
            refine J_icmp_ge (tgt := 136) dX6_digestWrestler_107 rfl (fun h107 => ?_) (fun h107 => ?_)
            · refine J_lload dX6_digestWrestler_136 rfl ?_
              refine J_lreturn dX6_digestWrestler_138 rfl (by decide) (by decide) ?_
              exact ⟨by rw [hy]; rfl, rfl, rfl⟩
            · first | (exfalso; simp only [i_lt, i_le, i_eq, i_0, i_1, i_2, i_3, i_4, i_5, i_6, i_8, i_9, i_10, i_12, i_16, i_20, i_m1, i_400, i_2000] at h107; omega) | (exfalso; simp only [s_up, a_up, va_up, i_lt, i_le, i_eq, i_0, i_1, i_2, i_3, i_4, i_5, i_6, i_8, i_9, i_10, i_12, i_16, i_20, i_m1, i_400, i_2000, ↓reduceIte, Nat.reduceEqDiff] at h107; omega)
          · intro i hii ih x  y   hx hy
            have ex : x.toInt = i := by rw [hx]; exact i_n (by omega)
            have en : (F.1 0).toInt = nw := by rw [hn]; exact i_n (by omega)
            refine J_iload dX6_digestWrestler_98 rfl ?_
            refine J_aload_n dX6_digestWrestler_100 rfl rfl ?_
            refine J_getf dX6_digestWrestler_101 fl_X6_31 (hX.at 0 rfl) rfl ?_
            refine J_getf dX6_digestWrestler_104 fl_X6_93 (hF.at 0 rfl) rfl ?_
            refine J_icmp_ge (tgt := 136) dX6_digestWrestler_107 rfl (fun h107 => ?_) (fun h107 => ?_)
            · first | (exfalso; simp only [i_lt, i_le, i_eq, i_0, i_1, i_2, i_3, i_4, i_5, i_6, i_8, i_9, i_10, i_12, i_16, i_20, i_m1, i_400, i_2000] at h107; omega) | (exfalso; simp only [s_up, a_up, va_up, i_lt, i_le, i_eq, i_0, i_1, i_2, i_3, i_4, i_5, i_6, i_8, i_9, i_10, i_12, i_16, i_20, i_m1, i_400, i_2000, ↓reduceIte, Nat.reduceEqDiff] at h107; omega)
            · refine J_lload dX6_digestWrestler_110 rfl ?_
              refine J_ldc2 dX6_digestWrestler_112 kl_X6_214 ?_
              refine J_lmul dX6_digestWrestler_115 ?_
              refine J_aload_n dX6_digestWrestler_116 rfl rfl ?_
              refine J_getf dX6_digestWrestler_117 fl_X6_31 (hX.at 0 rfl) rfl ?_
              refine J_iload_n dX6_digestWrestler_120 rfl rfl ?_
              refine J_iload dX6_digestWrestler_121 rfl ?_
              refine J_callVr (As := [_, _]) dX6_digestWrestler_123 ml_X6_138 cal_X0_meetings im_X0_meetings se_X0_meetings (hF.at 0 rfl) rfl rfl rfl (Nat.le_of_ble_eq_true rfl) ⟨by decide, by decide⟩ ⟨by decide, by decide⟩ (c_X0_meetings hst hF hn h12 rfl hw hx hii) ?_
              refine J_i2l dX6_digestWrestler_126 rfl ?_
              refine J_ladd dX6_digestWrestler_127 ?_
              refine J_lstore (L' := [(4, _), (6, _), (0, _), (1, _), (3, _)]) dX6_digestWrestler_128 (by decide) rfl ?_
              refine J_iinc (v := _ + 1) (L' := [(6, _), (4, _), (0, _), (1, _), (3, _)]) dX6_digestWrestler_130 rfl rfl (by decide) rfl ?_
              refine J_goto (tgt := 98) dX6_digestWrestler_133 rfl ?_
              refine xx_J.pick [0, 1, 2, 3, 4] rfl ?_
              exact ih _ _  (by rw [hx]; exact nI_1 i) (by rw [hy]; rfl)
        refine xx_J.pick [0, 1, 2, 3, 4] rfl ?_
        exact loop2 0 (by omega) _ _  rfl (by rw [hy, epl]; rfl)
      · first | (exfalso; simp only [i_lt, i_le, i_eq, i_0, i_1, i_2, i_3, i_4, i_5, i_6, i_8, i_9, i_10, i_12, i_16, i_20, i_m1, i_400, i_2000] at h10; omega) | (exfalso; simp only [s_up, a_up, va_up, i_lt, i_le, i_eq, i_0, i_1, i_2, i_3, i_4, i_5, i_6, i_8, i_9, i_10, i_12, i_16, i_20, i_m1, i_400, i_2000, ↓reduceIte, Nat.reduceEqDiff] at h10; omega)
    · intro i hii ih x  y   hx hy
      have ex : x.toInt = i := by rw [hx]; exact i_n (by omega)
      have e7 : (7 : Int32).toInt = 7 := rfl
      refine J_iload dX6_digestWrestler_6 rfl ?_
      refine J_bipush (v := 7) dX6_digestWrestler_8 (by decide) ?_
      refine J_icmp_gt (tgt := 39) dX6_digestWrestler_10 rfl (fun h10 => ?_) (fun h10 => ?_)
      · first | (exfalso; simp only [i_lt, i_le, i_eq, i_0, i_1, i_2, i_3, i_4, i_5, i_6, i_8, i_9, i_10, i_12, i_16, i_20, i_m1, i_400, i_2000] at h10; omega) | (exfalso; simp only [s_up, a_up, va_up, i_lt, i_le, i_eq, i_0, i_1, i_2, i_3, i_4, i_5, i_6, i_8, i_9, i_10, i_12, i_16, i_20, i_m1, i_400, i_2000, ↓reduceIte, Nat.reduceEqDiff] at h10; omega)
      · refine J_lload dX6_digestWrestler_13 rfl ?_
        refine J_ldc2 dX6_digestWrestler_15 kl_X6_214 ?_
        refine J_lmul dX6_digestWrestler_18 ?_
        refine J_aload_n dX6_digestWrestler_19 rfl rfl ?_
        refine J_getf dX6_digestWrestler_20 fl_X6_31 (hX.at 0 rfl) rfl ?_
        refine J_iload dX6_digestWrestler_23 rfl ?_
        refine J_iload_n dX6_digestWrestler_25 rfl rfl ?_
        refine J_callVr (As := [_, _]) dX6_digestWrestler_26 ml_X6_112 cal_X0_of im_X0_of se_X0_of (hF.at 0 rfl) rfl rfl rfl (Nat.le_of_ble_eq_true rfl) ⟨by decide, by decide⟩ ⟨by decide, by decide⟩ (c_X0_of hst hF hn h12 (q := i) hx (by omega) rfl hw) ?_
        refine J_i2l dX6_digestWrestler_29 rfl ?_
        refine J_ladd dX6_digestWrestler_30 ?_
        refine J_lstore (L' := [(4, _), (6, _), (0, _), (1, _), (3, _)]) dX6_digestWrestler_31 (by decide) rfl ?_
        refine J_iinc (v := _ + 1) (L' := [(6, _), (4, _), (0, _), (1, _), (3, _)]) dX6_digestWrestler_33 rfl rfl (by decide) rfl ?_
        refine J_goto (tgt := 6) dX6_digestWrestler_36 rfl ?_
        refine xx_J.pick [0, 1, 2, 3, 4] rfl ?_
        exact ih _ _  (by rw [hx]; exact nI_1 i) (by rw [hy]; rfl)
  refine xx_J.pick [0, 1, 2, 3, 4] rfl ?_
  exact loop 0 (by omega) _ _  rfl rfl
end XDG
