/-! THE REFERENCE: feed -/
section XSR
variable {G : xx_G} {l : Launch} {A A' : xx_H} {n : Nat} {bm bp bs bn ba : Nat} {vL nl : Nat → Int64} {M M' M1 P P' S S1 F F' : xS} {T : xS} {len i j k q s e t d nt tok v m nw nb r : Nat} {tk : Nat → Nat}
theorem and_255 (y : Int32) : (y &&& 255).toInt = y.toInt % 256 := by
  have n : (y &&& 255).toBitVec.toNat = y.toBitVec.toNat % 256 := by
    show (y.toBitVec &&& 255#32).toNat = _
    rw [BitVec.toNat_and]
    exact Nat.and_two_pow_sub_one_eq_mod _ 8
  show (y &&& 255).toBitVec.toInt = y.toBitVec.toInt % 256
  rw [BitVec.toInt_eq_toNat_cond, n, BitVec.toInt_eq_toNat_cond]
  have h := y.toBitVec.isLt
  split <;> split <;> omega
theorem rb_and (y : Int32) : rb y.toInt8.toInt32 = y &&& 255 ∧ -128 ≤ y.toInt8.toInt32 ∧ y.toInt8.toInt32 ≤ 127 := by
  have h1 : (y.toInt8.toInt32).toInt = y.toInt.bmod 256 := by rw [Int8.toInt_toInt32, Int32.toInt_toInt8]
  have h2 := and_255 y
  have e0 : (0 : Int32).toInt = 0 := rfl
  have e1 : (-128 : Int32).toInt = -128 := rfl
  have e2 : (127 : Int32).toInt = 127 := rfl
  have e3 : (256 : Int32).toInt = 256 := rfl
  have hb1 : -128 ≤ y.toInt.bmod 256 ∧ y.toInt.bmod 256 ≤ 127 := by
    rw [Int.bmod_def]
    split <;> omega
  refine ⟨?_, by rw [Int32.le_iff_toInt_le, h1, e1]; exact hb1.1, by rw [Int32.le_iff_toInt_le, h1, e2]; exact hb1.2⟩
  unfold rb
  by_cases c : y.toInt8.toInt32 < 0
  · rw [if_pos c]
    rw [Int32.lt_iff_toInt_lt, h1, e0] at c
    apply Int32.toInt_inj.mp
    rw [add_i (by rw [h1, e3]; omega) (by rw [h1, e3]; omega), h1, h2, e3]
    rw [Int.bmod_def] at c ⊢
    split at c <;> split <;> omega
  · rw [if_neg c]
    rw [Int32.lt_iff_toInt_lt, h1, e0] at c
    apply Int32.toInt_inj.mp
    rw [h1, h2]
    rw [Int.bmod_def] at c ⊢
    split at c <;> split <;> omega
/-- feed: what it answers, how many bytes behind it, the bytes -/
def aFeed (len : Nat) : Ans := if len ≤ 1980 then (0, nI (len + 20)) else (1, 0)
def nFeed (len : Nat) : Nat := if len ≤ 1980 then len + 20 else len
def row5 (v0 v1 v2 v3 v4 : Int32) : Nat → Int32 := upd (upd (upd (upd (upd (fun _ => 0) 0 v0) 1 v1) 2 v2) 3 v3) 4 v4
def fdG (g : Nat → Int32) (q : Nat) : Int32 := g (q / 4) >>> ((24 - 8 * nI (q % 4)) &&& 31)
def fdR (f : Nat → Int32) (len : Nat) (g : Nat → Int32) (m : Nat) : Nat → Int32 := fun q => if len ≤ q ∧ q < len + m then fdG g (q - len) &&& 255 else f q
theorem fdR_0 {f g : Nat → Int32} : fdR f len g 0 = f := by
  funext q
  unfold fdR
  rw [if_neg (by omega)]
theorem fdR_s {f g : Nat → Int32} : upd (fdR f len g m) (len + m) (fdG g m &&& 255) = fdR f len g (m + 1) := by
  funext q
  show (if q = len + m then fdG g m &&& 255 else if len ≤ q ∧ q < len + m then fdG g (q - len) &&& 255 else f q) = if len ≤ q ∧ q < len + (m + 1) then fdG g (q - len) &&& 255 else f q
  by_cases c : q = len + m
  · subst c
    rw [if_pos rfl, if_pos (by omega), Nat.add_sub_cancel_left]
  · rw [if_neg c]
    by_cases h : len ≤ q ∧ q < len + m
    · rw [if_pos h, if_pos (by omega)]
    · rw [if_neg h, if_neg (by omega)]
def fdMQ (bm bp bn ba n len : Nat) (vL : Nat → Int64) (M : xS) (g : Nat → Int32) (A : xx_H) : xx_Q := fun r A' n' => r = .inl (some (.int (aFeed len).2)) ∧ n ≤ n' ∧ n' ≤ n + 1 ∧ xx_nf bm n A A' ∧ ∃ M', M'.1 0 = (aFeed len).1 ∧ M'.1 2 = nI (nFeed len) ∧ (∀ q, ¬ (q = 0 ∨ q = 2) → M'.1 q = M.1 q) ∧ (∀ q, ¬ q = 1 → M'.2 q = M.2 q) ∧ (M'.2 1 = if len ≤ 1980 then fdR (M.2 1) len g 20 else M.2 1) ∧ xx_w bm (layM bp vL bn ba bm M') A'
theorem wZ5_a0 {b : Nat} {f : Nat → Int32} (h : xx_w b [(0, .inl (0, 5, .inl f))] A) (g : Nat → Int32) : xx_w b [(0, .inl (0, 5, .inl g))] (xx_up A (b + 0) (.inl (0, 5, .inl g))) := h.put 0 _ rfl rfl
set_option maxHeartbeats 2000000 in
theorem c_X9_feed (hst : l.stackTraces = false) (hbn : bm + 48 ≤ n) (hM : xx_w bm (layM bp vL bn ba bm M) A) (hlen : M.1 2 = nI len) (h20 : len ≤ 2000) (v0 v1 v2 v3 v4 : Int32) : xx_C G l yX9_feed mX9_feed 1 21 1 5 [.ref bm, .int v0, .int v1, .int v2, .int v3, .int v4] A n (fdMQ bm bp bn ba n len vL M (row5 v0 v1 v2 v3 v4) A) := by
  refine J_C hst (by decide +kernel) rfl rfl rfl (Nat.le_of_ble_eq_true rfl) ?_
  show xx_J _ _ _ _ _ _ _ _ 0 [(0, _), (1, _), (2, _), (3, _), (4, _), (5, _)] [] _ _ _ _
  refine J_aload_n dX9_feed_0 rfl rfl ?_
  refine J_iconst (v := 0) dX9_feed_1 (by decide) ?_
  refine J_putf dX9_feed_2 fp_X9_62 (fun _ => ⟨rfl, rfl⟩) (hM.at 0 rfl) (Nat.le_of_ble_eq_true rfl) ?_
  refine J_genA (wM_s0_0 hM _) ((xx_nf.rf (bm := bm) (n := n)).put (by omega) (by omega) _) (fun A1 w1 s1 o1 => ?_)
  refine J_aload_n dX9_feed_5 rfl rfl ?_
  refine J_getf dX9_feed_6 fl_X9_259 (w1.at 0 rfl) rfl ?_
  refine J_sipush (v := 1980) dX9_feed_9 (by decide) ?_
  refine J_icmp_le (tgt := 21) dX9_feed_12 rfl (fun h12c => ?_) (fun h12c => ?_)
  · have g12 : len ≤ 1980 := by
      have z : M.1 2 ≤ 1980 := h12c
      rw [hlen, i_le, i_n (by omega)] at z
      have : (1980 : Int32).toInt = 1980 := rfl
      omega
    refine J_iconst (v := 5) dX9_feed_21 (by decide) ?_
    refine J_newi (N := 5) dX9_feed_22 ac_int (by decide) (by decide) (by decide) (Nat.le_of_ble_eq_true rfl) (Nat.le_of_ble_eq_true rfl) ?_
    refine J_genA (b := n) (cs := [(0, .inl (0, 5, .inl (fun _ => 0)))]) (xx_w_cons (xx_up_s _ _ _) xx_w_nil) ((s1).put (Or.inr (Nat.le_refl n)) rfl _) (fun A40 w40 s40 o40 => ?_)
    have hM40 := layM_o w1 o40 (by unfold isM; omega)
    refine J_dup dX9_feed_24 rfl ?_
    refine J_iconst (v := 0) dX9_feed_25 (by decide) ?_
    refine J_iload_n dX9_feed_26 rfl rfl ?_
    refine J_iastN 0 dX9_feed_27 (w40.at 0 rfl) rfl (by omega) (by decide) ?_
    refine J_genA (wZ5_a0 w40 _) (s40.put (by omega) (by omega) _) (fun A61 w61 s61 o61 => ?_)
    have w61M := layM_o hM40 o61 (by unfold isM; omega)
    refine J_dup dX9_feed_28 rfl ?_
    refine J_iconst (v := 1) dX9_feed_29 (by decide) ?_
    refine J_iload_n dX9_feed_30 rfl rfl ?_
    refine J_iastN 1 dX9_feed_31 (w61.at 0 rfl) rfl (by omega) (by decide) ?_
    refine J_genA (wZ5_a0 w61 _) (s61.put (by omega) (by omega) _) (fun A62 w62 s62 o62 => ?_)
    have w62M := layM_o w61M o62 (by unfold isM; omega)
    refine J_dup dX9_feed_32 rfl ?_
    refine J_iconst (v := 2) dX9_feed_33 (by decide) ?_
    refine J_iload_n dX9_feed_34 rfl rfl ?_
    refine J_iastN 2 dX9_feed_35 (w62.at 0 rfl) rfl (by omega) (by decide) ?_
    refine J_genA (wZ5_a0 w62 _) (s62.put (by omega) (by omega) _) (fun A63 w63 s63 o63 => ?_)
    have w63M := layM_o w62M o63 (by unfold isM; omega)
    refine J_dup dX9_feed_36 rfl ?_
    refine J_iconst (v := 3) dX9_feed_37 (by decide) ?_
    refine J_iload dX9_feed_38 rfl ?_
    refine J_iastN 3 dX9_feed_40 (w63.at 0 rfl) rfl (by omega) (by decide) ?_
    refine J_genA (wZ5_a0 w63 _) (s63.put (by omega) (by omega) _) (fun A64 w64 s64 o64 => ?_)
    have w64M := layM_o w63M o64 (by unfold isM; omega)
    refine J_dup dX9_feed_41 rfl ?_
    refine J_iconst (v := 4) dX9_feed_42 (by decide) ?_
    refine J_iload dX9_feed_43 rfl ?_
    refine J_iastN 4 dX9_feed_45 (w64.at 0 rfl) rfl (by omega) (by decide) ?_
    refine J_genA (wZ5_a0 w64 _) (s64.put (by omega) (by omega) _) (fun A65 w65 s65 o65 => ?_)
    have w65M := layM_o w64M o65 (by unfold isM; omega)
    refine J_astore (L' := [(6, _), (0, _), (1, _), (2, _), (3, _), (4, _), (5, _)]) dX9_feed_46 (by decide) rfl ?_
    refine J_iconst (v := 0) dX9_feed_48 (by decide) ?_
    refine J_istore (L' := [(7, _), (6, _), (0, _), (1, _), (2, _), (3, _), (4, _), (5, _)]) dX9_feed_49 (by decide) rfl ?_
    have loop : ∀ i, i ≤ 20 → ∀ (x : Int32) (A1 : xx_H), (x = nI i) → (xx_w bm (layM bp vL bn ba bm (a_up (s_up M 0 0) 1 (fdR (M.2 1) len (row5 v0 v1 v2 v3 v4) i))) A1) → (xx_w n [(0, .inl (0, 5, .inl (row5 v0 v1 v2 v3 v4)))] A1) → (xx_nf bm n A A1) → xx_J G l mX9_feed 1 21 1 5 (fdMQ bm bp bn ba n len vL M (row5 v0 v1 v2 v3 v4) A) 51 [(7, .int x), (6, .ref n), (0, .ref bm), (1, .int v0), (2, .int v1), (3, .int v2), (4, .int v3), (5, .int v4)] [] A1 (n + 1) (0 + 1) (0 + 5) := by
      refine xx_dn ?_ ?_
      · intro x  A1  hx hM1 hV1 hs1
        have ex : x.toInt = 20 := by rw [hx]; rfl
        have e20 : (20 : Int32).toInt = 20 := rfl
        refine J_iload dX9_feed_51 rfl ?_
        refine J_bipush (v := 20) dX9_feed_53 (by decide) ?_
        refine J_icmp_ge (tgt := 98) dX9_feed_55 rfl (fun h55 => ?_) (fun h55 => ?_)
        · refine J_aload_n dX9_feed_98 rfl rfl ?_
          refine J_dup dX9_feed_99 rfl ?_
          refine J_getf dX9_feed_100 fl_X9_259 (hM1.at 0 rfl) rfl ?_
          refine J_bipush (v := 20) dX9_feed_103 (by decide) ?_
          refine J_iadd dX9_feed_105 ?_
          refine J_putf dX9_feed_106 fp_X9_259 (fun _ => ⟨rfl, rfl⟩) (hM1.at 0 rfl) (Nat.le_of_ble_eq_true rfl) ?_
          refine J_genA (wM_s0_2 hM1 _) (hs1.put (by omega) (by omega) _) (fun A86 w86 s86 o86 => ?_)
          have w86V := hV1.o2 o86 (m := 1) rfl (by omega)
          refine J_aload_n dX9_feed_109 rfl rfl ?_
          refine J_getf dX9_feed_110 fl_X9_259 (w86.at 0 rfl) rfl ?_
          refine J_ireturn dX9_feed_113 rfl rfl (by decide) (by decide) ?_
          have e1 : aFeed len = (0, nI (len + 20)) := if_pos g12
          have e2 : nFeed len = len + 20 := if_pos g12
          have e3 : M.1 2 + 20 = nI (len + 20) := by rw [hlen]; exact nI_add len 20
          unfold fdMQ
          rw [e1, e2]
          exact ⟨by show Sum.inl (some (Value.int (M.1 2 + 20))) = _; rw [e3], by omega, by omega, s86, s_up (a_up (s_up M 0 0) 1 (fdR (M.2 1) len (row5 v0 v1 v2 v3 v4) 20)) 2 (M.1 2 + 20), rfl, e3, fun q hq => by rw [s_up_n (by omega)]; exact s_up_n (by omega), fun q hq => by show va_up M.2 1 _ q = _; simp only [va_up]; rw [if_neg hq], (if_pos g12).symm, w86⟩
        · first | (exfalso; simp only [i_lt, i_le, i_eq, i_0, i_1, i_2, i_3, i_4, i_5, i_6, i_8, i_9, i_10, i_12, i_16, i_20, i_m1, i_400, i_2000] at h55; omega) | (exfalso; simp only [s_up, a_up, va_up, i_lt, i_le, i_eq, i_0, i_1, i_2, i_3, i_4, i_5, i_6, i_8, i_9, i_10, i_12, i_16, i_20, i_m1, i_400, i_2000, ↓reduceIte, Nat.reduceEqDiff] at h55; omega)
      · intro i hii ih x  A1  hx hM1 hV1 hs1
        subst hx
        have ex : (nI i).toInt = i := i_n (by omega)
        have e20 : (20 : Int32).toInt = 20 := rfl
        have ei4 : nI i / 4 = nI (i / 4) := (show nI i / nI 4 = _ from pk_div (by omega) (by omega) (by omega))
        have eir : nI i - nI i / 4 * 4 = nI (i % 4) := (show nI i - nI i / nI 4 * nI 4 = _ from pk_rem (by omega) (by omega) (by omega))
        refine J_iload dX9_feed_51 rfl ?_
        refine J_bipush (v := 20) dX9_feed_53 (by decide) ?_
        refine J_icmp_ge (tgt := 98) dX9_feed_55 rfl (fun h55 => ?_) (fun h55 => ?_)
        · first | (exfalso; simp only [i_lt, i_le, i_eq, i_0, i_1, i_2, i_3, i_4, i_5, i_6, i_8, i_9, i_10, i_12, i_16, i_20, i_m1, i_400, i_2000] at h55; omega) | (exfalso; simp only [s_up, a_up, va_up, i_lt, i_le, i_eq, i_0, i_1, i_2, i_3, i_4, i_5, i_6, i_8, i_9, i_10, i_12, i_16, i_20, i_m1, i_400, i_2000, ↓reduceIte, Nat.reduceEqDiff] at h55; omega)
        · refine J_aload_n dX9_feed_58 rfl rfl ?_
          refine J_getf dX9_feed_59 fl_X9_9 (hM1.at 0 rfl) rfl ?_
          refine J_aload_n dX9_feed_62 rfl rfl ?_
          refine J_getf dX9_feed_63 fl_X9_259 (hM1.at 0 rfl) rfl ?_
          refine J_iload dX9_feed_66 rfl ?_
          refine J_iadd dX9_feed_68 ?_
          refine J_aload dX9_feed_69 rfl ?_
          refine J_iload dX9_feed_71 rfl ?_
          refine J_iconst (v := 4) dX9_feed_73 (by decide) ?_
          refine J_idiv dX9_feed_74 (by decide) ?_
          refine J_ialdN (i / 4) dX9_feed_75 (hV1.at 0 rfl) ei4 (by omega) (by decide) ?_
          refine J_bipush (v := 24) dX9_feed_76 (by decide) ?_
          refine J_bipush (v := 8) dX9_feed_78 (by decide) ?_
          refine J_iload dX9_feed_80 rfl ?_
          refine J_iconst (v := 4) dX9_feed_82 (by decide) ?_
          refine J_irem dX9_feed_83 (by decide) ?_
          refine J_imul dX9_feed_84 ?_
          refine J_isub dX9_feed_85 ?_
          refine J_ishr dX9_feed_86 ?_
          refine J_sipush (v := 255) dX9_feed_87 (by decide) ?_
          refine J_iand dX9_feed_90 ?_
          refine J_iastN (len + i) dX9_feed_91 (hM1.at 1 rfl) (by show M.1 2 + nI i = _; rw [hlen]; exact nI_add len i) (by omega) (by decide) ?_
          refine J_genA (wM_a1 hM1 _) (hs1.put (by omega) (by omega) _) (fun A116 w116 s116 o116 => ?_)
          have w116V := hV1.o2 o116 (m := 1) rfl (by omega)
          have wfx : xx_w bm (layM bp vL bn ba bm (a_up (s_up M 0 0) 1 (upd (fdR (M.2 1) len (row5 v0 v1 v2 v3 v4) i) (len + i) (fdG (row5 v0 v1 v2 v3 v4) i &&& 255)))) A116 := by
            have z := w116
            rw [eir, a_up_u] at z
            exact z
          refine J_iinc (v := _ + 1) (L' := [(7, _), (6, _), (0, _), (1, _), (2, _), (3, _), (4, _), (5, _)]) dX9_feed_92 rfl rfl (by decide) rfl ?_
          refine J_goto (tgt := 51) dX9_feed_95 rfl ?_
          refine xx_J.pick [0, 1, 2, 3, 4, 5, 6, 7] rfl ?_
          exact ih _ _ (by exact nI_1 i) (by rw [← fdR_s]; exact wfx) w116V s116
    refine xx_J.pick [0, 1, 2, 3, 4, 5, 6, 7] rfl ?_
    exact loop 0 (by omega) _ _ rfl (by rw [fdR_0, show a_up (s_up M 0 0) 1 (M.2 1) = s_up M 0 0 from a_up_id]; exact w65M) w65 s65
  · have g12 : ¬ len ≤ 1980 := fun z => h12c (by show M.1 2 ≤ 1980; rw [hlen, i_le, i_n (by omega)]; have : (1980 : Int32).toInt = 1980 := rfl; omega)
    refine J_aload_n dX9_feed_15 rfl rfl ?_
    refine J_iconst (v := 1) dX9_feed_16 (by decide) ?_
    refine J_callVw (As := [_]) dX9_feed_17 ml_X9_393 cal_X9_no im_X9_no se_X9_no (w1.at 0 rfl) rfl rfl rfl (Nat.le_of_ble_eq_true rfl) ⟨by decide, by decide⟩ ⟨by decide, by decide⟩ (c_X9_no hst w1 _) (fun A2 hQ2 => ?_)
    skip
    refine J_ireturn dX9_feed_20 rfl rfl (by decide) (by decide) ?_
    have e1 : aFeed len = (1, 0) := if_neg g12
    have e2 : nFeed len = len := if_neg g12
    unfold fdMQ
    rw [e1, e2]
    exact ⟨rfl, Nat.le_refl _, Nat.le_succ _, (s1.trans (fun z h1 _ => hQ2.2 z h1)), s_up (s_up M 0 0) 0 1, rfl, hlen, fun q hq => by rw [s_up_n (by omega), s_up_n (by omega)], fun q _ => rfl, (if_neg g12).symm, hQ2.1⟩
end XSR
