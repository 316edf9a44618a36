/-! THE REFERENCE: its calls that change nothing -/
section XSN
variable {G : xx_G} {l : Launch} {A A' : xx_H} {n : Nat} {bm bp bs bn ba : Nat} {vL nl : Nat → Int64} {M M' M1 P P' S S1 : xS} {T : xS} {len i j k q s e t d nt tok v m nw nb r : Nat} {tk : Nat → Nat}
/-- only what was thrown and the scratch have changed -/
def mS (M M' : xS) : Prop := (∀ q, ¬ (q = 0 ∨ q = 14 ∨ q = 15) → M'.1 q = M.1 q) ∧ (∀ q, ¬ (43 ≤ q ∧ q ≤ 47) → M'.2 q = M.2 q)
theorem xx_b_iff {p c : Prop} [Decidable p] [Decidable c] (h : p ↔ c) : xx_b p = xx_b c := by
  by_cases hp : p
  · rw [xx_bt hp, xx_bt (h.mp hp)]
  · rw [xx_bf hp, xx_bf (fun z => hp (h.mpr z))]
theorem ile_pred {x w : Int32} (hx : x = nI m) (hm : m ≤ 100) : w ≤ x - 1 ↔ w < x := by
  have e : x.toInt = m := by rw [hx]; exact i_n (by omega)
  have f : (1 : Int32).toInt = 1 := rfl
  have e1 : (x - 1).toInt = m - 1 := by
    rw [Int32.toInt_sub, e, f]
    exact bm_of (by omega) (by omega)
  rw [Int32.le_iff_toInt_le, Int32.lt_iff_toInt_lt, e1, e]
  omega
theorem mS.rf : mS M M := ⟨fun _ _ => rfl, fun _ _ => rfl⟩
theorem mS.trans (h : mS M M1) (h' : mS M1 M') : mS M M' := ⟨fun q hq => (h'.1 q hq).trans (h.1 q hq), fun q hq => (h'.2 q hq).trans (h.2 q hq)⟩
theorem scr.mS (h : scr M M') : mS M M' := ⟨fun q hq => h.1 q (by omega), h.2⟩
theorem mS.s0 {x : Int32} (h : mS M M1) : mS M (s_up M1 0 x) := ⟨fun q hq => by
  rw [s_up_n (by omega)]
  exact h.1 q hq, h.2⟩
/-- a call that answers a and changes nothing that counts -/
def rdA (bm bp bn ba n : Nat) (vL : Nat → Int64) (M : xS) (A : xx_H) (a : Ans) : xx_Q := xx_wr (some (.int a.2)) n (fun A' => ∃ M', mS M M' ∧ M'.1 0 = a.1 ∧ xx_w bm (layM bp vL bn ba bm M') A' ∧ xx_mf bm A A')
theorem xx_w.mo {b q m : Nat} {cs : List (Nat × va_E)} (h : xx_w b cs A) (o : ∀ z, z ≠ q → A' z = A z) (hb : (cs.map Prod.fst).all (fun z => decide (z < m)) = true) (hf : ∀ i, i < m → ¬ isM bm (b + i)) (hq : isM bm q) : xx_w b cs A' := fun i z e he => by
  have hz := of_decide_eq_true (List.all_eq_true.mp hb z (List.mem_map.mpr ⟨_, List.mem_of_getElem? he, rfl⟩))
  have e9 : A' (b + z) = A (b + z) := o _ (fun z2 => hf z hz (by rw [z2]; exact hq))
  rw [e9]
  exact h i z e he
theorem c_X9_no (hst : l.stackTraces = false) (hM : xx_w bm (layM bp vL bn ba bm M) A) (x : Int32) : xx_C G l yX9_no mX9_no 0 0 0 0 [.ref bm, .int x] A n (xx_wr (some (.int 0)) n (fun A' => xx_w bm (layM bp vL bn ba bm (s_up M 0 x)) A' ∧ xx_mf bm A A')) := by
  refine J_C hst (by decide +kernel) rfl rfl rfl (Nat.le_of_ble_eq_true rfl) ?_
  show xx_J _ _ _ _ _ _ _ _ 0 [(0, _), (1, _)] [] _ _ _ _
  refine J_aload_n dX9_no_0 rfl rfl ?_
  refine J_iload_n dX9_no_1 rfl rfl ?_
  refine J_putf dX9_no_2 fp_X9_62 (fun _ => ⟨rfl, rfl⟩) (hM.at 0 rfl) (Nat.le_of_ble_eq_true rfl) ?_
  refine J_genA (wM_s0_0 hM _) ((xx_mf.rf (bm := bm)).put (by omega) (by omega) _) (fun A1 w1 s1 o1 => ?_)
  refine J_iconst (v := 0) dX9_no_5 (by decide) ?_
  refine J_ireturn dX9_no_6 rfl rfl (by decide) (by decide) ?_
  exact ⟨rfl, rfl, w1, s1⟩
theorem c_X9_isNot (hst : l.stackTraces = false) (hM : xx_w bm (layM bp vL bn ba bm M) A) (x : Int32) : xx_C G l yX9_isNot mX9_isNot 0 0 0 0 [.ref bm, .int x] A n (xx_wr (some (.int 0)) n (fun A' => xx_w bm (layM bp vL bn ba bm (s_up M 0 x)) A' ∧ xx_mf bm A A')) := by
  refine J_C hst (by decide +kernel) rfl rfl rfl (Nat.le_of_ble_eq_true rfl) ?_
  show xx_J _ _ _ _ _ _ _ _ 0 [(0, _), (1, _)] [] _ _ _ _
  refine J_aload_n dX9_isNot_0 rfl rfl ?_
  refine J_iload_n dX9_isNot_1 rfl rfl ?_
  refine J_putf dX9_isNot_2 fp_X9_62 (fun _ => ⟨rfl, rfl⟩) (hM.at 0 rfl) (Nat.le_of_ble_eq_true rfl) ?_
  refine J_genA (wM_s0_0 hM _) ((xx_mf.rf (bm := bm)).put (by omega) (by omega) _) (fun A1 w1 s1 o1 => ?_)
  refine J_iconst (v := 0) dX9_isNot_5 (by decide) ?_
  refine J_ireturn dX9_isNot_6 rfl rfl (by decide) (by decide) ?_
  exact ⟨rfl, rfl, w1, s1⟩
theorem c_X9_ok (hst : l.stackTraces = false) (hM : xx_w bm (layM bp vL bn ba bm M) A) (x : Int32) : xx_C G l yX9_ok mX9_ok 0 0 0 0 [.ref bm, .int x] A n (xx_wr (some (.int x)) n (fun A' => xx_w bm (layM bp vL bn ba bm (s_up M 0 0)) A' ∧ xx_mf bm A A')) := by
  refine J_C hst (by decide +kernel) rfl rfl rfl (Nat.le_of_ble_eq_true rfl) ?_
  show xx_J _ _ _ _ _ _ _ _ 0 [(0, _), (1, _)] [] _ _ _ _
  refine J_aload_n dX9_ok_0 rfl rfl ?_
  refine J_iconst (v := 0) dX9_ok_1 (by decide) ?_
  refine J_putf dX9_ok_2 fp_X9_62 (fun _ => ⟨rfl, rfl⟩) (hM.at 0 rfl) (Nat.le_of_ble_eq_true rfl) ?_
  refine J_genA (wM_s0_0 hM _) ((xx_mf.rf (bm := bm)).put (by omega) (by omega) _) (fun A1 w1 s1 o1 => ?_)
  refine J_iload_n dX9_ok_5 rfl rfl ?_
  refine J_ireturn dX9_ok_6 rfl rfl (by decide) (by decide) ?_
  exact ⟨rfl, rfl, w1, s1⟩
theorem c_X9_thrown (hst : l.stackTraces = false) (hM : xx_w bm (layM bp vL bn ba bm M) A) : xx_C G l yX9_thrown mX9_thrown 0 0 0 0 [.ref bm] A n (xx_ro (some (.int (M.1 0))) A n) := by
  refine J_C hst (by decide +kernel) rfl rfl rfl (Nat.le_of_ble_eq_true rfl) ?_
  show xx_J _ _ _ _ _ _ _ _ 0 [(0, _)] [] _ _ _ _
  refine J_aload_n dX9_thrown_0 rfl rfl ?_
  refine J_getf dX9_thrown_1 fl_X9_62 (hM.at 0 rfl) rfl ?_
  refine J_ireturn dX9_thrown_4 rfl rfl (by decide) (by decide) ?_
  exact ⟨rfl, rfl, rfl⟩
theorem c_X9_isBout (hst : l.stackTraces = false) (hM : xx_w bm (layM bp vL bn ba bm M) A) (hN : xx_w bp (layN nl bp P) A) (hS : xx_w bn (layS bn S) A) (hap : apR bm bp bn) (hok : okF (fS S P) nw nb r) (w : Int32) : xx_C G l yX9_isBout mX9_isBout 1 22 0 0 [.ref bm, .int w] A n (xx_ro (some (.int (xx_b (okB (fS S P) w)))) A n) := by
  have hn : P.1 0 = nI nw := hok.1.1
  have h12 := hok.1.2
  have hb : S.1 1 = nI nb := hok.2.1.1
  have h6 := hok.2.1.2
  have hbi : (0 ≤ w ∧ w ≤ S.1 1 - 1) ↔ okB (fS S P) w := by
    unfold okB
    show _ ↔ ¬ w < 0 ∧ w < S.1 1
    rw [Int32.not_lt]
    exact and_congr_right fun _ => ile_pred hb (by omega)
  refine J_C hst (by decide +kernel) rfl rfl rfl (Nat.le_of_ble_eq_true rfl) ?_
  show xx_J _ _ _ _ _ _ _ _ 0 [(0, _), (1, _)] [] _ _ _ _
  refine J_iload_n dX9_isBout_0 rfl rfl ?_
  refine J_iconst (v := 0) dX9_isBout_1 (by decide) ?_
  refine J_aload_n dX9_isBout_2 rfl rfl ?_
  refine J_getf dX9_isBout_3 fl_X9_40 (hM.at 0 rfl) rfl ?_
  refine J_getf dX9_isBout_6 fl_X9_151 (hS.at 0 rfl) rfl ?_
  refine J_iconst (v := 1) dX9_isBout_9 (by decide) ?_
  refine J_isub dX9_isBout_10 ?_
  refine J_callSr (As := [_, _, _]) dX9_isBout_11 ml_X9_68 cal_X9_isIn sm_X9_isIn rfl rfl (Nat.le_of_ble_eq_true rfl) ⟨by decide, by decide⟩ ⟨by decide, by decide⟩ (c_X9_isIn hst _ _ _) ?_
  refine J_ireturn dX9_isBout_14 rfl nar_b (by decide) (by decide) ?_
  exact ⟨by rw [xx_b_iff hbi], rfl, rfl⟩
theorem xx_w.cell {b z : Nat} {e : va_E} (h : A (b + z) = some e) : xx_w (b + z) [(0, e)] A := xx_w_cons h xx_w_nil
theorem c_X9_of (hst : l.stackTraces = false) (hM : xx_w bm (layM bp vL bn ba bm M) A) (hN : xx_w bp (layN nl bp P) A) (hS : xx_w bn (layS bn S) A) (hap : apR bm bp bn) (hok : okF (fS S P) nw nb r) {hz0 : Nat} {f : Nat → Int32} (hZ : xx_w hz0 [(0, .inl (0, 12, .inl f))] A) (hz : ¬ isM bm (hz0 + 0)) (w : Int32) {a : Ans} (ha : a = if okW (fS S P) w then (0, f (wi w)) else (1, 0)) : xx_C G l yX9_of mX9_of 2 43 0 0 [.ref bm, .int w, .ref hz0] A n (rdA bm bp bn ba n vL M A a) := by
  have hn : P.1 0 = nI nw := hok.1.1
  have h12 := hok.1.2
  have hb : S.1 1 = nI nb := hok.2.1.1
  have h6 := hok.2.1.2
  refine J_C hst (by decide +kernel) rfl rfl rfl (Nat.le_of_ble_eq_true rfl) ?_
  show xx_J _ _ _ _ _ _ _ _ 0 [(0, _), (1, _), (2, _)] [] _ _ _ _
  refine J_aload_n dX9_of_0 rfl rfl ?_
  refine J_iconst (v := 0) dX9_of_1 (by decide) ?_
  refine J_putf dX9_of_2 fp_X9_62 (fun _ => ⟨rfl, rfl⟩) (hM.at 0 rfl) (Nat.le_of_ble_eq_true rfl) ?_
  refine J_genA (wM_s0_0 hM _) ((xx_mf.rf (bm := bm)).put (by omega) (by omega) _) (fun A1 w1 s1 o1 => ?_)
  have w1N := hN.mo o1 (m := 9) rfl hap.p (Or.inl rfl)
  have w1S := hS.mo o1 (m := 14) rfl hap.s (Or.inl rfl)
  have w1Z := hZ.mo o1 (m := 1) rfl (fun i hi => by rw [show i = 0 by omega]; exact hz) (Or.inl rfl)
  refine J_aload_n dX9_of_5 rfl rfl ?_
  refine J_iload_n dX9_of_6 rfl rfl ?_
  refine J_callVr (As := [_]) dX9_of_7 ml_X9_403 cal_X9_isOne im_X9_isOne se_X9_isOne (w1.at 0 rfl) rfl rfl rfl (Nat.le_of_ble_eq_true rfl) ⟨by decide, by decide⟩ ⟨by decide, by decide⟩ (c_X9_isOne hst w1 w1N hn h12 _) ?_
  refine J_ifb_eq (tgt := 19) dX9_of_10 rfl (fun h10 => ?_) (fun h10 => ?_)
  · have kh10 : ¬ (okW (fS S P) w) := h10
    refine J_aload_n dX9_of_19 rfl rfl ?_
    refine J_iconst (v := 1) dX9_of_20 (by decide) ?_
    refine J_callVw (As := [_]) dX9_of_21 ml_X9_393 cal_X9_no im_X9_no se_X9_no (w1.at 0 rfl) rfl rfl rfl (Nat.le_of_ble_eq_true rfl) ⟨by decide, by decide⟩ ⟨by decide, by decide⟩ (c_X9_no hst w1 _) (fun A2 hQ2 => ?_)
    skip
    refine J_ireturn dX9_of_24 rfl rfl (by decide) (by decide) ?_
    have e1 : a = (1, 0) := by rw [ha, if_neg kh10]
    unfold rdA
    rw [e1]
    exact ⟨rfl, rfl, _, (mS.s0 (mS.s0 mS.rf)), rfl, hQ2.1, (s1.trans hQ2.2)⟩
  · have kh10 : (okW (fS S P) w) := h10
    obtain ⟨ex10, ei10⟩ := kh10.i hn h12
    refine J_aload_n dX9_of_13 rfl rfl ?_
    refine J_iload_n dX9_of_14 rfl rfl ?_
    refine J_ialdN (wi w) dX9_of_15 (w1Z.at 0 rfl) ex10 (by omega) (by decide) ?_
    refine J_goto (tgt := 24) dX9_of_16 rfl ?_
    refine J_ireturn dX9_of_24 rfl rfl (by decide) (by decide) ?_
    have e1 : a = (0, f (wi w)) := by rw [ha, if_pos kh10]
    unfold rdA
    rw [e1]
    exact ⟨rfl, rfl, _, (mS.s0 mS.rf), rfl, w1, s1⟩
set_option maxHeartbeats 1000000 in
theorem c_X9_strengthOf (hst : l.stackTraces = false) (hM : xx_w bm (layM bp vL bn ba bm M) A) (hN : xx_w bp (layN nl bp P) A) (hS : xx_w bn (layS bn S) A) (hap : apR bm bp bn) (hok : okF (fS S P) nw nb r) (w : Int32) : xx_C G l yX9_strengthOf mX9_strengthOf 3 65 0 0 [.ref bm, .int w] A n (rdA bm bp bn ba n vL M A (aOf 0 (fS S P) w)) := by
  refine J_C hst (by decide +kernel) rfl rfl rfl (Nat.le_of_ble_eq_true rfl) ?_
  show xx_J _ _ _ _ _ _ _ _ 0 [(0, _), (1, _)] [] _ _ _ _
  have ha : aOf 0 (fS S P) w = if okW (fS S P) w then (0, P.2 2 (wi w)) else (1, 0) := by
    unfold aOf
    split
    · rename_i h
      have := (h.i hok.1.1 hok.1.2).2
      have := hok.1.2
      rw [fS_c (by omega)]; rfl
    · rfl
  refine J_aload_n dX9_strengthOf_0 rfl rfl ?_
  refine J_iload_n dX9_strengthOf_1 rfl rfl ?_
  refine J_aload_n dX9_strengthOf_2 rfl rfl ?_
  refine J_getf dX9_strengthOf_3 fl_X9_20 (hM.at 0 rfl) rfl ?_
  refine J_getf dX9_strengthOf_6 fl_X9_83 (hN.at 0 rfl) rfl ?_
  refine J_callVw (As := [_, _]) dX9_strengthOf_9 ml_X9_406 cal_X9_of im_X9_of se_X9_of (hM.at 0 rfl) rfl rfl rfl (Nat.le_of_ble_eq_true rfl) ⟨by decide, by decide⟩ ⟨by decide, by decide⟩ (c_X9_of hst hM hN hS hap hok (xx_w.cell (z := 2) (hN.at 2 rfl)) (hap.p 2 (by decide)) w ha) (fun A1 hQ1 => ?_)
  skip
  refine J_ireturn dX9_strengthOf_12 rfl rfl (by decide) (by decide) ?_
  exact ⟨rfl, rfl, hQ1⟩
set_option maxHeartbeats 1000000 in
theorem c_X9_pointsOf (hst : l.stackTraces = false) (hM : xx_w bm (layM bp vL bn ba bm M) A) (hN : xx_w bp (layN nl bp P) A) (hS : xx_w bn (layS bn S) A) (hap : apR bm bp bn) (hok : okF (fS S P) nw nb r) (w : Int32) : xx_C G l yX9_pointsOf mX9_pointsOf 3 65 0 0 [.ref bm, .int w] A n (rdA bm bp bn ba n vL M A (aOf 1 (fS S P) w)) := by
  refine J_C hst (by decide +kernel) rfl rfl rfl (Nat.le_of_ble_eq_true rfl) ?_
  show xx_J _ _ _ _ _ _ _ _ 0 [(0, _), (1, _)] [] _ _ _ _
  have ha : aOf 1 (fS S P) w = if okW (fS S P) w then (0, S.2 1 (wi w)) else (1, 0) := by
    unfold aOf
    split
    · rename_i h
      have := (h.i hok.1.1 hok.1.2).2
      have := hok.1.2
      rw [fS_c (by omega)]; rfl
    · rfl
  refine J_aload_n dX9_pointsOf_0 rfl rfl ?_
  refine J_iload_n dX9_pointsOf_1 rfl rfl ?_
  refine J_aload_n dX9_pointsOf_2 rfl rfl ?_
  refine J_getf dX9_pointsOf_3 fl_X9_40 (hM.at 0 rfl) rfl ?_
  refine J_getf dX9_pointsOf_6 fl_X9_76 (hS.at 0 rfl) rfl ?_
  refine J_callVw (As := [_, _]) dX9_pointsOf_9 ml_X9_406 cal_X9_of im_X9_of se_X9_of (hM.at 0 rfl) rfl rfl rfl (Nat.le_of_ble_eq_true rfl) ⟨by decide, by decide⟩ ⟨by decide, by decide⟩ (c_X9_of hst hM hN hS hap hok (xx_w.cell (z := 1) (hS.at 1 rfl)) (hap.s 1 (by decide)) w ha) (fun A1 hQ1 => ?_)
  skip
  refine J_ireturn dX9_pointsOf_12 rfl rfl (by decide) (by decide) ?_
  exact ⟨rfl, rfl, hQ1⟩
set_option maxHeartbeats 1000000 in
theorem c_X9_winsOf (hst : l.stackTraces = false) (hM : xx_w bm (layM bp vL bn ba bm M) A) (hN : xx_w bp (layN nl bp P) A) (hS : xx_w bn (layS bn S) A) (hap : apR bm bp bn) (hok : okF (fS S P) nw nb r) (w : Int32) : xx_C G l yX9_winsOf mX9_winsOf 3 65 0 0 [.ref bm, .int w] A n (rdA bm bp bn ba n vL M A (aOf 2 (fS S P) w)) := by
  refine J_C hst (by decide +kernel) rfl rfl rfl (Nat.le_of_ble_eq_true rfl) ?_
  show xx_J _ _ _ _ _ _ _ _ 0 [(0, _), (1, _)] [] _ _ _ _
  have ha : aOf 2 (fS S P) w = if okW (fS S P) w then (0, S.2 2 (wi w)) else (1, 0) := by
    unfold aOf
    split
    · rename_i h
      have := (h.i hok.1.1 hok.1.2).2
      have := hok.1.2
      rw [fS_c (by omega)]; rfl
    · rfl
  refine J_aload_n dX9_winsOf_0 rfl rfl ?_
  refine J_iload_n dX9_winsOf_1 rfl rfl ?_
  refine J_aload_n dX9_winsOf_2 rfl rfl ?_
  refine J_getf dX9_winsOf_3 fl_X9_40 (hM.at 0 rfl) rfl ?_
  refine J_getf dX9_winsOf_6 fl_X9_186 (hS.at 0 rfl) rfl ?_
  refine J_callVw (As := [_, _]) dX9_winsOf_9 ml_X9_406 cal_X9_of im_X9_of se_X9_of (hM.at 0 rfl) rfl rfl rfl (Nat.le_of_ble_eq_true rfl) ⟨by decide, by decide⟩ ⟨by decide, by decide⟩ (c_X9_of hst hM hN hS hap hok (xx_w.cell (z := 2) (hS.at 2 rfl)) (hap.s 2 (by decide)) w ha) (fun A1 hQ1 => ?_)
  skip
  refine J_ireturn dX9_winsOf_12 rfl rfl (by decide) (by decide) ?_
  exact ⟨rfl, rfl, hQ1⟩
set_option maxHeartbeats 1000000 in
theorem c_X9_drawsOf (hst : l.stackTraces = false) (hM : xx_w bm (layM bp vL bn ba bm M) A) (hN : xx_w bp (layN nl bp P) A) (hS : xx_w bn (layS bn S) A) (hap : apR bm bp bn) (hok : okF (fS S P) nw nb r) (w : Int32) : xx_C G l yX9_drawsOf mX9_drawsOf 3 65 0 0 [.ref bm, .int w] A n (rdA bm bp bn ba n vL M A (aOf 3 (fS S P) w)) := by
  refine J_C hst (by decide +kernel) rfl rfl rfl (Nat.le_of_ble_eq_true rfl) ?_
  show xx_J _ _ _ _ _ _ _ _ 0 [(0, _), (1, _)] [] _ _ _ _
  have ha : aOf 3 (fS S P) w = if okW (fS S P) w then (0, S.2 3 (wi w)) else (1, 0) := by
    unfold aOf
    split
    · rename_i h
      have := (h.i hok.1.1 hok.1.2).2
      have := hok.1.2
      rw [fS_c (by omega)]; rfl
    · rfl
  refine J_aload_n dX9_drawsOf_0 rfl rfl ?_
  refine J_iload_n dX9_drawsOf_1 rfl rfl ?_
  refine J_aload_n dX9_drawsOf_2 rfl rfl ?_
  refine J_getf dX9_drawsOf_3 fl_X9_40 (hM.at 0 rfl) rfl ?_
  refine J_getf dX9_drawsOf_6 fl_X9_183 (hS.at 0 rfl) rfl ?_
  refine J_callVw (As := [_, _]) dX9_drawsOf_9 ml_X9_406 cal_X9_of im_X9_of se_X9_of (hM.at 0 rfl) rfl rfl rfl (Nat.le_of_ble_eq_true rfl) ⟨by decide, by decide⟩ ⟨by decide, by decide⟩ (c_X9_of hst hM hN hS hap hok (xx_w.cell (z := 3) (hS.at 3 rfl)) (hap.s 3 (by decide)) w ha) (fun A1 hQ1 => ?_)
  skip
  refine J_ireturn dX9_drawsOf_12 rfl rfl (by decide) (by decide) ?_
  exact ⟨rfl, rfl, hQ1⟩
set_option maxHeartbeats 1000000 in
theorem c_X9_lossesOf (hst : l.stackTraces = false) (hM : xx_w bm (layM bp vL bn ba bm M) A) (hN : xx_w bp (layN nl bp P) A) (hS : xx_w bn (layS bn S) A) (hap : apR bm bp bn) (hok : okF (fS S P) nw nb r) (w : Int32) : xx_C G l yX9_lossesOf mX9_lossesOf 3 65 0 0 [.ref bm, .int w] A n (rdA bm bp bn ba n vL M A (aOf 4 (fS S P) w)) := by
  refine J_C hst (by decide +kernel) rfl rfl rfl (Nat.le_of_ble_eq_true rfl) ?_
  show xx_J _ _ _ _ _ _ _ _ 0 [(0, _), (1, _)] [] _ _ _ _
  have ha : aOf 4 (fS S P) w = if okW (fS S P) w then (0, S.2 4 (wi w)) else (1, 0) := by
    unfold aOf
    split
    · rename_i h
      have := (h.i hok.1.1 hok.1.2).2
      have := hok.1.2
      rw [fS_c (by omega)]; rfl
    · rfl
  refine J_aload_n dX9_lossesOf_0 rfl rfl ?_
  refine J_iload_n dX9_lossesOf_1 rfl rfl ?_
  refine J_aload_n dX9_lossesOf_2 rfl rfl ?_
  refine J_getf dX9_lossesOf_3 fl_X9_40 (hM.at 0 rfl) rfl ?_
  refine J_getf dX9_lossesOf_6 fl_X9_189 (hS.at 0 rfl) rfl ?_
  refine J_callVw (As := [_, _]) dX9_lossesOf_9 ml_X9_406 cal_X9_of im_X9_of se_X9_of (hM.at 0 rfl) rfl rfl rfl (Nat.le_of_ble_eq_true rfl) ⟨by decide, by decide⟩ ⟨by decide, by decide⟩ (c_X9_of hst hM hN hS hap hok (xx_w.cell (z := 4) (hS.at 4 rfl)) (hap.s 4 (by decide)) w ha) (fun A1 hQ1 => ?_)
  skip
  refine J_ireturn dX9_lossesOf_12 rfl rfl (by decide) (by decide) ?_
  exact ⟨rfl, rfl, hQ1⟩
set_option maxHeartbeats 1000000 in
theorem c_X9_restsOf (hst : l.stackTraces = false) (hM : xx_w bm (layM bp vL bn ba bm M) A) (hN : xx_w bp (layN nl bp P) A) (hS : xx_w bn (layS bn S) A) (hap : apR bm bp bn) (hok : okF (fS S P) nw nb r) (w : Int32) : xx_C G l yX9_restsOf mX9_restsOf 3 65 0 0 [.ref bm, .int w] A n (rdA bm bp bn ba n vL M A (aOf 5 (fS S P) w)) := by
  refine J_C hst (by decide +kernel) rfl rfl rfl (Nat.le_of_ble_eq_true rfl) ?_
  show xx_J _ _ _ _ _ _ _ _ 0 [(0, _), (1, _)] [] _ _ _ _
  have ha : aOf 5 (fS S P) w = if okW (fS S P) w then (0, S.2 5 (wi w)) else (1, 0) := by
    unfold aOf
    split
    · rename_i h
      have := (h.i hok.1.1 hok.1.2).2
      have := hok.1.2
      rw [fS_c (by omega)]; rfl
    · rfl
  refine J_aload_n dX9_restsOf_0 rfl rfl ?_
  refine J_iload_n dX9_restsOf_1 rfl rfl ?_
  refine J_aload_n dX9_restsOf_2 rfl rfl ?_
  refine J_getf dX9_restsOf_3 fl_X9_40 (hM.at 0 rfl) rfl ?_
  refine J_getf dX9_restsOf_6 fl_X9_117 (hS.at 0 rfl) rfl ?_
  refine J_callVw (As := [_, _]) dX9_restsOf_9 ml_X9_406 cal_X9_of im_X9_of se_X9_of (hM.at 0 rfl) rfl rfl rfl (Nat.le_of_ble_eq_true rfl) ⟨by decide, by decide⟩ ⟨by decide, by decide⟩ (c_X9_of hst hM hN hS hap hok (xx_w.cell (z := 5) (hS.at 5 rfl)) (hap.s 5 (by decide)) w ha) (fun A1 hQ1 => ?_)
  skip
  refine J_ireturn dX9_restsOf_12 rfl rfl (by decide) (by decide) ?_
  exact ⟨rfl, rfl, hQ1⟩
set_option maxHeartbeats 1000000 in
theorem c_X9_beltsOf (hst : l.stackTraces = false) (hM : xx_w bm (layM bp vL bn ba bm M) A) (hN : xx_w bp (layN nl bp P) A) (hS : xx_w bn (layS bn S) A) (hap : apR bm bp bn) (hok : okF (fS S P) nw nb r) (w : Int32) : xx_C G l yX9_beltsOf mX9_beltsOf 3 65 0 0 [.ref bm, .int w] A n (rdA bm bp bn ba n vL M A (aOf 6 (fS S P) w)) := by
  refine J_C hst (by decide +kernel) rfl rfl rfl (Nat.le_of_ble_eq_true rfl) ?_
  show xx_J _ _ _ _ _ _ _ _ 0 [(0, _), (1, _)] [] _ _ _ _
  have ha : aOf 6 (fS S P) w = if okW (fS S P) w then (0, S.2 6 (wi w)) else (1, 0) := by
    unfold aOf
    split
    · rename_i h
      have := (h.i hok.1.1 hok.1.2).2
      have := hok.1.2
      rw [fS_c (by omega)]; rfl
    · rfl
  refine J_aload_n dX9_beltsOf_0 rfl rfl ?_
  refine J_iload_n dX9_beltsOf_1 rfl rfl ?_
  refine J_aload_n dX9_beltsOf_2 rfl rfl ?_
  refine J_getf dX9_beltsOf_3 fl_X9_40 (hM.at 0 rfl) rfl ?_
  refine J_getf dX9_beltsOf_6 fl_X9_142 (hS.at 0 rfl) rfl ?_
  refine J_callVw (As := [_, _]) dX9_beltsOf_9 ml_X9_406 cal_X9_of im_X9_of se_X9_of (hM.at 0 rfl) rfl rfl rfl (Nat.le_of_ble_eq_true rfl) ⟨by decide, by decide⟩ ⟨by decide, by decide⟩ (c_X9_of hst hM hN hS hap hok (xx_w.cell (z := 6) (hS.at 6 rfl)) (hap.s 6 (by decide)) w ha) (fun A1 hQ1 => ?_)
  skip
  refine J_ireturn dX9_beltsOf_12 rfl rfl (by decide) (by decide) ?_
  exact ⟨rfl, rfl, hQ1⟩
set_option maxHeartbeats 1000000 in
theorem c_X9_floatsOf (hst : l.stackTraces = false) (hM : xx_w bm (layM bp vL bn ba bm M) A) (hN : xx_w bp (layN nl bp P) A) (hS : xx_w bn (layS bn S) A) (hap : apR bm bp bn) (hok : okF (fS S P) nw nb r) (w : Int32) : xx_C G l yX9_floatsOf mX9_floatsOf 3 65 0 0 [.ref bm, .int w] A n (rdA bm bp bn ba n vL M A (aOf 7 (fS S P) w)) := by
  refine J_C hst (by decide +kernel) rfl rfl rfl (Nat.le_of_ble_eq_true rfl) ?_
  show xx_J _ _ _ _ _ _ _ _ 0 [(0, _), (1, _)] [] _ _ _ _
  have ha : aOf 7 (fS S P) w = if okW (fS S P) w then (0, S.2 7 (wi w)) else (1, 0) := by
    unfold aOf
    split
    · rename_i h
      have := (h.i hok.1.1 hok.1.2).2
      have := hok.1.2
      rw [fS_c (by omega)]; rfl
    · rfl
  refine J_aload_n dX9_floatsOf_0 rfl rfl ?_
  refine J_iload_n dX9_floatsOf_1 rfl rfl ?_
  refine J_aload_n dX9_floatsOf_2 rfl rfl ?_
  refine J_getf dX9_floatsOf_3 fl_X9_40 (hM.at 0 rfl) rfl ?_
  refine J_getf dX9_floatsOf_6 fl_X9_157 (hS.at 0 rfl) rfl ?_
  refine J_callVw (As := [_, _]) dX9_floatsOf_9 ml_X9_406 cal_X9_of im_X9_of se_X9_of (hM.at 0 rfl) rfl rfl rfl (Nat.le_of_ble_eq_true rfl) ⟨by decide, by decide⟩ ⟨by decide, by decide⟩ (c_X9_of hst hM hN hS hap hok (xx_w.cell (z := 7) (hS.at 7 rfl)) (hap.s 7 (by decide)) w ha) (fun A1 hQ1 => ?_)
  skip
  refine J_ireturn dX9_floatsOf_12 rfl rfl (by decide) (by decide) ?_
  exact ⟨rfl, rfl, hQ1⟩
set_option maxHeartbeats 1000000 in
theorem c_X9_pointsOfMet (hst : l.stackTraces = false) (hM : xx_w bm (layM bp vL bn ba bm M) A) (hN : xx_w bp (layN nl bp P) A) (hS : xx_w bn (layS bn S) A) (hap : apR bm bp bn) (hok : okF (fS S P) nw nb r) (w : Int32) : xx_C G l yX9_pointsOfMet mX9_pointsOfMet 2 46 0 0 [.ref bm, .int w] A n (rdA bm bp bn ba n vL M A (aRpt nw (fS S P) w)) := by
  have hn : P.1 0 = nI nw := hok.1.1
  have h12 := hok.1.2
  have hb : S.1 1 = nI nb := hok.2.1.1
  have h6 := hok.2.1.2
  refine J_C hst (by decide +kernel) rfl rfl rfl (Nat.le_of_ble_eq_true rfl) ?_
  show xx_J _ _ _ _ _ _ _ _ 0 [(0, _), (1, _)] [] _ _ _ _
  refine J_aload_n dX9_pointsOfMet_0 rfl rfl ?_
  refine J_iconst (v := 0) dX9_pointsOfMet_1 (by decide) ?_
  refine J_putf dX9_pointsOfMet_2 fp_X9_62 (fun _ => ⟨rfl, rfl⟩) (hM.at 0 rfl) (Nat.le_of_ble_eq_true rfl) ?_
  refine J_genA (wM_s0_0 hM _) ((xx_mf.rf (bm := bm)).put (by omega) (by omega) _) (fun A1 w1 s1 o1 => ?_)
  have w1N := hN.mo o1 (m := 9) rfl hap.p (Or.inl rfl)
  have w1S := hS.mo o1 (m := 14) rfl hap.s (Or.inl rfl)
  refine J_aload_n dX9_pointsOfMet_5 rfl rfl ?_
  refine J_iload_n dX9_pointsOfMet_6 rfl rfl ?_
  refine J_callVr (As := [_]) dX9_pointsOfMet_7 ml_X9_403 cal_X9_isOne im_X9_isOne se_X9_isOne (w1.at 0 rfl) rfl rfl rfl (Nat.le_of_ble_eq_true rfl) ⟨by decide, by decide⟩ ⟨by decide, by decide⟩ (c_X9_isOne hst w1 w1N hn h12 _) ?_
  refine J_ifb_eq (tgt := 25) dX9_pointsOfMet_10 rfl (fun h10 => ?_) (fun h10 => ?_)
  · have kh10 : ¬ (okW (fS S P) w) := h10
    refine J_aload_n dX9_pointsOfMet_25 rfl rfl ?_
    refine J_iconst (v := 1) dX9_pointsOfMet_26 (by decide) ?_
    refine J_callVw (As := [_]) dX9_pointsOfMet_27 ml_X9_393 cal_X9_no im_X9_no se_X9_no (w1.at 0 rfl) rfl rfl rfl (Nat.le_of_ble_eq_true rfl) ⟨by decide, by decide⟩ ⟨by decide, by decide⟩ (c_X9_no hst w1 _) (fun A2 hQ2 => ?_)
    skip
    refine J_ireturn dX9_pointsOfMet_30 rfl rfl (by decide) (by decide) ?_
    have e1 : (aRpt nw (fS S P) w) = (1, 0) := by unfold aRpt; rw [if_neg kh10]
    unfold rdA
    rw [e1]
    exact ⟨rfl, rfl, _, (mS.s0 (mS.s0 mS.rf)), rfl, hQ2.1, (s1.trans hQ2.2)⟩
  · have kh10 : (okW (fS S P) w) := h10
    obtain ⟨ex10, ei10⟩ := kh10.i hn h12
    refine J_aload_n dX9_pointsOfMet_13 rfl rfl ?_
    refine J_aload_n dX9_pointsOfMet_14 rfl rfl ?_
    refine J_getf dX9_pointsOfMet_15 fl_X9_40 (w1.at 0 rfl) rfl ?_
    refine J_iload_n dX9_pointsOfMet_18 rfl rfl ?_
    refine J_callVr (As := [_, _]) dX9_pointsOfMet_19 ml_X9_79 cal_X9_ofMet im_X9_ofMet se_X9_ofMet (w1.at 0 rfl) rfl rfl rfl (Nat.le_of_ble_eq_true rfl) ⟨by decide, by decide⟩ ⟨by decide, by decide⟩ (c_X9_ofMet hst w1 w1N w1S hn h12 ex10 ei10) ?_
    refine J_goto (tgt := 30) dX9_pointsOfMet_22 rfl ?_
    refine J_ireturn dX9_pointsOfMet_30 rfl rfl (by decide) (by decide) ?_
    have e1 : (aRpt nw (fS S P) w) = (0, rpts (fS S P) nw (wi w)) := by unfold aRpt; rw [if_pos kh10]
    unfold rdA
    rw [e1]
    exact ⟨rfl, rfl, _, (mS.s0 mS.rf), rfl, w1, s1⟩
set_option maxHeartbeats 1000000 in
theorem c_X9_rankOf (hst : l.stackTraces = false) (hM : xx_w bm (layM bp vL bn ba bm M) A) (hN : xx_w bp (layN nl bp P) A) (hS : xx_w bn (layS bn S) A) (hap : apR bm bp bn) (hok : okF (fS S P) nw nb r) (w : Int32) : xx_C G l yX9_rankOf mX9_rankOf 4 94 0 0 [.ref bm, .int w] A n (rdA bm bp bn ba n vL M A (aRnk nw (fS S P) w)) := by
  have hn : P.1 0 = nI nw := hok.1.1
  have h12 := hok.1.2
  have hb : S.1 1 = nI nb := hok.2.1.1
  have h6 := hok.2.1.2
  refine J_C hst (by decide +kernel) rfl rfl rfl (Nat.le_of_ble_eq_true rfl) ?_
  show xx_J _ _ _ _ _ _ _ _ 0 [(0, _), (1, _)] [] _ _ _ _
  refine J_aload_n dX9_rankOf_0 rfl rfl ?_
  refine J_iconst (v := 0) dX9_rankOf_1 (by decide) ?_
  refine J_putf dX9_rankOf_2 fp_X9_62 (fun _ => ⟨rfl, rfl⟩) (hM.at 0 rfl) (Nat.le_of_ble_eq_true rfl) ?_
  refine J_genA (wM_s0_0 hM _) ((xx_mf.rf (bm := bm)).put (by omega) (by omega) _) (fun A1 w1 s1 o1 => ?_)
  have w1N := hN.mo o1 (m := 9) rfl hap.p (Or.inl rfl)
  have w1S := hS.mo o1 (m := 14) rfl hap.s (Or.inl rfl)
  refine J_aload_n dX9_rankOf_5 rfl rfl ?_
  refine J_iload_n dX9_rankOf_6 rfl rfl ?_
  refine J_callVr (As := [_]) dX9_rankOf_7 ml_X9_403 cal_X9_isOne im_X9_isOne se_X9_isOne (w1.at 0 rfl) rfl rfl rfl (Nat.le_of_ble_eq_true rfl) ⟨by decide, by decide⟩ ⟨by decide, by decide⟩ (c_X9_isOne hst w1 w1N hn h12 _) ?_
  refine J_ifb_eq (tgt := 25) dX9_rankOf_10 rfl (fun h10 => ?_) (fun h10 => ?_)
  · have kh10 : ¬ (okW (fS S P) w) := h10
    refine J_aload_n dX9_rankOf_25 rfl rfl ?_
    refine J_iconst (v := 1) dX9_rankOf_26 (by decide) ?_
    refine J_callVw (As := [_]) dX9_rankOf_27 ml_X9_393 cal_X9_no im_X9_no se_X9_no (w1.at 0 rfl) rfl rfl rfl (Nat.le_of_ble_eq_true rfl) ⟨by decide, by decide⟩ ⟨by decide, by decide⟩ (c_X9_no hst w1 _) (fun A2 hQ2 => ?_)
    skip
    refine J_ireturn dX9_rankOf_30 rfl rfl (by decide) (by decide) ?_
    have e1 : (aRnk nw (fS S P) w) = (1, 0) := by unfold aRnk; rw [if_neg kh10]
    unfold rdA
    rw [e1]
    exact ⟨rfl, rfl, _, (mS.s0 (mS.s0 mS.rf)), rfl, hQ2.1, (s1.trans hQ2.2)⟩
  · have kh10 : (okW (fS S P) w) := h10
    obtain ⟨ex10, ei10⟩ := kh10.i hn h12
    refine J_aload_n dX9_rankOf_13 rfl rfl ?_
    refine J_aload_n dX9_rankOf_14 rfl rfl ?_
    refine J_getf dX9_rankOf_15 fl_X9_40 (w1.at 0 rfl) rfl ?_
    refine J_iload_n dX9_rankOf_18 rfl rfl ?_
    refine J_callVr (As := [_, _]) dX9_rankOf_19 ml_X9_90 cal_X9_rank im_X9_rank se_X9_rank (w1.at 0 rfl) rfl rfl rfl (Nat.le_of_ble_eq_true rfl) ⟨by decide, by decide⟩ ⟨by decide, by decide⟩ (c_X9_rank hst w1 w1N w1S hn h12 hok.bd ex10 ei10) ?_
    refine J_goto (tgt := 30) dX9_rankOf_22 rfl ?_
    refine J_ireturn dX9_rankOf_30 rfl rfl (by decide) (by decide) ?_
    have e1 : (aRnk nw (fS S P) w) = (0, nI (rkN (f_R (fS S P) nw) nw (wi w))) := by unfold aRnk; rw [if_pos kh10]
    unfold rdA
    rw [e1]
    exact ⟨rfl, rfl, _, (mS.s0 mS.rf), rfl, w1, s1⟩
set_option maxHeartbeats 1000000 in
theorem c_X9_wrestlerAt (hst : l.stackTraces = false) (hM : xx_w bm (layM bp vL bn ba bm M) A) (hN : xx_w bp (layN nl bp P) A) (hS : xx_w bn (layS bn S) A) (hap : apR bm bp bn) (hok : okF (fS S P) nw nb r) (w : Int32) : xx_C G l yX9_wrestlerAt mX9_wrestlerAt 5 117 0 0 [.ref bm, .int w] A n (rdA bm bp bn ba n vL M A (aAt nw (fS S P) w)) := by
  have hn : P.1 0 = nI nw := hok.1.1
  have h12 := hok.1.2
  have hb : S.1 1 = nI nb := hok.2.1.1
  have h6 := hok.2.1.2
  refine J_C hst (by decide +kernel) rfl rfl rfl (Nat.le_of_ble_eq_true rfl) ?_
  show xx_J _ _ _ _ _ _ _ _ 0 [(0, _), (1, _)] [] _ _ _ _
  refine J_aload_n dX9_wrestlerAt_0 rfl rfl ?_
  refine J_iconst (v := 0) dX9_wrestlerAt_1 (by decide) ?_
  refine J_putf dX9_wrestlerAt_2 fp_X9_62 (fun _ => ⟨rfl, rfl⟩) (hM.at 0 rfl) (Nat.le_of_ble_eq_true rfl) ?_
  refine J_genA (wM_s0_0 hM _) ((xx_mf.rf (bm := bm)).put (by omega) (by omega) _) (fun A1 w1 s1 o1 => ?_)
  have w1N := hN.mo o1 (m := 9) rfl hap.p (Or.inl rfl)
  have w1S := hS.mo o1 (m := 14) rfl hap.s (Or.inl rfl)
  refine J_aload_n dX9_wrestlerAt_5 rfl rfl ?_
  refine J_iload_n dX9_wrestlerAt_6 rfl rfl ?_
  refine J_callVr (As := [_]) dX9_wrestlerAt_7 ml_X9_403 cal_X9_isOne im_X9_isOne se_X9_isOne (w1.at 0 rfl) rfl rfl rfl (Nat.le_of_ble_eq_true rfl) ⟨by decide, by decide⟩ ⟨by decide, by decide⟩ (c_X9_isOne hst w1 w1N hn h12 _) ?_
  refine J_ifb_eq (tgt := 25) dX9_wrestlerAt_10 rfl (fun h10 => ?_) (fun h10 => ?_)
  · have kh10 : ¬ (okW (fS S P) w) := h10
    refine J_aload_n dX9_wrestlerAt_25 rfl rfl ?_
    refine J_iconst (v := 1) dX9_wrestlerAt_26 (by decide) ?_
    refine J_callVw (As := [_]) dX9_wrestlerAt_27 ml_X9_393 cal_X9_no im_X9_no se_X9_no (w1.at 0 rfl) rfl rfl rfl (Nat.le_of_ble_eq_true rfl) ⟨by decide, by decide⟩ ⟨by decide, by decide⟩ (c_X9_no hst w1 _) (fun A2 hQ2 => ?_)
    skip
    refine J_ireturn dX9_wrestlerAt_30 rfl rfl (by decide) (by decide) ?_
    have e1 : (aAt nw (fS S P) w) = (1, 0) := by unfold aAt; rw [if_neg kh10]
    unfold rdA
    rw [e1]
    exact ⟨rfl, rfl, _, (mS.s0 (mS.s0 mS.rf)), rfl, hQ2.1, (s1.trans hQ2.2)⟩
  · have kh10 : (okW (fS S P) w) := h10
    obtain ⟨ex10, ei10⟩ := kh10.i hn h12
    refine J_aload_n dX9_wrestlerAt_13 rfl rfl ?_
    refine J_aload_n dX9_wrestlerAt_14 rfl rfl ?_
    refine J_getf dX9_wrestlerAt_15 fl_X9_40 (w1.at 0 rfl) rfl ?_
    refine J_iload_n dX9_wrestlerAt_18 rfl rfl ?_
    refine J_callVr (As := [_, _]) dX9_wrestlerAt_19 ml_X9_111 cal_X9_at im_X9_at se_X9_at (w1.at 0 rfl) rfl rfl rfl (Nat.le_of_ble_eq_true rfl) ⟨by decide, by decide⟩ ⟨by decide, by decide⟩ (c_X9_at hst w1 w1N w1S hn h12 hok.bd (lsF_ok (fS S P) nw) ex10 ei10) ?_
    refine J_goto (tgt := 30) dX9_wrestlerAt_22 rfl ?_
    refine J_ireturn dX9_wrestlerAt_30 rfl rfl (by decide) (by decide) ?_
    have e1 : (aAt nw (fS S P) w) = (0, nI ((lsF (fS S P) nw).getD (wi w) 0)) := by unfold aAt; rw [if_pos kh10]
    unfold rdA
    rw [e1]
    exact ⟨rfl, rfl, _, (mS.s0 mS.rf), rfl, w1, s1⟩
set_option maxHeartbeats 1000000 in
theorem c_X9_timesMet (hst : l.stackTraces = false) (hM : xx_w bm (layM bp vL bn ba bm M) A) (hN : xx_w bp (layN nl bp P) A) (hS : xx_w bn (layS bn S) A) (hap : apR bm bp bn) (hok : okF (fS S P) nw nb r) (w v : Int32) : xx_C G l yX9_timesMet mX9_timesMet 2 43 0 0 [.ref bm, .int w, .int v] A n (rdA bm bp bn ba n vL M A (aMet (fS S P) w v)) := by
  have hn : P.1 0 = nI nw := hok.1.1
  have h12 := hok.1.2
  have hb : S.1 1 = nI nb := hok.2.1.1
  have h6 := hok.2.1.2
  refine J_C hst (by decide +kernel) rfl rfl rfl (Nat.le_of_ble_eq_true rfl) ?_
  show xx_J _ _ _ _ _ _ _ _ 0 [(0, _), (1, _), (2, _)] [] _ _ _ _
  refine J_aload_n dX9_timesMet_0 rfl rfl ?_
  refine J_iconst (v := 0) dX9_timesMet_1 (by decide) ?_
  refine J_putf dX9_timesMet_2 fp_X9_62 (fun _ => ⟨rfl, rfl⟩) (hM.at 0 rfl) (Nat.le_of_ble_eq_true rfl) ?_
  refine J_genA (wM_s0_0 hM _) ((xx_mf.rf (bm := bm)).put (by omega) (by omega) _) (fun A1 w1 s1 o1 => ?_)
  have w1N := hN.mo o1 (m := 9) rfl hap.p (Or.inl rfl)
  have w1S := hS.mo o1 (m := 14) rfl hap.s (Or.inl rfl)
  refine J_aload_n dX9_timesMet_5 rfl rfl ?_
  refine J_iload_n dX9_timesMet_6 rfl rfl ?_
  refine J_callVr (As := [_]) dX9_timesMet_7 ml_X9_403 cal_X9_isOne im_X9_isOne se_X9_isOne (w1.at 0 rfl) rfl rfl rfl (Nat.le_of_ble_eq_true rfl) ⟨by decide, by decide⟩ ⟨by decide, by decide⟩ (c_X9_isOne hst w1 w1N hn h12 _) ?_
  refine J_ifb_eq (tgt := 33) dX9_timesMet_10 rfl (fun h10 => ?_) (fun h10 => ?_)
  · have kh10 : ¬ (okW (fS S P) w) := h10
    refine J_aload_n dX9_timesMet_33 rfl rfl ?_
    refine J_iconst (v := 1) dX9_timesMet_34 (by decide) ?_
    refine J_callVw (As := [_]) dX9_timesMet_35 ml_X9_393 cal_X9_no im_X9_no se_X9_no (w1.at 0 rfl) rfl rfl rfl (Nat.le_of_ble_eq_true rfl) ⟨by decide, by decide⟩ ⟨by decide, by decide⟩ (c_X9_no hst w1 _) (fun A2 hQ2 => ?_)
    skip
    refine J_ireturn dX9_timesMet_38 rfl rfl (by decide) (by decide) ?_
    have e1 : (aMet (fS S P) w v) = (1, 0) := by unfold aMet; rw [if_neg kh10]
    unfold rdA
    rw [e1]
    exact ⟨rfl, rfl, _, (mS.s0 (mS.s0 mS.rf)), rfl, hQ2.1, (s1.trans hQ2.2)⟩
  · have kh10 : (okW (fS S P) w) := h10
    obtain ⟨ex10, ei10⟩ := kh10.i hn h12
    refine J_aload_n dX9_timesMet_13 rfl rfl ?_
    refine J_iload_n dX9_timesMet_14 rfl rfl ?_
    refine J_callVr (As := [_]) dX9_timesMet_15 ml_X9_403 cal_X9_isOne im_X9_isOne se_X9_isOne (w1.at 0 rfl) rfl rfl rfl (Nat.le_of_ble_eq_true rfl) ⟨by decide, by decide⟩ ⟨by decide, by decide⟩ (c_X9_isOne hst w1 w1N hn h12 _) ?_
    refine J_ifb_eq (tgt := 33) dX9_timesMet_18 rfl (fun h18 => ?_) (fun h18 => ?_)
    · have kh18 : ¬ (okW (fS S P) v) := h18
      refine J_aload_n dX9_timesMet_33 rfl rfl ?_
      refine J_iconst (v := 1) dX9_timesMet_34 (by decide) ?_
      refine J_callVw (As := [_]) dX9_timesMet_35 ml_X9_393 cal_X9_no im_X9_no se_X9_no (w1.at 0 rfl) rfl rfl rfl (Nat.le_of_ble_eq_true rfl) ⟨by decide, by decide⟩ ⟨by decide, by decide⟩ (c_X9_no hst w1 _) (fun A3 hQ3 => ?_)
      skip
      refine J_ireturn dX9_timesMet_38 rfl rfl (by decide) (by decide) ?_
      have e1 : (aMet (fS S P) w v) = (1, 0) := by unfold aMet; rw [if_pos kh10, if_neg kh18]
      unfold rdA
      rw [e1]
      exact ⟨rfl, rfl, _, (mS.s0 (mS.s0 mS.rf)), rfl, hQ3.1, (s1.trans hQ3.2)⟩
    · have kh18 : (okW (fS S P) v) := h18
      obtain ⟨ex18, ei18⟩ := kh18.i hn h12
      refine J_aload_n dX9_timesMet_21 rfl rfl ?_
      refine J_getf dX9_timesMet_22 fl_X9_40 (w1.at 0 rfl) rfl ?_
      refine J_iload_n dX9_timesMet_25 rfl rfl ?_
      refine J_iload_n dX9_timesMet_26 rfl rfl ?_
      refine J_callVr (As := [_, _]) dX9_timesMet_27 ml_X9_72 cal_X8_met im_X8_met se_X8_met (w1S.at 0 rfl) rfl rfl rfl (Nat.le_of_ble_eq_true rfl) ⟨by decide, by decide⟩ ⟨by decide, by decide⟩ (c_X8_met hst w1S ex10 (by omega) ex18 (by omega)) ?_
      refine J_goto (tgt := 38) dX9_timesMet_30 rfl ?_
      refine J_ireturn dX9_timesMet_38 rfl rfl (by decide) (by decide) ?_
      have e1 : (aMet (fS S P) w v) = (0, (fS S P).2 3 (wi w * 12 + wi v)) := by unfold aMet; rw [if_pos kh10, if_pos kh18]
      unfold rdA
      rw [e1]
      exact ⟨rfl, rfl, _, (mS.s0 mS.rf), rfl, w1, s1⟩
set_option maxHeartbeats 1000000 in
theorem c_X9_redOf (hst : l.stackTraces = false) (hM : xx_w bm (layM bp vL bn ba bm M) A) (hN : xx_w bp (layN nl bp P) A) (hS : xx_w bn (layS bn S) A) (hap : apR bm bp bn) (hok : okF (fS S P) nw nb r) (w : Int32) : xx_C G l yX9_redOf mX9_redOf 2 43 0 0 [.ref bm, .int w] A n (rdA bm bp bn ba n vL M A (aRed (fS S P) w)) := by
  have hn : P.1 0 = nI nw := hok.1.1
  have h12 := hok.1.2
  have hb : S.1 1 = nI nb := hok.2.1.1
  have h6 := hok.2.1.2
  refine J_C hst (by decide +kernel) rfl rfl rfl (Nat.le_of_ble_eq_true rfl) ?_
  show xx_J _ _ _ _ _ _ _ _ 0 [(0, _), (1, _)] [] _ _ _ _
  refine J_aload_n dX9_redOf_0 rfl rfl ?_
  refine J_iconst (v := 0) dX9_redOf_1 (by decide) ?_
  refine J_putf dX9_redOf_2 fp_X9_62 (fun _ => ⟨rfl, rfl⟩) (hM.at 0 rfl) (Nat.le_of_ble_eq_true rfl) ?_
  refine J_genA (wM_s0_0 hM _) ((xx_mf.rf (bm := bm)).put (by omega) (by omega) _) (fun A1 w1 s1 o1 => ?_)
  have w1N := hN.mo o1 (m := 9) rfl hap.p (Or.inl rfl)
  have w1S := hS.mo o1 (m := 14) rfl hap.s (Or.inl rfl)
  refine J_aload_n dX9_redOf_5 rfl rfl ?_
  refine J_iload_n dX9_redOf_6 rfl rfl ?_
  refine J_callVr (As := [_]) dX9_redOf_7 ml_X9_413 cal_X9_isBout im_X9_isBout se_X9_isBout (w1.at 0 rfl) rfl rfl rfl (Nat.le_of_ble_eq_true rfl) ⟨by decide, by decide⟩ ⟨by decide, by decide⟩ (c_X9_isBout hst w1 w1N w1S hap hok _) ?_
  refine J_ifb_eq (tgt := 25) dX9_redOf_10 rfl (fun h10 => ?_) (fun h10 => ?_)
  · have kh10 : ¬ (okB (fS S P) w) := h10
    refine J_aload_n dX9_redOf_25 rfl rfl ?_
    refine J_iconst (v := 1) dX9_redOf_26 (by decide) ?_
    refine J_callVw (As := [_]) dX9_redOf_27 ml_X9_393 cal_X9_no im_X9_no se_X9_no (w1.at 0 rfl) rfl rfl rfl (Nat.le_of_ble_eq_true rfl) ⟨by decide, by decide⟩ ⟨by decide, by decide⟩ (c_X9_no hst w1 _) (fun A2 hQ2 => ?_)
    skip
    refine J_ireturn dX9_redOf_30 rfl rfl (by decide) (by decide) ?_
    have e1 : (aRed (fS S P) w) = (1, 0) := by unfold aRed; rw [if_neg kh10]
    unfold rdA
    rw [e1]
    exact ⟨rfl, rfl, _, (mS.s0 (mS.s0 mS.rf)), rfl, hQ2.1, (s1.trans hQ2.2)⟩
  · have kh10 : (okB (fS S P) w) := h10
    obtain ⟨ex10, ei10⟩ := kh10.i hb h6
    refine J_aload_n dX9_redOf_13 rfl rfl ?_
    refine J_getf dX9_redOf_14 fl_X9_40 (w1.at 0 rfl) rfl ?_
    refine J_getf dX9_redOf_17 fl_X9_163 (w1S.at 0 rfl) rfl ?_
    refine J_iload_n dX9_redOf_20 rfl rfl ?_
    refine J_ialdN (wi w) dX9_redOf_21 (w1S.at 11 rfl) ex10 (by omega) (by decide) ?_
    refine J_goto (tgt := 30) dX9_redOf_22 rfl ?_
    refine J_ireturn dX9_redOf_30 rfl rfl (by decide) (by decide) ?_
    have e1 : (aRed (fS S P) w) = (0, (fS S P).2 4 (wi w)) := by unfold aRed; rw [if_pos kh10]
    unfold rdA
    rw [e1]
    exact ⟨rfl, rfl, _, (mS.s0 mS.rf), rfl, w1, s1⟩
set_option maxHeartbeats 1000000 in
theorem c_X9_blueOf (hst : l.stackTraces = false) (hM : xx_w bm (layM bp vL bn ba bm M) A) (hN : xx_w bp (layN nl bp P) A) (hS : xx_w bn (layS bn S) A) (hap : apR bm bp bn) (hok : okF (fS S P) nw nb r) (w : Int32) : xx_C G l yX9_blueOf mX9_blueOf 2 43 0 0 [.ref bm, .int w] A n (rdA bm bp bn ba n vL M A (aBlu (fS S P) w)) := by
  have hn : P.1 0 = nI nw := hok.1.1
  have h12 := hok.1.2
  have hb : S.1 1 = nI nb := hok.2.1.1
  have h6 := hok.2.1.2
  refine J_C hst (by decide +kernel) rfl rfl rfl (Nat.le_of_ble_eq_true rfl) ?_
  show xx_J _ _ _ _ _ _ _ _ 0 [(0, _), (1, _)] [] _ _ _ _
  refine J_aload_n dX9_blueOf_0 rfl rfl ?_
  refine J_iconst (v := 0) dX9_blueOf_1 (by decide) ?_
  refine J_putf dX9_blueOf_2 fp_X9_62 (fun _ => ⟨rfl, rfl⟩) (hM.at 0 rfl) (Nat.le_of_ble_eq_true rfl) ?_
  refine J_genA (wM_s0_0 hM _) ((xx_mf.rf (bm := bm)).put (by omega) (by omega) _) (fun A1 w1 s1 o1 => ?_)
  have w1N := hN.mo o1 (m := 9) rfl hap.p (Or.inl rfl)
  have w1S := hS.mo o1 (m := 14) rfl hap.s (Or.inl rfl)
  refine J_aload_n dX9_blueOf_5 rfl rfl ?_
  refine J_iload_n dX9_blueOf_6 rfl rfl ?_
  refine J_callVr (As := [_]) dX9_blueOf_7 ml_X9_413 cal_X9_isBout im_X9_isBout se_X9_isBout (w1.at 0 rfl) rfl rfl rfl (Nat.le_of_ble_eq_true rfl) ⟨by decide, by decide⟩ ⟨by decide, by decide⟩ (c_X9_isBout hst w1 w1N w1S hap hok _) ?_
  refine J_ifb_eq (tgt := 25) dX9_blueOf_10 rfl (fun h10 => ?_) (fun h10 => ?_)
  · have kh10 : ¬ (okB (fS S P) w) := h10
    refine J_aload_n dX9_blueOf_25 rfl rfl ?_
    refine J_iconst (v := 1) dX9_blueOf_26 (by decide) ?_
    refine J_callVw (As := [_]) dX9_blueOf_27 ml_X9_393 cal_X9_no im_X9_no se_X9_no (w1.at 0 rfl) rfl rfl rfl (Nat.le_of_ble_eq_true rfl) ⟨by decide, by decide⟩ ⟨by decide, by decide⟩ (c_X9_no hst w1 _) (fun A2 hQ2 => ?_)
    skip
    refine J_ireturn dX9_blueOf_30 rfl rfl (by decide) (by decide) ?_
    have e1 : (aBlu (fS S P) w) = (1, 0) := by unfold aBlu; rw [if_neg kh10]
    unfold rdA
    rw [e1]
    exact ⟨rfl, rfl, _, (mS.s0 (mS.s0 mS.rf)), rfl, hQ2.1, (s1.trans hQ2.2)⟩
  · have kh10 : (okB (fS S P) w) := h10
    obtain ⟨ex10, ei10⟩ := kh10.i hb h6
    refine J_aload_n dX9_blueOf_13 rfl rfl ?_
    refine J_getf dX9_blueOf_14 fl_X9_40 (w1.at 0 rfl) rfl ?_
    refine J_getf dX9_blueOf_17 fl_X9_166 (w1S.at 0 rfl) rfl ?_
    refine J_iload_n dX9_blueOf_20 rfl rfl ?_
    refine J_ialdN (wi w) dX9_blueOf_21 (w1S.at 12 rfl) ex10 (by omega) (by decide) ?_
    refine J_goto (tgt := 30) dX9_blueOf_22 rfl ?_
    refine J_ireturn dX9_blueOf_30 rfl rfl (by decide) (by decide) ?_
    have e1 : (aBlu (fS S P) w) = (0, (fS S P).2 5 (wi w)) := by unfold aBlu; rw [if_pos kh10]
    unfold rdA
    rw [e1]
    exact ⟨rfl, rfl, _, (mS.s0 mS.rf), rfl, w1, s1⟩
end XSN
