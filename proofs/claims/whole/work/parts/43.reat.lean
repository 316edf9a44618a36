/-! THE REFERENCE: eat, eatAs, deeper, closes, put -/
section XSD
variable {G : xx_G} {l : Launch} {A A' : xx_H} {n : Nat} {bm bp bs bn ba : Nat} {vL nl : Nat → Int64} {M M' M1 P S : xS} {T : xS} {len i j k q s e t d nt tok v : Nat} {tk : Nat → Nat}
theorem kd_inj : ∀ a, a < 39 → ∀ b, b < 39 → ((nI (kdR a) : Int32) = nI (kdR b) ↔ a = b) := by decide +kernel
/-- the Model's kinds are those of the signs tk -/
def tkV (tk : Nat → Nat) (tok : Nat) (M : xS) : Prop := tok ≤ 401 ∧ ∀ q, q < tok → M.2 11 q = nI (kdR (tk q)) ∧ tk q < 39
theorem tkV.eq (h : tkV tk tok M) (hk : k < tok) (hv : v < 39) : M.2 11 k = nI (kdR v) ↔ tk k = v := by
  rw [(h.2 k hk).1]
  exact kd_inj _ (h.2 k hk).2 v hv
/-- a token is eaten, if c -/
def eaM (M : xS) (c : Prop) [Decidable c] : xS := if c then s_up M 9 (M.1 9 + 1) else M
theorem eaM_t {c : Prop} [Decidable c] (h : c) : eaM M c = s_up M 9 (M.1 9 + 1) := if_pos h
theorem eaM_f {c : Prop} [Decidable c] (h : ¬ c) : eaM M c = M := if_neg h
def dpM (M : xS) (c : Prop) [Decidable c] : xS := if c then s_up (s_up M 9 (M.1 9 + 1)) 10 (M.1 10 + 1) else M
def clM (M : xS) (c : Prop) [Decidable c] : xS := if c then s_up (s_up M 9 (M.1 9 + 1)) 10 (M.1 10 - 1) else M
def putP (P : xS) (no : Nat) (op x : Int32) : xS := s_up (a_up (a_up P 7 (upd (P.2 7) no op)) 8 (upd (P.2 8) no x)) 10 (P.1 10 + 1)
theorem c_X9_eat (hst : l.stackTraces = false) (hM : xx_w bm (layM bp vL bn ba bm M) A) {x : Int32} (hx : x = nI (kdR v)) (hv : v < 39) (htv : tkV tk tok M) (h9 : M.1 9 = nI k) (hk : k < tok)  : xx_C G l yX9_eat mX9_eat 0 0 0 0 [.ref bm, .int x] A n (xx_wr (some (.int (xx_b (tk k = v)))) n (fun A' => xx_w bm (layM bp vL bn ba bm (eaM M (tk k = v))) A' ∧ xx_mf bm A A')) := by
  have h401 := htv.1
  refine J_C hst (by decide +kernel) rfl rfl rfl (Nat.le_of_ble_eq_true rfl) ?_
  show xx_J _ _ _ _ _ _ _ _ 0 [(0, _), (1, _)] [] _ _ _ _
  refine J_aload_n dX9_eat_0 rfl rfl ?_
  refine J_getf dX9_eat_1 fl_X9_24 (hM.at 0 rfl) rfl ?_
  refine J_aload_n dX9_eat_4 rfl rfl ?_
  refine J_getf dX9_eat_5 fl_X9_305 (hM.at 0 rfl) rfl ?_
  refine J_ialdN k dX9_eat_8 (hM.at 2 rfl) h9 (by omega) (by decide) ?_
  refine J_iload_n dX9_eat_9 rfl rfl ?_
  refine J_icmp_eq (tgt := 15) dX9_eat_10 rfl (fun h10 => ?_) (fun h10 => ?_)
  · have hc : tk k = v := (htv.eq hk hv).mp (h10.trans hx)
    refine J_aload_n dX9_eat_15 rfl rfl ?_
    refine J_dup dX9_eat_16 rfl ?_
    refine J_getf dX9_eat_17 fl_X9_305 (hM.at 0 rfl) rfl ?_
    refine J_iconst (v := 1) dX9_eat_20 (by decide) ?_
    refine J_iadd dX9_eat_21 ?_
    refine J_putf dX9_eat_22 fp_X9_305 (fun _ => ⟨rfl, rfl⟩) (hM.at 0 rfl) (Nat.le_of_ble_eq_true rfl) ?_
    refine J_genA (wM_s0_9 hM _) ((xx_mf.rf (bm := bm)).put (by omega) (by omega) _) (fun A1 w1 s1 o1 => ?_)
    refine J_iconst (v := 1) dX9_eat_25 (by decide) ?_
    refine J_ireturn dX9_eat_26 rfl rfl (by decide) (by decide) ?_
    refine ⟨by rw [xx_bt hc], rfl, ?_, s1⟩
    rw [eaM_t hc]
    exact w1
  · have hc : ¬ tk k = v := fun z => h10 (((htv.eq hk hv).mpr z).trans hx.symm)
    refine J_iconst (v := 0) dX9_eat_13 (by decide) ?_
    refine J_ireturn dX9_eat_14 rfl rfl (by decide) (by decide) ?_
    refine ⟨by rw [xx_bf hc], rfl, ?_, (xx_mf.rf (bm := bm))⟩
    rw [eaM_f hc]
    exact hM
theorem tkV.a {f : Nat → Int32} (h : tkV tk tok M) : tkV tk tok (a_up M 13 f) := h
theorem c_X9_eatAs (hst : l.stackTraces = false) (hM : xx_w bm (layM bp vL bn ba bm M) A) {x : Int32} (hx : x = nI (kdR v)) (hv : v < 39) (htv : tkV tk tok M) (h9 : M.1 9 = nI k) (hk : k < tok) (y : Int32) : xx_C G l yX9_eatAs mX9_eatAs 1 21 0 0 [.ref bm, .int x, .int y] A n (xx_wr (some (.int (xx_b (tk k = v)))) n (fun A' => xx_w bm (layM bp vL bn ba bm (eaM (a_up M 13 (upd (M.2 13) k y)) (tk k = v))) A' ∧ xx_mf bm A A')) := by
  have h401 := htv.1
  refine J_C hst (by decide +kernel) rfl rfl rfl (Nat.le_of_ble_eq_true rfl) ?_
  show xx_J _ _ _ _ _ _ _ _ 0 [(0, _), (1, _), (2, _)] [] _ _ _ _
  refine J_aload_n dX9_eatAs_0 rfl rfl ?_
  refine J_getf dX9_eatAs_1 fl_X9_30 (hM.at 0 rfl) rfl ?_
  refine J_aload_n dX9_eatAs_4 rfl rfl ?_
  refine J_getf dX9_eatAs_5 fl_X9_305 (hM.at 0 rfl) rfl ?_
  refine J_iload_n dX9_eatAs_8 rfl rfl ?_
  refine J_iastN k dX9_eatAs_9 (hM.at 4 rfl) h9 (by omega) (by decide) ?_
  refine J_genA (wM_a13 hM _) ((xx_mf.rf (bm := bm)).put (by omega) (by omega) _) (fun A1 w1 s1 o1 => ?_)
  refine J_aload_n dX9_eatAs_10 rfl rfl ?_
  refine J_iload_n dX9_eatAs_11 rfl rfl ?_
  refine J_callVw (As := [_]) dX9_eatAs_12 ml_X9_308 cal_X9_eat im_X9_eat se_X9_eat (w1.at 0 rfl) rfl rfl rfl (Nat.le_of_ble_eq_true rfl) ⟨by decide, by decide⟩ ⟨by decide, by decide⟩ (c_X9_eat hst w1 hx hv htv.a h9 hk) (fun A2 hQ2 => ?_)
  skip
  refine J_ireturn dX9_eatAs_15 rfl nar_b (by decide) (by decide) ?_
  exact ⟨rfl, rfl, hQ2.1, (s1.trans hQ2.2)⟩
theorem c_X9_deeper (hst : l.stackTraces = false) (hM : xx_w bm (layM bp vL bn ba bm M) A) {x : Int32} (hx : x = nI (kdR v)) (hv : v < 39) (htv : tkV tk tok M) (h9 : M.1 9 = nI k) (hk : k < tok) (h10 : d ≤ 8) (hd10 : M.1 10 = nI d) : xx_C G l yX9_deeper mX9_deeper 1 21 0 0 [.ref bm, .int x] A n (xx_wr (some (.int (xx_b (d < 8 ∧ tk k = v)))) n (fun A' => xx_w bm (layM bp vL bn ba bm (dpM M (d < 8 ∧ tk k = v))) A' ∧ xx_mf bm A A')) := by
  have h401 := htv.1
  have ed : (M.1 10).toInt = d := by rw [hd10]; exact i_n (by omega)
  refine J_C hst (by decide +kernel) rfl rfl rfl (Nat.le_of_ble_eq_true rfl) ?_
  show xx_J _ _ _ _ _ _ _ _ 0 [(0, _), (1, _)] [] _ _ _ _
  refine J_aload_n dX9_deeper_0 rfl rfl ?_
  refine J_getf dX9_deeper_1 fl_X9_311 (hM.at 0 rfl) rfl ?_
  refine J_bipush (v := 8) dX9_deeper_4 (by decide) ?_
  refine J_icmp_eq (tgt := 17) dX9_deeper_6 rfl (fun h6 => ?_) (fun h6 => ?_)
  · have hc2 : ¬ (d < 8 ∧ tk k = v) := fun z => by rw [i_eq, ed] at h6; have : (8 : Int32).toInt = 8 := rfl; omega
    refine J_iconst (v := 0) dX9_deeper_17 (by decide) ?_
    refine J_ireturn dX9_deeper_18 rfl rfl (by decide) (by decide) ?_
    refine ⟨by rw [xx_bf hc2], rfl, ?_, (xx_mf.rf (bm := bm))⟩
    unfold dpM
    rw [if_neg hc2]
    exact hM
  · have hd8 : d < 8 := by
      by_cases c : d < 8
      · exact c
      · exact absurd (by rw [hd10, show d = 8 by omega]; rfl) h6
    refine J_aload_n dX9_deeper_9 rfl rfl ?_
    refine J_iload_n dX9_deeper_10 rfl rfl ?_
    refine J_callVw (As := [_]) dX9_deeper_11 ml_X9_308 cal_X9_eat im_X9_eat se_X9_eat (hM.at 0 rfl) rfl rfl rfl (Nat.le_of_ble_eq_true rfl) ⟨by decide, by decide⟩ ⟨by decide, by decide⟩ (c_X9_eat hst hM hx hv htv h9 hk) (fun A1 hQ1 => ?_)
    skip
    refine J_ifb_ne (tgt := 19) dX9_deeper_14 rfl (fun h14 => ?_) (fun h14 => ?_)
    · have hc2 : d < 8 ∧ tk k = v := ⟨hd8, h14⟩
      rw [eaM_t h14] at *
      refine J_aload_n dX9_deeper_19 rfl rfl ?_
      refine J_dup dX9_deeper_20 rfl ?_
      refine J_getf dX9_deeper_21 fl_X9_311 (hQ1.1.at 0 rfl) rfl ?_
      refine J_iconst (v := 1) dX9_deeper_24 (by decide) ?_
      refine J_iadd dX9_deeper_25 ?_
      refine J_putf dX9_deeper_26 fp_X9_311 (fun _ => ⟨rfl, rfl⟩) (hQ1.1.at 0 rfl) (Nat.le_of_ble_eq_true rfl) ?_
      refine J_genA (wM_s0_10 hQ1.1 _) (((xx_mf.rf (bm := bm)).trans hQ1.2).put (by omega) (by omega) _) (fun A2 w2 s2 o2 => ?_)
      refine J_iconst (v := 1) dX9_deeper_29 (by decide) ?_
      refine J_ireturn dX9_deeper_30 rfl rfl (by decide) (by decide) ?_
      refine ⟨by rw [xx_bt hc2], rfl, ?_, s2⟩
      unfold dpM
      rw [if_pos hc2]
      exact w2
    · have hc2 : ¬ (d < 8 ∧ tk k = v) := fun z => h14 z.2
      refine J_iconst (v := 0) dX9_deeper_17 (by decide) ?_
      refine J_ireturn dX9_deeper_18 rfl rfl (by decide) (by decide) ?_
      refine ⟨by rw [xx_bf hc2], rfl, ?_, ((xx_mf.rf (bm := bm)).trans hQ1.2)⟩
      unfold dpM
      rw [if_neg hc2]
      have z := hQ1.1
      rw [eaM_f h14] at z
      exact z
theorem c_X9_closes (hst : l.stackTraces = false) (hM : xx_w bm (layM bp vL bn ba bm M) A) {x : Int32} (hx : x = nI (kdR v)) (hv : v < 39) (htv : tkV tk tok M) (h9 : M.1 9 = nI k) (hk : k < tok)  : xx_C G l yX9_closes mX9_closes 1 21 0 0 [.ref bm, .int x] A n (xx_wr (some (.int (xx_b (tk k = v)))) n (fun A' => xx_w bm (layM bp vL bn ba bm (clM M (tk k = v))) A' ∧ xx_mf bm A A')) := by
  have h401 := htv.1
  refine J_C hst (by decide +kernel) rfl rfl rfl (Nat.le_of_ble_eq_true rfl) ?_
  show xx_J _ _ _ _ _ _ _ _ 0 [(0, _), (1, _)] [] _ _ _ _
  refine J_aload_n dX9_closes_0 rfl rfl ?_
  refine J_iload_n dX9_closes_1 rfl rfl ?_
  refine J_callVw (As := [_]) dX9_closes_2 ml_X9_308 cal_X9_eat im_X9_eat se_X9_eat (hM.at 0 rfl) rfl rfl rfl (Nat.le_of_ble_eq_true rfl) ⟨by decide, by decide⟩ ⟨by decide, by decide⟩ (c_X9_eat hst hM hx hv htv h9 hk) (fun A1 hQ1 => ?_)
  skip
  refine J_ifb_ne (tgt := 10) dX9_closes_5 rfl (fun h5 => ?_) (fun h5 => ?_)
  · rw [eaM_t h5] at *
    refine J_aload_n dX9_closes_10 rfl rfl ?_
    refine J_dup dX9_closes_11 rfl ?_
    refine J_getf dX9_closes_12 fl_X9_311 (hQ1.1.at 0 rfl) rfl ?_
    refine J_iconst (v := 1) dX9_closes_15 (by decide) ?_
    refine J_isub dX9_closes_16 ?_
    refine J_putf dX9_closes_17 fp_X9_311 (fun _ => ⟨rfl, rfl⟩) (hQ1.1.at 0 rfl) (Nat.le_of_ble_eq_true rfl) ?_
    refine J_genA (wM_s0_10 hQ1.1 _) (((xx_mf.rf (bm := bm)).trans hQ1.2).put (by omega) (by omega) _) (fun A2 w2 s2 o2 => ?_)
    refine J_iconst (v := 1) dX9_closes_20 (by decide) ?_
    refine J_ireturn dX9_closes_21 rfl rfl (by decide) (by decide) ?_
    refine ⟨by rw [xx_bt h5], rfl, ?_, s2⟩
    unfold clM
    rw [if_pos h5]
    exact w2
  · refine J_iconst (v := 0) dX9_closes_8 (by decide) ?_
    refine J_ireturn dX9_closes_9 rfl rfl (by decide) (by decide) ?_
    refine ⟨by rw [xx_bf h5], rfl, ?_, ((xx_mf.rf (bm := bm)).trans hQ1.2)⟩
    unfold clM
    rw [if_neg h5]
    have z := hQ1.1
    rw [eaM_f h5] at z
    exact z
theorem c_X9_put (hst : l.stackTraces = false) (hM : xx_w bm (layM ba vL bn bs bm M) A) (hN : xx_w bp (layN nl bp P) A) (y z : Int32) (h10 : P.1 10 = nI k) (hk : k < 800) : xx_C G l yX9_put mX9_put 0 0 0 0 [.ref bm, .ref bp, .int y, .int z] A n (xx_wr none n (fun A' => xx_w bp (layN nl bp (putP P k y z)) A' ∧ xx_same bp (bp + 9) A A')) := by
  refine J_C hst (by decide +kernel) rfl rfl rfl (Nat.le_of_ble_eq_true rfl) ?_
  show xx_J _ _ _ _ _ _ _ _ 0 [(0, _), (1, _), (2, _), (3, _)] [] _ _ _ _
  refine J_aload_n dX9_put_0 rfl rfl ?_
  refine J_getf dX9_put_1 fl_X9_242 (hN.at 0 rfl) rfl ?_
  refine J_aload_n dX9_put_4 rfl rfl ?_
  refine J_getf dX9_put_5 fl_X9_314 (hN.at 0 rfl) rfl ?_
  refine J_iload_n dX9_put_8 rfl rfl ?_
  refine J_iastN k dX9_put_9 (hN.at 7 rfl) h10 (by omega) (by decide) ?_
  refine J_gen (wN_a7 hN _) ((xx_same.rf (b := bp) (e := bp + 9)).put (by omega) (by omega) _) (fun A1 w1 s1 o1 => ?_)
  refine J_aload_n dX9_put_10 rfl rfl ?_
  refine J_getf dX9_put_11 fl_X9_248 (w1.at 0 rfl) rfl ?_
  refine J_aload_n dX9_put_14 rfl rfl ?_
  refine J_getf dX9_put_15 fl_X9_314 (w1.at 0 rfl) rfl ?_
  refine J_iload_n dX9_put_18 rfl rfl ?_
  refine J_iastN k dX9_put_19 (w1.at 8 rfl) h10 (by omega) (by decide) ?_
  refine J_gen (wN_a8 w1 _) (s1.put (by omega) (by omega) _) (fun A2 w2 s2 o2 => ?_)
  refine J_aload_n dX9_put_20 rfl rfl ?_
  refine J_dup dX9_put_21 rfl ?_
  refine J_getf dX9_put_22 fl_X9_314 (w2.at 0 rfl) rfl ?_
  refine J_iconst (v := 1) dX9_put_25 (by decide) ?_
  refine J_iadd dX9_put_26 ?_
  refine J_putf dX9_put_27 fp_X9_314 (fun _ => ⟨rfl, rfl⟩) (w2.at 0 rfl) (Nat.le_of_ble_eq_true rfl) ?_
  refine J_gen (wN_s0_10 w2 _) (s2.put (by omega) (by omega) _) (fun A3 w3 s3 o3 => ?_)
  refine J_return dX9_put_30 rfl (by decide) (by decide) ?_
  exact ⟨rfl, rfl, w3, s3⟩
end XSD
