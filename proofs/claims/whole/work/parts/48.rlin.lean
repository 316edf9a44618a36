/-! THE REFERENCE: isOutcome, isRule, isLine, isBook -/
section XSI
variable {G : xx_G} {l : Launch} {A A' : xx_H} {n : Nat} {bm bp bs bn ba : Nat} {vL nl : Nat → Int64} {M M' M1 P S : xS} {T : xS} {len i j k q s e t d nt tok v m : Nat} {tk : Nat → Nat}
theorem tkV.of (h : tkV tk tok M) (he : M'.2 11 = M.2 11) : tkV tk tok M' := by
  unfold tkV
  rw [he]
  exact h
/-- the Model with other means, rulesRead, tellsRead -/
def lnB (M : xS) (r t : Int32) (f : Nat → Int32) : xS := s_up (s_up (a_up M 13 f) 21 r) 20 t
theorem ln_self : M = lnB M (M.1 21) (M.1 20) (M.2 13) := by
  refine Prod.ext (funext fun q => ?_) (funext fun q => ?_)
  · show M.1 q = va_up (va_up M.1 21 (M.1 21)) 20 (M.1 20) q
    simp only [va_up]
    by_cases h : q = 20
    · subst h; simp
    · by_cases h2 : q = 21
      · subst h2; simp
      · simp [h, h2]
  · show M.2 q = va_up M.2 13 (M.2 13) q
    simp only [va_up]
    by_cases h : q = 13
    · subst h; simp
    · simp [h]
theorem ln_ln {r t r' t' : Int32} {f f' : Nat → Int32} : lnB (lnB M r t f) r' t' f' = lnB M r' t' f' := by
  refine Prod.ext (funext fun q => ?_) (funext fun q => ?_)
  · show va_up (va_up (va_up (va_up M.1 21 r) 20 t) 21 r') 20 t' q = va_up (va_up M.1 21 r') 20 t' q
    simp only [va_up]
    by_cases h : q = 20
    · subst h; simp
    · by_cases h2 : q = 21
      · subst h2; simp
      · simp [h, h2]
  · show va_up (va_up M.2 13 f) 13 f' q = va_up M.2 13 f' q
    simp only [va_up]
    by_cases h : q = 13
    · subst h; simp
    · simp [h]
theorem ln_a {f : Nat → Int32} : a_up M 13 f = lnB M (M.1 21) (M.1 20) f := by
  rw [show lnB M (M.1 21) (M.1 20) f = lnB (a_up M 13 f) ((a_up M 13 f).1 21) ((a_up M 13 f).1 20) ((a_up M 13 f).2 13) from ?_]
  · exact ln_self
  · refine Prod.ext rfl (funext fun q => ?_)
    show va_up M.2 13 f q = va_up (va_up M.2 13 f) 13 (va_up M.2 13 f 13) q
    simp only [va_up]
    by_cases h : q = 13
    · subst h; simp
    · simp [h]
theorem ln_a2 {r t : Int32} {f g : Nat → Int32} : a_up (lnB M r t f) 13 g = lnB M r t g := by
  refine Prod.ext rfl (funext fun q => ?_)
  show va_up (va_up M.2 13 f) 13 g q = va_up M.2 13 g q
  simp only [va_up]
  by_cases h : q = 13
  · subst h; simp
  · simp [h]
theorem pm_20 {x : Int32} : s_up (paM M k d) 20 x = paM (s_up M 20 x) k d := by
  refine Prod.ext (funext fun q => ?_) rfl
  show va_up (va_up (va_up M.1 9 (nI k)) 10 (nI d)) 20 x q = va_up (va_up (va_up M.1 20 x) 9 (nI k)) 10 (nI d) q
  simp only [va_up]
  by_cases h : q = 20
  · subst h; simp
  · simp [h]
theorem pm_21 {x : Int32} : s_up (paM M k d) 21 x = paM (s_up M 21 x) k d := by
  refine Prod.ext (funext fun q => ?_) rfl
  show va_up (va_up (va_up M.1 9 (nI k)) 10 (nI d)) 21 x q = va_up (va_up (va_up M.1 21 x) 9 (nI k)) 10 (nI d) q
  simp only [va_up]
  by_cases h : q = 21
  · subst h; simp
  · simp [h]
/-- the means of the items -/
def mnL (f : Nat → Int32) (its : List (Nat × Nat)) : Nat → Int32 := its.foldl (fun f it => upd f it.1 (nI it.2)) f
theorem mnL_app {f : Nat → Int32} {a c : List (Nat × Nat)} : mnL f (a ++ c) = mnL (mnL f a) c := List.foldl_append
/-- rule i of a Plan -/
def ruP (P : xS) (i : Nat) (oc : Int32) (em : List (Int32 × Int32)) : xS := a_up (emP (a_up (a_up P 4 (upd (P.2 4) i oc)) 5 (upd (P.2 5) i (P.1 10))) em) 6 (upd ((emP (a_up (a_up P 4 (upd (P.2 4) i oc)) 5 (upd (P.2 5) i (P.1 10))) em).2 6) i ((emP (a_up (a_up P 4 (upd (P.2 4) i oc)) 5 (upd (P.2 5) i (P.1 10))) em).1 10))
/-- the rules rs, from number rr on -/
def rsP (P : xS) (rr : Nat) : RuL → xS
  | [] => P
  | q :: rs => rsP (ruP P (min 15 rr) q.1 q.2) (rr + 1) rs
theorem rsP_app : ∀ (a : RuL) {P : xS} {rr : Nat} {c : RuL}, rsP P rr (a ++ c) = rsP (rsP P rr a) (rr + a.length) c := by
  intro a
  induction a with
  | nil => intro P rr c; rfl
  | cons q a ih =>
    intro P rr c
    show rsP (ruP P (min 15 rr) q.1 q.2) (rr + 1) (a ++ c) = rsP (rsP (ruP P (min 15 rr) q.1 q.2) (rr + 1) a) (rr + (a.length + 1)) c
    rw [ih, show rr + 1 + a.length = rr + (a.length + 1) by omega]
theorem rsP_10 : ∀ (rs : RuL) {P : xS} {rr m : Nat}, P.1 10 = nI m → (rsP P rr rs).1 10 = nI (m + (flatR rs).length) := by
  intro rs
  induction rs with
  | nil => intro P rr m h; exact h
  | cons q rs ih =>
    intro P rr m h
    have e : (ruP P (min 15 rr) q.1 q.2).1 10 = nI (m + q.2.length) := emP_10 q.2 (a_up (a_up P 4 (upd (P.2 4) (min 15 rr) q.1)) 5 (upd (P.2 5) (min 15 rr) (P.1 10))) h
    have := ih (rr := rr + 1) e
    rw [show (flatR (q :: rs)).length = q.2.length + (flatR rs).length by simp [flatR], ← Nat.add_assoc]
    exact this
/-- what a line has done -/
def lnQ9 (bm bp b0 bn ba n : Nat) (vL nl : Nat → Int64) (M P : xS) (rr : Nat) (r : BRes) (A : xx_H) : xx_Q := xx_wr (some (.int (xx_b (r.1 = true)))) n (fun A' => ∃ d' r' t' f' P', (r.1 = true → d' = 0 ∧ r' = nI (rr + r.2.2.2.length) ∧ f' = mnL (M.2 13) r.2.2.1 ∧ P' = rsP P rr r.2.2.2) ∧ xx_w bm (layM b0 vL bn ba bm (paM (lnB M r' t' f') r.2.1 d')) A' ∧ xx_w bp (layN nl bp P') A' ∧ xx_pf bm bp A A')
theorem min15 {rr : Nat} {x : Int32} (hx : x = nI rr) (hr : rr ≤ 401) : (if x < 15 then x else 15) = nI (min 15 rr) := by
  subst hx
  have e : (nI rr).toInt = rr := i_n (by omega)
  have f : (15 : Int32).toInt = 15 := rfl
  by_cases h : rr < 15
  · rw [if_pos (by rw [i_lt, e, f]; omega), show min 15 rr = rr by omega]
  · rw [if_neg (by rw [i_lt, e, f]; omega), show min 15 rr = 15 by omega]; rfl
theorem rul_em {tk : Nat → Nat} {num : Nat → Int32} (hn : nxt tk tok) (hk : k < tok) : (flatR (linW tk num k).2.2.2).length + k ≤ (linW tk num k).2.1 := by
  have z := (lin_ok (num := num) hn hk).1
  unfold linW at z ⊢
  split
  · rename_i h; rw [if_pos h] at z
    have : (wrsW tk (k + 1)).2.2.2 = [] := by unfold wrsW; split <;> (try split) <;> (try split) <;> rfl
    rw [this]; simpa [flatR] using z
  rename_i h0; rw [if_neg h0] at z
  split
  · rename_i h; rw [if_pos h] at z
    have : (ptsW tk (k + 1)).2.2.2 = [] := by unfold ptsW; split <;> (try split) <;> (try split) <;> rfl
    rw [this]; simpa [flatR] using z
  rename_i h2; rw [if_neg h2] at z
  split
  · rename_i h; rw [if_pos h] at z
    have hk1 := hn k hk (by omega) (by omega)
    have a := ouc_ok hn hk1
    unfold rulW at z ⊢
    split
    · rename_i g; rw [if_pos g] at z; simpa [flatR] using z
    rename_i g; rw [if_neg g] at z
    split
    · rename_i g9; rw [if_pos g9] at z
      have hk2 := hn _ a.2 (by omega) (by omega)
      have p := ok_pT (num := num) hn _ hk2
      split
      · have e : (flatR [((oucW tk (k + 1)).1, (pT tk num ((oucW tk (k + 1)).2 + 1)).2.2)]).length = (pT tk num ((oucW tk (k + 1)).2 + 1)).2.2.length := by simp [flatR]
        show (flatR [((oucW tk (k + 1)).1, (pT tk num ((oucW tk (k + 1)).2 + 1)).2.2)]).length + k ≤ _
        rw [e]
        show _ ≤ (pT tk num ((oucW tk (k + 1)).2 + 1)).2.1
        omega
      · rename_i gp; rw [if_neg gp] at z; simpa [flatR] using z
    · rename_i g9; rw [if_neg g9] at z; simpa [flatR] using z
  · simp [flatR]
set_option maxHeartbeats 2000000 in
theorem c_X9_isOutcome (hst : l.stackTraces = false) (hb48 : bm + 48 ≤ bp) (h401 : tok ≤ 401) (hnx : nxt tk tok) {b0 : Nat} (htv : tkV tk tok M) (hM : xx_w bm (layM b0 vL bn ba bm (paM M k d)) A) (hN : xx_w bp (layN nl bp P) A) (hk : k < tok) : xx_C G l yX9_isOutcome mX9_isOutcome 3 100 0 0 [.ref bm] A n (xx_wr (some (.int (xx_b (¬ (oucW tk k).1 = -1)))) n (fun A' => ∃ tr : Int32, (¬ (oucW tk k).1 = -1 → tr = (oucW tk k).1) ∧ xx_w bm (layM b0 vL bn ba bm (paM (s_up M 20 tr) (oucW tk k).2 d)) A' ∧ xx_w bp (layN nl bp P) A' ∧ xx_pf bm bp A A')) := by
  refine J_C hst (by decide +kernel) rfl rfl rfl (Nat.le_of_ble_eq_true rfl) ?_
  show xx_J _ _ _ _ _ _ _ _ 0 [(0, _)] [] _ _ _ _
  refine J_aload_n dX9_isOutcome_0 rfl rfl ?_
  refine J_aload_n dX9_isOutcome_1 rfl rfl ?_
  refine J_getf dX9_isOutcome_2 fl_X9_24 (hM.at 0 rfl) rfl ?_
  refine J_aload_n dX9_isOutcome_5 rfl rfl ?_
  refine J_getf dX9_isOutcome_6 fl_X9_305 (hM.at 0 rfl) rfl ?_
  refine J_ialdN k dX9_isOutcome_9 (hM.at 2 rfl) rfl (by omega) (by decide) ?_
  refine J_bipush (v := 6) dX9_isOutcome_10 (by decide) ?_
  refine J_icmp_ne (tgt := 19) dX9_isOutcome_12 rfl (fun h12 => ?_) (fun h12 => ?_)
  · have th12 : ¬ tk k = 6 := fun z => h12 ((htv.eq hk (v := 6) (by decide)).mpr z)
    refine J_aload_n dX9_isOutcome_19 rfl rfl ?_
    refine J_getf dX9_isOutcome_20 fl_X9_24 (hM.at 0 rfl) rfl ?_
    refine J_aload_n dX9_isOutcome_23 rfl rfl ?_
    refine J_getf dX9_isOutcome_24 fl_X9_305 (hM.at 0 rfl) rfl ?_
    refine J_ialdN k dX9_isOutcome_27 (hM.at 2 rfl) rfl (by omega) (by decide) ?_
    refine J_bipush (v := 7) dX9_isOutcome_28 (by decide) ?_
    refine J_icmp_ne (tgt := 37) dX9_isOutcome_30 rfl (fun h30 => ?_) (fun h30 => ?_)
    · have th30 : ¬ tk k = 7 := fun z => h30 ((htv.eq hk (v := 7) (by decide)).mpr z)
      refine J_iconst (v := 1) dX9_isOutcome_37 (by decide) ?_
      refine J_putf dX9_isOutcome_38 fp_X9_363 (fun _ => ⟨rfl, rfl⟩) (hM.at 0 rfl) (Nat.le_of_ble_eq_true rfl) ?_
      refine J_genA (wM_s0_20 hM _) ((xx_pf.rf (bm := bm) (bp := bp)).put (by omega) (by omega) _) (fun A1 w1 s1 o1 => ?_)
      have w1N := hN.o2 o1 (m := 9) rfl (by omega)
      have u1 : xx_w bm (layM b0 vL bn ba bm (s_up (paM M k d) 20 1)) A1 := w1
      rw [pm_20] at u1
      refine J_aload_n dX9_isOutcome_41 rfl rfl ?_
      refine J_getf dX9_isOutcome_42 fl_X9_363 (u1.at 0 rfl) rfl ?_
      refine J_iconst (v := 1) dX9_isOutcome_45 (by decide) ?_
      refine J_icmp_ne (tgt := 55) dX9_isOutcome_46 rfl (fun h46 => ?_) (fun h46 => ?_)
      · exact absurd (show (1 : Int32) = 1 from rfl) h46
      · refine J_aload_n dX9_isOutcome_49 rfl rfl ?_
        refine J_iconst (v := 3) dX9_isOutcome_50 (by decide) ?_
        refine J_callVw (As := [_]) dX9_isOutcome_51 ml_X9_308 cal_X9_eat im_X9_eat se_X9_eat (u1.at 0 rfl) rfl rfl rfl (Nat.le_of_ble_eq_true rfl) ⟨by decide, by decide⟩ ⟨by decide, by decide⟩ (c_X9_eat (v := 3) (k := k) hst u1 rfl (by decide) (htv.of rfl) rfl hk) (fun A2 hQ2 => ?_)
        have hM_2 := hQ2.1
        have hN_2 := w1N.mf hQ2.2 (m := 9) rfl (fun i hi => by unfold isM; omega)
        have hs_2 : xx_pf bm bp _ _ := hQ2.2.toP
        refine J_ireturn dX9_isOutcome_54 rfl nar_b (by decide) (by decide) ?_
        by_cases hc : tk k = 3
        · have e1 : (oucW tk k) = (1, k + 1) := by unfold oucW; rw [if_pos hc]
          rw [eaM_pt hc] at hM_2
          rw [e1]
          exact ⟨by rw [xx_bt hc, xx_bt (show ¬ (1 : Int32) = -1 by decide)], rfl, 1, fun _ => rfl, hM_2, hN_2, (s1.trans hs_2)⟩
        · have e1 : (oucW tk k) = (-1, k) := by unfold oucW; rw [if_neg hc]; rw [if_neg th12, if_neg th30]
          rw [eaM_f hc] at hM_2
          rw [e1]
          exact ⟨by rw [xx_bf hc, xx_bf (show ¬ ¬ (-1 : Int32) = -1 from fun z => z rfl)], rfl, 1, fun z => absurd rfl z, hM_2, hN_2, (s1.trans hs_2)⟩
    · have th30 : tk k = 7 := (htv.eq hk (v := 7) (by decide)).mp h30
      refine J_iconst (v := 2) dX9_isOutcome_33 (by decide) ?_
      refine J_goto (tgt := 38) dX9_isOutcome_34 rfl ?_
      refine J_putf dX9_isOutcome_38 fp_X9_363 (fun _ => ⟨rfl, rfl⟩) (hM.at 0 rfl) (Nat.le_of_ble_eq_true rfl) ?_
      refine J_genA (wM_s0_20 hM _) ((xx_pf.rf (bm := bm) (bp := bp)).put (by omega) (by omega) _) (fun A3 w3 s3 o3 => ?_)
      have w3N := hN.o2 o3 (m := 9) rfl (by omega)
      have u3 : xx_w bm (layM b0 vL bn ba bm (s_up (paM M k d) 20 2)) A3 := w3
      rw [pm_20] at u3
      refine J_aload_n dX9_isOutcome_41 rfl rfl ?_
      refine J_getf dX9_isOutcome_42 fl_X9_363 (u3.at 0 rfl) rfl ?_
      refine J_iconst (v := 1) dX9_isOutcome_45 (by decide) ?_
      refine J_icmp_ne (tgt := 55) dX9_isOutcome_46 rfl (fun h46 => ?_) (fun h46 => ?_)
      · refine J_aload_n dX9_isOutcome_55 rfl rfl ?_
        refine J_dup dX9_isOutcome_56 rfl ?_
        refine J_getf dX9_isOutcome_57 fl_X9_305 (u3.at 0 rfl) rfl ?_
        refine J_iconst (v := 1) dX9_isOutcome_60 (by decide) ?_
        refine J_iadd dX9_isOutcome_61 ?_
        refine J_putf dX9_isOutcome_62 fp_X9_305 (fun _ => ⟨rfl, rfl⟩) (u3.at 0 rfl) (Nat.le_of_ble_eq_true rfl) ?_
        refine J_genA (wM_s0_9 u3 _) (s3.put (by omega) (by omega) _) (fun A4 w4 s4 o4 => ?_)
        have w4N := w3N.o2 o4 (m := 9) rfl (by omega)
        have u4 := w4
        rw [pa_up (M := (s_up M 20 2)) (k := k) (d := d) (k2 := k + 1) (x := (paM (s_up M 20 2) k d).1 9 + 1) (nI_1 _)] at u4
        have nx4 : ¬ tk k = 37 ∧ ¬ tk k = 38 := (by first | (rw [th12]; decide) | (rw [th30]; decide))
        have hk4 : k + 1 < tok := hnx _ hk nx4.1 nx4.2
        refine J_aload_n dX9_isOutcome_65 rfl rfl ?_
        refine J_bipush (v := 8) dX9_isOutcome_66 (by decide) ?_
        refine J_callVw (As := [_]) dX9_isOutcome_68 ml_X9_308 cal_X9_eat im_X9_eat se_X9_eat (u4.at 0 rfl) rfl rfl rfl (Nat.le_of_ble_eq_true rfl) ⟨by decide, by decide⟩ ⟨by decide, by decide⟩ (c_X9_eat (v := 8) (k := (k + 1)) hst u4 rfl (by decide) (htv.of rfl) rfl hk4) (fun A5 hQ5 => ?_)
        have hM_5 := hQ5.1
        have hN_5 := w4N.mf hQ5.2 (m := 9) rfl (fun i hi => by unfold isM; omega)
        have hs_5 : xx_pf bm bp _ _ := hQ5.2.toP
        refine J_ireturn dX9_isOutcome_71 rfl nar_b (by decide) (by decide) ?_
        by_cases hc : tk (k + 1) = 8
        · have e1 : (oucW tk k) = (2, k + 2) := by unfold oucW; rw [if_neg (show ¬ tk k = 3 by omega), if_neg th12, if_pos th30]; rw [if_pos hc]
          rw [eaM_pt hc] at hM_5
          rw [e1]
          exact ⟨by rw [xx_bt hc, xx_bt (show ¬ (2 : Int32) = -1 by decide)], rfl, 2, fun _ => rfl, hM_5, hN_5, (s4.trans hs_5)⟩
        · have e1 : (oucW tk k) = (-1, k + 1) := by unfold oucW; rw [if_neg (show ¬ tk k = 3 by omega), if_neg th12, if_pos th30]; rw [if_neg hc]
          rw [eaM_f hc] at hM_5
          rw [e1]
          exact ⟨by rw [xx_bf hc, xx_bf (show ¬ ¬ (-1 : Int32) = -1 from fun z => z rfl)], rfl, 2, fun z => absurd rfl z, hM_5, hN_5, (s4.trans hs_5)⟩
      · exact absurd (show (2 : Int32) = 1 from h46) (by decide)
  · have th12 : tk k = 6 := (htv.eq hk (v := 6) (by decide)).mp h12
    refine J_iconst (v := 0) dX9_isOutcome_15 (by decide) ?_
    refine J_goto (tgt := 38) dX9_isOutcome_16 rfl ?_
    refine J_putf dX9_isOutcome_38 fp_X9_363 (fun _ => ⟨rfl, rfl⟩) (hM.at 0 rfl) (Nat.le_of_ble_eq_true rfl) ?_
    refine J_genA (wM_s0_20 hM _) ((xx_pf.rf (bm := bm) (bp := bp)).put (by omega) (by omega) _) (fun A6 w6 s6 o6 => ?_)
    have w6N := hN.o2 o6 (m := 9) rfl (by omega)
    have u6 : xx_w bm (layM b0 vL bn ba bm (s_up (paM M k d) 20 0)) A6 := w6
    rw [pm_20] at u6
    refine J_aload_n dX9_isOutcome_41 rfl rfl ?_
    refine J_getf dX9_isOutcome_42 fl_X9_363 (u6.at 0 rfl) rfl ?_
    refine J_iconst (v := 1) dX9_isOutcome_45 (by decide) ?_
    refine J_icmp_ne (tgt := 55) dX9_isOutcome_46 rfl (fun h46 => ?_) (fun h46 => ?_)
    · refine J_aload_n dX9_isOutcome_55 rfl rfl ?_
      refine J_dup dX9_isOutcome_56 rfl ?_
      refine J_getf dX9_isOutcome_57 fl_X9_305 (u6.at 0 rfl) rfl ?_
      refine J_iconst (v := 1) dX9_isOutcome_60 (by decide) ?_
      refine J_iadd dX9_isOutcome_61 ?_
      refine J_putf dX9_isOutcome_62 fp_X9_305 (fun _ => ⟨rfl, rfl⟩) (u6.at 0 rfl) (Nat.le_of_ble_eq_true rfl) ?_
      refine J_genA (wM_s0_9 u6 _) (s6.put (by omega) (by omega) _) (fun A7 w7 s7 o7 => ?_)
      have w7N := w6N.o2 o7 (m := 9) rfl (by omega)
      have u7 := w7
      rw [pa_up (M := (s_up M 20 0)) (k := k) (d := d) (k2 := k + 1) (x := (paM (s_up M 20 0) k d).1 9 + 1) (nI_1 _)] at u7
      have nx7 : ¬ tk k = 37 ∧ ¬ tk k = 38 := (by first | (rw [th12]; decide) | (rw [th30]; decide))
      have hk7 : k + 1 < tok := hnx _ hk nx7.1 nx7.2
      refine J_aload_n dX9_isOutcome_65 rfl rfl ?_
      refine J_bipush (v := 8) dX9_isOutcome_66 (by decide) ?_
      refine J_callVw (As := [_]) dX9_isOutcome_68 ml_X9_308 cal_X9_eat im_X9_eat se_X9_eat (u7.at 0 rfl) rfl rfl rfl (Nat.le_of_ble_eq_true rfl) ⟨by decide, by decide⟩ ⟨by decide, by decide⟩ (c_X9_eat (v := 8) (k := (k + 1)) hst u7 rfl (by decide) (htv.of rfl) rfl hk7) (fun A8 hQ8 => ?_)
      have hM_8 := hQ8.1
      have hN_8 := w7N.mf hQ8.2 (m := 9) rfl (fun i hi => by unfold isM; omega)
      have hs_8 : xx_pf bm bp _ _ := hQ8.2.toP
      refine J_ireturn dX9_isOutcome_71 rfl nar_b (by decide) (by decide) ?_
      by_cases hc : tk (k + 1) = 8
      · have e1 : (oucW tk k) = (0, k + 2) := by unfold oucW; rw [if_neg (show ¬ tk k = 3 by omega), if_pos th12]; rw [if_pos hc]
        rw [eaM_pt hc] at hM_8
        rw [e1]
        exact ⟨by rw [xx_bt hc, xx_bt (show ¬ (0 : Int32) = -1 by decide)], rfl, 0, fun _ => rfl, hM_8, hN_8, (s7.trans hs_8)⟩
      · have e1 : (oucW tk k) = (-1, k + 1) := by unfold oucW; rw [if_neg (show ¬ tk k = 3 by omega), if_pos th12]; rw [if_neg hc]
        rw [eaM_f hc] at hM_8
        rw [e1]
        exact ⟨by rw [xx_bf hc, xx_bf (show ¬ ¬ (-1 : Int32) = -1 from fun z => z rfl)], rfl, 0, fun z => absurd rfl z, hM_8, hN_8, (s7.trans hs_8)⟩
    · exact absurd (show (0 : Int32) = 1 from h46) (by decide)
set_option maxHeartbeats 2000000 in
theorem c_X9_isRule (hst : l.stackTraces = false) (hb48 : bm + 48 ≤ bp) (h401 : tok ≤ 401) (hnx : nxt tk tok) {b0 : Nat} {num : Nat → Int32} (hval : ∀ q, q < tok → tk q = 36 → vL q = (num q).toInt64) (htv : tkV tk tok M) (hM : xx_w bm (layM b0 vL bn ba bm (paM M k 0)) A) (hN : xx_w bp (layN nl bp P) A) (hm : P.1 10 = nI m) (hmk : m ≤ k) (hk : k < tok) (h5 : tk k = 5) {rr : Nat} (h21 : M.1 21 = nI rr) (hr : rr ≤ 401) : xx_C G l yX9_isRule mX9_isRule 55 1872 0 0 [.ref bm, .ref bp] A n (lnQ9 bm bp b0 bn ba n vL nl M P rr (rulW tk num (k + 1)) A) := by
  have hi2 := min15 h21 hr
  refine J_C hst (by decide +kernel) rfl rfl rfl (Nat.le_of_ble_eq_true rfl) ?_
  show xx_J _ _ _ _ _ _ _ _ 0 [(0, _), (1, _)] [] _ _ _ _
  refine J_aload_n dX9_isRule_0 rfl rfl ?_
  refine J_getf dX9_isRule_1 fl_X9_30 (hM.at 0 rfl) rfl ?_
  refine J_aload_n dX9_isRule_4 rfl rfl ?_
  refine J_getf dX9_isRule_5 fl_X9_305 (hM.at 0 rfl) rfl ?_
  refine J_iconst (v := 2) dX9_isRule_8 (by decide) ?_
  refine J_iastN k dX9_isRule_9 (hM.at 4 rfl) rfl (by omega) (by decide) ?_
  refine J_genA (wM_a13 hM _) ((xx_pf.rf (bm := bm) (bp := bp)).put (by omega) (by omega) _) (fun A1 w1 s1 o1 => ?_)
  have w1N := hN.o2 o1 (m := 9) rfl (by omega)
  have u1 : xx_w bm (layM b0 vL bn ba bm (paM (a_up M 13 (upd (M.2 13) k 2)) k 0)) A1 := w1
  refine J_aload_n dX9_isRule_10 rfl rfl ?_
  refine J_dup dX9_isRule_11 rfl ?_
  refine J_getf dX9_isRule_12 fl_X9_305 (u1.at 0 rfl) rfl ?_
  refine J_iconst (v := 1) dX9_isRule_15 (by decide) ?_
  refine J_iadd dX9_isRule_16 ?_
  refine J_putf dX9_isRule_17 fp_X9_305 (fun _ => ⟨rfl, rfl⟩) (u1.at 0 rfl) (Nat.le_of_ble_eq_true rfl) ?_
  refine J_genA (wM_s0_9 u1 _) (s1.put (by omega) (by omega) _) (fun A2 w2 s2 o2 => ?_)
  have w2N := w1N.o2 o2 (m := 9) rfl (by omega)
  have u2 := w2
  rw [pa_up (M := (a_up M 13 (upd (M.2 13) k 2))) (k := k) (d := 0) (k2 := k + 1) (x := (paM (a_up M 13 (upd (M.2 13) k 2)) k 0).1 9 + 1) (nI_1 _)] at u2
  have nx2 : ¬ tk k = 37 ∧ ¬ tk k = 38 := (by rw [h5]; decide)
  have hk2 : k + 1 < tok := hnx _ hk nx2.1 nx2.2
  refine J_bipush (v := 15) dX9_isRule_20 (by decide) ?_
  refine J_aload_n dX9_isRule_22 rfl rfl ?_
  refine J_getf dX9_isRule_23 fl_X9_366 (u2.at 0 rfl) rfl ?_
  refine J_min dX9_isRule_26 ml_X9_224 ⟨by omega, by show 0 + 13 ≤ _; omega⟩ ⟨by decide, by decide⟩ ?_
  refine J_istore_n (L' := [(2, _), (0, _), (1, _)]) dX9_isRule_29 rfl (by decide) rfl ?_
  refine J_aload_n dX9_isRule_30 rfl rfl ?_
  refine J_dup dX9_isRule_31 rfl ?_
  refine J_getf dX9_isRule_32 fl_X9_366 (u2.at 0 rfl) rfl ?_
  refine J_iconst (v := 1) dX9_isRule_35 (by decide) ?_
  refine J_iadd dX9_isRule_36 ?_
  refine J_putf dX9_isRule_37 fp_X9_366 (fun _ => ⟨rfl, rfl⟩) (u2.at 0 rfl) (Nat.le_of_ble_eq_true rfl) ?_
  refine J_genA (wM_s0_21 u2 _) (s2.put (by omega) (by omega) _) (fun A3 w3 s3 o3 => ?_)
  have w3N := w2N.o2 o3 (m := 9) rfl (by omega)
  have u3 : xx_w bm (layM b0 vL bn ba bm (s_up (paM (a_up M 13 (upd (M.2 13) k 2)) (k + 1) 0) 21 (nI (rr + 1)))) A3 := by rw [← show M.1 21 + 1 = nI (rr + 1) from (by rw [h21]; exact nI_1 rr)]; exact w3
  rw [pm_21] at u3
  refine J_aload_n dX9_isRule_40 rfl rfl ?_
  refine J_callVw (As := []) dX9_isRule_41 ml_X9_369 cal_X9_isOutcome im_X9_isOutcome se_X9_isOutcome (u3.at 0 rfl) rfl rfl rfl (Nat.le_of_ble_eq_true rfl) ⟨by omega, by show 8 + (1 + 11) + _ ≤ _; omega⟩ ⟨by decide, by decide⟩ (c_X9_isOutcome (k := (k + 1)) (d := 0) hst hb48 h401 hnx (htv.of (M' := (s_up (a_up M 13 (upd (M.2 13) k 2)) 21 (nI (rr + 1)))) rfl) u3 w3N hk2) (fun A4 hQ4 => ?_)
  obtain ⟨tr_4, hf_4, hM_4, hN_4, hs_4⟩ := hQ4
  have ok_4 := ouc_ok hnx hk2
  refine J_ifb_ne (tgt := 49) dX9_isRule_44 rfl (fun h44 => ?_) (fun h44 => ?_)
  · have ft_4 := hf_4 h44
    subst ft_4
    refine J_aload_n dX9_isRule_49 rfl rfl ?_
    refine J_getf dX9_isRule_50 fl_X9_198 (hN_4.at 0 rfl) rfl ?_
    refine J_iload_n dX9_isRule_53 rfl rfl ?_
    refine J_aload_n dX9_isRule_54 rfl rfl ?_
    refine J_getf dX9_isRule_55 fl_X9_363 (hM_4.at 0 rfl) rfl ?_
    refine J_iastN (min 15 rr) dX9_isRule_58 (hN_4.at 4 rfl) hi2 (by omega) (by decide) ?_
    refine J_genA (wN_a4 hN_4 _) ((s3.trans hs_4).put (by omega) (by omega) _) (fun A5 w5 s5 o5 => ?_)
    have w5M := layM_o hM_4 o5 (by unfold isM; omega)
    have u5 : xx_w bp (layN nl bp (a_up P 4 (upd (P.2 4) (min 15 rr) (oucW tk (k + 1)).1))) A5 := w5
    refine J_aload_n dX9_isRule_59 rfl rfl ?_
    refine J_getf dX9_isRule_60 fl_X9_236 (u5.at 0 rfl) rfl ?_
    refine J_iload_n dX9_isRule_63 rfl rfl ?_
    refine J_aload_n dX9_isRule_64 rfl rfl ?_
    refine J_getf dX9_isRule_65 fl_X9_314 (u5.at 0 rfl) rfl ?_
    refine J_iastN (min 15 rr) dX9_isRule_68 (u5.at 5 rfl) hi2 (by omega) (by decide) ?_
    refine J_genA (wN_a5 u5 _) (s5.put (by omega) (by omega) _) (fun A6 w6 s6 o6 => ?_)
    have w6M := layM_o w5M o6 (by unfold isM; omega)
    have u6 : xx_w bp (layN nl bp (a_up (a_up P 4 (upd (P.2 4) (min 15 rr) (oucW tk (k + 1)).1)) 5 (upd ((a_up P 4 (upd (P.2 4) (min 15 rr) (oucW tk (k + 1)).1)).2 5) (min 15 rr) (P.1 10)))) A6 := w6
    refine J_aload_n dX9_isRule_69 rfl rfl ?_
    refine J_bipush (v := 9) dX9_isRule_70 (by decide) ?_
    refine J_callVw (As := [_]) dX9_isRule_72 ml_X9_308 cal_X9_eat im_X9_eat se_X9_eat (w6M.at 0 rfl) rfl rfl rfl (Nat.le_of_ble_eq_true rfl) ⟨by omega, by show 8 + (2 + 11) + _ ≤ _; omega⟩ ⟨by decide, by decide⟩ (c_X9_eat (v := 9) (k := (oucW tk (k + 1)).2) hst w6M rfl (by decide) (htv.of rfl) rfl ok_4.2) (fun A7 hQ7 => ?_)
    have hM_7 := hQ7.1
    have hN_7 := u6.mf hQ7.2 (m := 9) rfl (fun i hi => by unfold isM; omega)
    have hs_7 : xx_pf bm bp _ _ := hQ7.2.toP
    refine J_ifb_eq (tgt := 88) dX9_isRule_75 rfl (fun h75 => ?_) (fun h75 => ?_)
    · rw [eaM_f h75] at hM_7
      refine J_aload_n dX9_isRule_88 rfl rfl ?_
      refine J_getf dX9_isRule_89 fl_X9_239 (hN_7.at 0 rfl) rfl ?_
      refine J_iload_n dX9_isRule_92 rfl rfl ?_
      refine J_aload_n dX9_isRule_93 rfl rfl ?_
      refine J_getf dX9_isRule_94 fl_X9_314 (hN_7.at 0 rfl) rfl ?_
      refine J_iastN (min 15 rr) dX9_isRule_97 (hN_7.at 6 rfl) hi2 (by omega) (by decide) ?_
      refine J_genA (wN_a6 hN_7 _) ((s6.trans hs_7).put (by omega) (by omega) _) (fun A8 w8 s8 o8 => ?_)
      have w8M := layM_o hM_7 o8 (by unfold isM; omega)
      have u8 : xx_w bp (layN nl bp (a_up (a_up (a_up P 4 (upd (P.2 4) (min 15 rr) (oucW tk (k + 1)).1)) 5 (upd ((a_up P 4 (upd (P.2 4) (min 15 rr) (oucW tk (k + 1)).1)).2 5) (min 15 rr) (P.1 10))) 6 (upd ((a_up (a_up P 4 (upd (P.2 4) (min 15 rr) (oucW tk (k + 1)).1)) 5 (upd ((a_up P 4 (upd (P.2 4) (min 15 rr) (oucW tk (k + 1)).1)).2 5) (min 15 rr) (P.1 10))).2 6) (min 15 rr) ((a_up (a_up P 4 (upd (P.2 4) (min 15 rr) (oucW tk (k + 1)).1)) 5 (upd ((a_up P 4 (upd (P.2 4) (min 15 rr) (oucW tk (k + 1)).1)).2 5) (min 15 rr) (P.1 10))).1 10)))) A8 := w8
      refine J_iconst (v := 1) dX9_isRule_98 (by decide) ?_
      refine J_ireturn dX9_isRule_99 rfl rfl (by decide) (by decide) ?_
      have e1 : (rulW tk num (k + 1)) = (true, (oucW tk (k + 1)).2, [(k, 2)], [((oucW tk (k + 1)).1, [])]) := by unfold rulW; simp [bnd, eat, h44, h75]
      rw [e1]
      exact ⟨rfl, rfl, 0, nI (rr + 1), _, _, _, fun _ => ⟨rfl, rfl, rfl, rfl⟩, w8M, u8, s8⟩
    · rw [eaM_pt h75] at hM_7
      have kh75 : (oucW tk (k + 1)).2 + 1 < tok := hnx _ ok_4.2 (by rw [h75]; decide) (by rw [h75]; decide)
      refine J_aload_n dX9_isRule_78 rfl rfl ?_
      refine J_aload_n dX9_isRule_79 rfl rfl ?_
      refine J_callVw (As := [_]) dX9_isRule_80 ml_X9_331 cal_X9_isTest im_X9_isTest se_X9_isTest (hM_7.at 0 rfl) rfl rfl rfl (Nat.le_of_ble_eq_true rfl) ⟨by omega, by show 8 + (2 + 11) + _ ≤ _; omega⟩ ⟨by decide, by decide⟩ (c_X9_isTest0 hst hb48 h401 hnx hval _ _ _ _ ((oucW tk (k + 1)).2 + 1) m (htv.of (M' := (s_up (s_up (a_up M 13 (upd (M.2 13) k 2)) 21 (nI (rr + 1))) 20 (oucW tk (k + 1)).1)) rfl) hM_7 hN_7 hm (by omega) kh75) (fun A9 hQ9 => ?_)
      obtain ⟨d_9, P_9, hf_9, hM_9, hN_9, hs_9⟩ := hQ9
      refine J_ifb_ne (tgt := 88) dX9_isRule_83 rfl (fun h83 => ?_) (fun h83 => ?_)
      · obtain ⟨hd_9, rfl⟩ := hf_9 h83
        rw [hd_9] at hM_9
        have g9 := (ok_pT (num := num) hnx) ((oucW tk (k + 1)).2 + 1) kh75
        have m9 := emP_10 ((pT tk num) ((oucW tk (k + 1)).2 + 1)).2.2 _ hm
        refine J_aload_n dX9_isRule_88 rfl rfl ?_
        refine J_getf dX9_isRule_89 fl_X9_239 (hN_9.at 0 rfl) rfl ?_
        refine J_iload_n dX9_isRule_92 rfl rfl ?_
        refine J_aload_n dX9_isRule_93 rfl rfl ?_
        refine J_getf dX9_isRule_94 fl_X9_314 (hN_9.at 0 rfl) rfl ?_
        refine J_iastN (min 15 rr) dX9_isRule_97 (hN_9.at 6 rfl) hi2 (by omega) (by decide) ?_
        refine J_genA (wN_a6 hN_9 _) (((s6.trans hs_7).trans hs_9).put (by omega) (by omega) _) (fun A10 w10 s10 o10 => ?_)
        have w10M := layM_o hM_9 o10 (by unfold isM; omega)
        have u10 : xx_w bp (layN nl bp (a_up (emP (a_up (a_up P 4 (upd (P.2 4) (min 15 rr) (oucW tk (k + 1)).1)) 5 (upd ((a_up P 4 (upd (P.2 4) (min 15 rr) (oucW tk (k + 1)).1)).2 5) (min 15 rr) (P.1 10))) ((pT tk num) ((oucW tk (k + 1)).2 + 1)).2.2) 6 (upd ((emP (a_up (a_up P 4 (upd (P.2 4) (min 15 rr) (oucW tk (k + 1)).1)) 5 (upd ((a_up P 4 (upd (P.2 4) (min 15 rr) (oucW tk (k + 1)).1)).2 5) (min 15 rr) (P.1 10))) ((pT tk num) ((oucW tk (k + 1)).2 + 1)).2.2).2 6) (min 15 rr) ((emP (a_up (a_up P 4 (upd (P.2 4) (min 15 rr) (oucW tk (k + 1)).1)) 5 (upd ((a_up P 4 (upd (P.2 4) (min 15 rr) (oucW tk (k + 1)).1)).2 5) (min 15 rr) (P.1 10))) ((pT tk num) ((oucW tk (k + 1)).2 + 1)).2.2).1 10)))) A10 := w10
        refine J_iconst (v := 1) dX9_isRule_98 (by decide) ?_
        refine J_ireturn dX9_isRule_99 rfl rfl (by decide) (by decide) ?_
        have e1 : (rulW tk num (k + 1)) = (true, ((pT tk num) ((oucW tk (k + 1)).2 + 1)).2.1, [(k, 2)], [((oucW tk (k + 1)).1, ((pT tk num) ((oucW tk (k + 1)).2 + 1)).2.2)]) := by unfold rulW; simp [bnd, eat, h44, h75, h83]
        rw [e1]
        exact ⟨rfl, rfl, 0, nI (rr + 1), _, _, _, fun _ => ⟨rfl, rfl, rfl, rfl⟩, w10M, u10, s10⟩
      · refine J_iconst (v := 0) dX9_isRule_86 (by decide) ?_
        refine J_ireturn dX9_isRule_87 rfl rfl (by decide) (by decide) ?_
        have e1 : (rulW tk num (k + 1)) = (false, ((pT tk num) ((oucW tk (k + 1)).2 + 1)).2.1, [], []) := by unfold rulW; simp [bnd, eat, h44, h75, h83]
        rw [e1]
        exact ⟨rfl, rfl, _, nI (rr + 1), _, _, _, fun z => (Bool.false_ne_true z).elim, hM_9, hN_9, ((s6.trans hs_7).trans hs_9)⟩
  · refine J_iconst (v := 0) dX9_isRule_47 (by decide) ?_
    refine J_ireturn dX9_isRule_48 rfl rfl (by decide) (by decide) ?_
    have e1 : (rulW tk num (k + 1)) = (false, (oucW tk (k + 1)).2, [], []) := by unfold rulW; simp [bnd, eat, h44]
    rw [e1]
    exact ⟨rfl, rfl, _, nI (rr + 1), _, _, _, fun z => (Bool.false_ne_true z).elim, hM_4, hN_4, (s3.trans hs_4)⟩
set_option maxHeartbeats 2000000 in
theorem c_X9_isLine (hst : l.stackTraces = false) (hb48 : bm + 48 ≤ bp) (h401 : tok ≤ 401) (hnx : nxt tk tok) {b0 : Nat} {num : Nat → Int32} (hval : ∀ q, q < tok → tk q = 36 → vL q = (num q).toInt64) (htv : tkV tk tok M) (hM : xx_w bm (layM b0 vL bn ba bm (paM M k 0)) A) (hN : xx_w bp (layN nl bp P) A) (hm : P.1 10 = nI m) (hmk : m ≤ k) (hk : k < tok) {rr : Nat} (h21 : M.1 21 = nI rr) (hr : rr ≤ 401) : xx_C G l yX9_isLine mX9_isLine 56 1894 0 0 [.ref bm, .ref bp] A n (lnQ9 bm bp b0 bn ba n vL nl M P rr (linW tk num k) A) := by
  refine J_C hst (by decide +kernel) rfl rfl rfl (Nat.le_of_ble_eq_true rfl) ?_
  show xx_J _ _ _ _ _ _ _ _ 0 [(0, _), (1, _)] [] _ _ _ _
  refine J_aload_n dX9_isLine_0 rfl rfl ?_
  refine J_getf dX9_isLine_1 fl_X9_24 (hM.at 0 rfl) rfl ?_
  refine J_aload_n dX9_isLine_4 rfl rfl ?_
  refine J_getf dX9_isLine_5 fl_X9_305 (hM.at 0 rfl) rfl ?_
  refine J_ialdN k dX9_isLine_8 (hM.at 2 rfl) rfl (by omega) (by decide) ?_
  refine J_istore_n (L' := [(2, _), (0, _), (1, _)]) dX9_isLine_9 rfl (by decide) rfl ?_
  refine J_iload_n dX9_isLine_10 rfl rfl ?_
  refine J_if_ne (tgt := 58) dX9_isLine_11 rfl (fun h11 => ?_) (fun h11 => ?_)
  · have th11 : ¬ tk k = 0 := fun z => h11 ((htv.eq hk (v := 0) (by decide)).mpr z)
    refine J_iload_n dX9_isLine_58 rfl rfl ?_
    refine J_iconst (v := 2) dX9_isLine_59 (by decide) ?_
    refine J_icmp_ne (tgt := 110) dX9_isLine_60 rfl (fun h60 => ?_) (fun h60 => ?_)
    · have th60 : ¬ tk k = 2 := fun z => h60 ((htv.eq hk (v := 2) (by decide)).mpr z)
      refine J_iload_n dX9_isLine_110 rfl rfl ?_
      refine J_iconst (v := 5) dX9_isLine_111 (by decide) ?_
      refine J_icmp_ne (tgt := 127) dX9_isLine_112 rfl (fun h112 => ?_) (fun h112 => ?_)
      · have th112 : ¬ tk k = 5 := fun z => h112 ((htv.eq hk (v := 5) (by decide)).mpr z)
        refine J_iconst (v := 0) dX9_isLine_127 (by decide) ?_
        refine J_ireturn dX9_isLine_128 rfl rfl (by decide) (by decide) ?_
        have e1 : (linW tk num k) = (false, k, [], []) := by unfold linW; rw [if_neg th11, if_neg th60, if_neg th112]
        rw [e1]
        exact ⟨rfl, rfl, 0, M.1 21, M.1 20, M.2 13, _, fun z => (Bool.false_ne_true z).elim, by rw [← @ln_self M]; exact hM, hN, (xx_pf.rf (bm := bm) (bp := bp))⟩
      · have th112 : tk k = 5 := (htv.eq hk (v := 5) (by decide)).mp h112
        refine J_aload_n dX9_isLine_115 rfl rfl ?_
        refine J_aload_n dX9_isLine_116 rfl rfl ?_
        refine J_callVw (As := [_]) dX9_isLine_117 ml_X9_360 cal_X9_isRule im_X9_isRule se_X9_isRule (hM.at 0 rfl) rfl rfl rfl (Nat.le_of_ble_eq_true rfl) ⟨by omega, by show 8 + (3 + 11) + _ ≤ _; omega⟩ ⟨by decide, by decide⟩ (c_X9_isRule (rr := rr) hst hb48 h401 hnx hval htv hM hN hm hmk hk th112 h21 hr) (fun A1 hQ1 => ?_)
        obtain ⟨d_1, r_1, t_1, f_1, P_1, hf_1, hM_1, hN_1, hs_1⟩ := hQ1
        refine J_ifb_eq (tgt := 127) dX9_isLine_120 rfl (fun h120 => ?_) (fun h120 => ?_)
        · refine J_iconst (v := 0) dX9_isLine_127 (by decide) ?_
          refine J_ireturn dX9_isLine_128 rfl rfl (by decide) (by decide) ?_
          have e1 : (linW tk num k) = rulW tk num (k + 1) := by unfold linW; rw [if_neg th11, if_neg th60, if_pos th112]
          rw [e1]
          exact ⟨by rw [xx_bf h120], rfl, d_1, r_1, t_1, f_1, P_1, hf_1, hM_1, hN_1, ((xx_pf.rf (bm := bm) (bp := bp)).trans hs_1)⟩
        · refine J_iconst (v := 1) dX9_isLine_123 (by decide) ?_
          refine J_goto (tgt := 128) dX9_isLine_124 rfl ?_
          refine J_ireturn dX9_isLine_128 rfl rfl (by decide) (by decide) ?_
          have e1 : (linW tk num k) = rulW tk num (k + 1) := by unfold linW; rw [if_neg th11, if_neg th60, if_pos th112]
          rw [e1]
          exact ⟨by rw [xx_bt h120], rfl, d_1, r_1, t_1, f_1, P_1, hf_1, hM_1, hN_1, ((xx_pf.rf (bm := bm) (bp := bp)).trans hs_1)⟩
    · have th60 : tk k = 2 := (htv.eq hk (v := 2) (by decide)).mp h60
      refine J_aload_n dX9_isLine_63 rfl rfl ?_
      refine J_dup dX9_isLine_64 rfl ?_
      refine J_getf dX9_isLine_65 fl_X9_305 (hM.at 0 rfl) rfl ?_
      refine J_iconst (v := 1) dX9_isLine_68 (by decide) ?_
      refine J_iadd dX9_isLine_69 ?_
      refine J_putf dX9_isLine_70 fp_X9_305 (fun _ => ⟨rfl, rfl⟩) (hM.at 0 rfl) (Nat.le_of_ble_eq_true rfl) ?_
      refine J_genA (wM_s0_9 hM _) ((xx_pf.rf (bm := bm) (bp := bp)).put (by omega) (by omega) _) (fun A2 w2 s2 o2 => ?_)
      have w2N := hN.o2 o2 (m := 9) rfl (by omega)
      have u2 := w2
      rw [pa_up (M := M) (k := k) (d := 0) (k2 := k + 1) (x := (paM M k 0).1 9 + 1) (nI_1 _)] at u2
      have nx2 : ¬ tk k = 37 ∧ ¬ tk k = 38 := (by rw [th60]; decide)
      have hk2 : k + 1 < tok := hnx _ hk nx2.1 nx2.2
      refine J_aload_n dX9_isLine_73 rfl rfl ?_
      refine J_bipush (v := 31) dX9_isLine_74 (by decide) ?_
      refine J_iconst (v := 4) dX9_isLine_76 (by decide) ?_
      refine J_callVw (As := [_, _]) dX9_isLine_77 ml_X9_356 cal_X9_eatAs im_X9_eatAs se_X9_eatAs (u2.at 0 rfl) rfl rfl rfl (Nat.le_of_ble_eq_true rfl) ⟨by omega, by show 8 + (3 + 11) + _ ≤ _; omega⟩ ⟨by decide, by decide⟩ (c_X9_eatAs (v := 36) (k := (k + 1)) hst u2 rfl (by decide) (htv.of rfl) rfl hk2 4) (fun A3 hQ3 => ?_)
      have hM_3 : xx_w bm (layM b0 vL bn ba bm (eaM (paM (a_up M 13 (upd (M.2 13) (k + 1) 4)) (k + 1) 0) (tk (k + 1) = 36))) A3 := hQ3.1
      rw [ln_a] at hM_3
      have hN_3 := w2N.mf hQ3.2 (m := 9) rfl (fun i hi => by unfold isM; omega)
      have hs_3 : xx_pf bm bp _ _ := hQ3.2.toP
      refine J_ifb_eq (tgt := 108) dX9_isLine_80 rfl (fun h80 => ?_) (fun h80 => ?_)
      · rw [eaM_f h80] at hM_3
        refine J_iconst (v := 0) dX9_isLine_108 (by decide) ?_
        refine J_ireturn dX9_isLine_109 rfl rfl (by decide) (by decide) ?_
        have e1 : (linW tk num k) = (false, k + 1, [], []) := by unfold linW; rw [if_neg th11, if_pos th60]; unfold ptsW; rw [if_pos h80]
        rw [e1]
        exact ⟨rfl, rfl, 0, M.1 21, M.1 20, _, P, fun z => (Bool.false_ne_true z).elim, hM_3, hN_3, (s2.trans hs_3)⟩
      · rw [eaM_pt h80] at hM_3
        have kh80 : (k + 1) + 1 < tok := hnx _ hk2 (by rw [h80]; decide) (by rw [h80]; decide)
        refine J_aload_n dX9_isLine_83 rfl rfl ?_
        refine J_bipush (v := 31) dX9_isLine_84 (by decide) ?_
        refine J_iconst (v := 5) dX9_isLine_86 (by decide) ?_
        refine J_callVw (As := [_, _]) dX9_isLine_87 ml_X9_356 cal_X9_eatAs im_X9_eatAs se_X9_eatAs (hM_3.at 0 rfl) rfl rfl rfl (Nat.le_of_ble_eq_true rfl) ⟨by omega, by show 8 + (3 + 11) + _ ≤ _; omega⟩ ⟨by decide, by decide⟩ (c_X9_eatAs (v := 36) (k := ((k + 1) + 1)) hst hM_3 rfl (by decide) (htv.of rfl) rfl kh80 5) (fun A4 hQ4 => ?_)
        have hM_4 : xx_w bm (layM b0 vL bn ba bm (eaM (paM (a_up (lnB M (M.1 21) (M.1 20) (upd (M.2 13) (k + 1) 4)) 13 (upd (upd (M.2 13) (k + 1) 4) ((k + 1) + 1) 5)) ((k + 1) + 1) 0) (tk ((k + 1) + 1) = 36))) A4 := hQ4.1
        rw [ln_a2] at hM_4
        have hN_4 := hN_3.mf hQ4.2 (m := 9) rfl (fun i hi => by unfold isM; omega)
        have hs_4 : xx_pf bm bp _ _ := hQ4.2.toP
        refine J_ifb_eq (tgt := 108) dX9_isLine_90 rfl (fun h90 => ?_) (fun h90 => ?_)
        · rw [eaM_f h90] at hM_4
          refine J_iconst (v := 0) dX9_isLine_108 (by decide) ?_
          refine J_ireturn dX9_isLine_109 rfl rfl (by decide) (by decide) ?_
          have e1 : (linW tk num k) = (false, k + 1 + 1, [], []) := by unfold linW; rw [if_neg th11, if_pos th60]; unfold ptsW; rw [if_neg (fun z => z h80), if_pos h90]
          rw [e1]
          exact ⟨rfl, rfl, 0, M.1 21, M.1 20, _, P, fun z => (Bool.false_ne_true z).elim, hM_4, hN_4, ((s2.trans hs_3).trans hs_4)⟩
        · rw [eaM_pt h90] at hM_4
          have kh90 : ((k + 1) + 1) + 1 < tok := hnx _ kh80 (by rw [h90]; decide) (by rw [h90]; decide)
          refine J_aload_n dX9_isLine_93 rfl rfl ?_
          refine J_bipush (v := 31) dX9_isLine_94 (by decide) ?_
          refine J_bipush (v := 6) dX9_isLine_96 (by decide) ?_
          refine J_callVw (As := [_, _]) dX9_isLine_98 ml_X9_356 cal_X9_eatAs im_X9_eatAs se_X9_eatAs (hM_4.at 0 rfl) rfl rfl rfl (Nat.le_of_ble_eq_true rfl) ⟨by omega, by show 8 + (3 + 11) + _ ≤ _; omega⟩ ⟨by decide, by decide⟩ (c_X9_eatAs (v := 36) (k := (((k + 1) + 1) + 1)) hst hM_4 rfl (by decide) (htv.of rfl) rfl kh90 6) (fun A5 hQ5 => ?_)
          have hM_5 : xx_w bm (layM b0 vL bn ba bm (eaM (paM (a_up (lnB M (M.1 21) (M.1 20) (upd (upd (M.2 13) (k + 1) 4) ((k + 1) + 1) 5)) 13 (upd (upd (upd (M.2 13) (k + 1) 4) ((k + 1) + 1) 5) (((k + 1) + 1) + 1) 6)) (((k + 1) + 1) + 1) 0) (tk (((k + 1) + 1) + 1) = 36))) A5 := hQ5.1
          rw [ln_a2] at hM_5
          have hN_5 := hN_4.mf hQ5.2 (m := 9) rfl (fun i hi => by unfold isM; omega)
          have hs_5 : xx_pf bm bp _ _ := hQ5.2.toP
          refine J_ifb_eq (tgt := 108) dX9_isLine_101 rfl (fun h101 => ?_) (fun h101 => ?_)
          · rw [eaM_f h101] at hM_5
            refine J_iconst (v := 0) dX9_isLine_108 (by decide) ?_
            refine J_ireturn dX9_isLine_109 rfl rfl (by decide) (by decide) ?_
            have e1 : (linW tk num k) = (false, k + 1 + 2, [], []) := by unfold linW; rw [if_neg th11, if_pos th60]; unfold ptsW; rw [if_neg (fun z => z h80), if_neg (fun z => z h90), if_pos h101]
            rw [e1]
            exact ⟨rfl, rfl, 0, M.1 21, M.1 20, _, P, fun z => (Bool.false_ne_true z).elim, hM_5, hN_5, (((s2.trans hs_3).trans hs_4).trans hs_5)⟩
          · rw [eaM_pt h101] at hM_5
            have kh101 : (((k + 1) + 1) + 1) + 1 < tok := hnx _ kh90 (by rw [h101]; decide) (by rw [h101]; decide)
            refine J_iconst (v := 1) dX9_isLine_104 (by decide) ?_
            refine J_goto (tgt := 109) dX9_isLine_105 rfl ?_
            refine J_ireturn dX9_isLine_109 rfl rfl (by decide) (by decide) ?_
            have e1 : (linW tk num k) = (true, k + 1 + 3, [(k + 1, 4), (k + 1 + 1, 5), (k + 1 + 2, 6)], []) := by unfold linW; rw [if_neg th11, if_pos th60]; unfold ptsW; rw [if_neg (fun z => z h80), if_neg (fun z => z h90), if_neg (fun z => z h101)]
            rw [e1]
            exact ⟨rfl, rfl, 0, M.1 21, M.1 20, _, P, fun _ => ⟨rfl, h21, rfl, rfl⟩, hM_5, hN_5, (((s2.trans hs_3).trans hs_4).trans hs_5)⟩
  · have th11 : tk k = 0 := (htv.eq hk (v := 0) (by decide)).mp h11
    refine J_aload_n dX9_isLine_14 rfl rfl ?_
    refine J_dup dX9_isLine_15 rfl ?_
    refine J_getf dX9_isLine_16 fl_X9_305 (hM.at 0 rfl) rfl ?_
    refine J_iconst (v := 1) dX9_isLine_19 (by decide) ?_
    refine J_iadd dX9_isLine_20 ?_
    refine J_putf dX9_isLine_21 fp_X9_305 (fun _ => ⟨rfl, rfl⟩) (hM.at 0 rfl) (Nat.le_of_ble_eq_true rfl) ?_
    refine J_genA (wM_s0_9 hM _) ((xx_pf.rf (bm := bm) (bp := bp)).put (by omega) (by omega) _) (fun A6 w6 s6 o6 => ?_)
    have w6N := hN.o2 o6 (m := 9) rfl (by omega)
    have u6 := w6
    rw [pa_up (M := M) (k := k) (d := 0) (k2 := k + 1) (x := (paM M k 0).1 9 + 1) (nI_1 _)] at u6
    have nx6 : ¬ tk k = 37 ∧ ¬ tk k = 38 := (by rw [th11]; decide)
    have hk6 : k + 1 < tok := hnx _ hk nx6.1 nx6.2
    refine J_aload_n dX9_isLine_24 rfl rfl ?_
    refine J_bipush (v := 30) dX9_isLine_25 (by decide) ?_
    refine J_iconst (v := 1) dX9_isLine_27 (by decide) ?_
    refine J_callVw (As := [_, _]) dX9_isLine_28 ml_X9_356 cal_X9_eatAs im_X9_eatAs se_X9_eatAs (u6.at 0 rfl) rfl rfl rfl (Nat.le_of_ble_eq_true rfl) ⟨by omega, by show 8 + (3 + 11) + _ ≤ _; omega⟩ ⟨by decide, by decide⟩ (c_X9_eatAs (v := 35) (k := (k + 1)) hst u6 rfl (by decide) (htv.of rfl) rfl hk6 1) (fun A7 hQ7 => ?_)
    have hM_7 : xx_w bm (layM b0 vL bn ba bm (eaM (paM (a_up M 13 (upd (M.2 13) (k + 1) 1)) (k + 1) 0) (tk (k + 1) = 35))) A7 := hQ7.1
    rw [ln_a] at hM_7
    have hN_7 := w6N.mf hQ7.2 (m := 9) rfl (fun i hi => by unfold isM; omega)
    have hs_7 : xx_pf bm bp _ _ := hQ7.2.toP
    refine J_ifb_eq (tgt := 56) dX9_isLine_31 rfl (fun h31 => ?_) (fun h31 => ?_)
    · rw [eaM_f h31] at hM_7
      refine J_iconst (v := 0) dX9_isLine_56 (by decide) ?_
      refine J_ireturn dX9_isLine_57 rfl rfl (by decide) (by decide) ?_
      have e1 : (linW tk num k) = (false, k + 1, [], []) := by unfold linW; rw [if_pos th11]; unfold wrsW; rw [if_pos h31]
      rw [e1]
      exact ⟨rfl, rfl, 0, M.1 21, M.1 20, _, P, fun z => (Bool.false_ne_true z).elim, hM_7, hN_7, (s6.trans hs_7)⟩
    · rw [eaM_pt h31] at hM_7
      have kh31 : (k + 1) + 1 < tok := hnx _ hk6 (by rw [h31]; decide) (by rw [h31]; decide)
      refine J_aload_n dX9_isLine_34 rfl rfl ?_
      refine J_iconst (v := 1) dX9_isLine_35 (by decide) ?_
      refine J_callVw (As := [_]) dX9_isLine_36 ml_X9_308 cal_X9_eat im_X9_eat se_X9_eat (hM_7.at 0 rfl) rfl rfl rfl (Nat.le_of_ble_eq_true rfl) ⟨by omega, by show 8 + (2 + 11) + _ ≤ _; omega⟩ ⟨by decide, by decide⟩ (c_X9_eat (v := 1) (k := ((k + 1) + 1)) hst hM_7 rfl (by decide) (htv.of rfl) rfl kh31) (fun A8 hQ8 => ?_)
      have hM_8 := hQ8.1
      have hN_8 := hN_7.mf hQ8.2 (m := 9) rfl (fun i hi => by unfold isM; omega)
      have hs_8 : xx_pf bm bp _ _ := hQ8.2.toP
      refine J_ifb_eq (tgt := 56) dX9_isLine_39 rfl (fun h39 => ?_) (fun h39 => ?_)
      · rw [eaM_f h39] at hM_8
        refine J_iconst (v := 0) dX9_isLine_56 (by decide) ?_
        refine J_ireturn dX9_isLine_57 rfl rfl (by decide) (by decide) ?_
        have e1 : (linW tk num k) = (false, k + 1 + 1, [], []) := by unfold linW; rw [if_pos th11]; unfold wrsW; rw [if_neg (fun z => z h31), if_pos h39]
        rw [e1]
        exact ⟨rfl, rfl, 0, M.1 21, M.1 20, _, P, fun z => (Bool.false_ne_true z).elim, hM_8, hN_8, ((s6.trans hs_7).trans hs_8)⟩
      · rw [eaM_pt h39] at hM_8
        have kh39 : ((k + 1) + 1) + 1 < tok := hnx _ kh31 (by rw [h39]; decide) (by rw [h39]; decide)
        refine J_aload_n dX9_isLine_42 rfl rfl ?_
        refine J_bipush (v := 31) dX9_isLine_43 (by decide) ?_
        refine J_iconst (v := 3) dX9_isLine_45 (by decide) ?_
        refine J_callVw (As := [_, _]) dX9_isLine_46 ml_X9_356 cal_X9_eatAs im_X9_eatAs se_X9_eatAs (hM_8.at 0 rfl) rfl rfl rfl (Nat.le_of_ble_eq_true rfl) ⟨by omega, by show 8 + (3 + 11) + _ ≤ _; omega⟩ ⟨by decide, by decide⟩ (c_X9_eatAs (v := 36) (k := (((k + 1) + 1) + 1)) hst hM_8 rfl (by decide) (htv.of rfl) rfl kh39 3) (fun A9 hQ9 => ?_)
        have hM_9 : xx_w bm (layM b0 vL bn ba bm (eaM (paM (a_up (lnB M (M.1 21) (M.1 20) (upd (M.2 13) (k + 1) 1)) 13 (upd (upd (M.2 13) (k + 1) 1) (((k + 1) + 1) + 1) 3)) (((k + 1) + 1) + 1) 0) (tk (((k + 1) + 1) + 1) = 36))) A9 := hQ9.1
        rw [ln_a2] at hM_9
        have hN_9 := hN_8.mf hQ9.2 (m := 9) rfl (fun i hi => by unfold isM; omega)
        have hs_9 : xx_pf bm bp _ _ := hQ9.2.toP
        refine J_ifb_eq (tgt := 56) dX9_isLine_49 rfl (fun h49 => ?_) (fun h49 => ?_)
        · rw [eaM_f h49] at hM_9
          refine J_iconst (v := 0) dX9_isLine_56 (by decide) ?_
          refine J_ireturn dX9_isLine_57 rfl rfl (by decide) (by decide) ?_
          have e1 : (linW tk num k) = (false, k + 1 + 2, [], []) := by unfold linW; rw [if_pos th11]; unfold wrsW; rw [if_neg (fun z => z h31), if_neg (fun z => z h39), if_pos h49]
          rw [e1]
          exact ⟨rfl, rfl, 0, M.1 21, M.1 20, _, P, fun z => (Bool.false_ne_true z).elim, hM_9, hN_9, (((s6.trans hs_7).trans hs_8).trans hs_9)⟩
        · rw [eaM_pt h49] at hM_9
          have kh49 : (((k + 1) + 1) + 1) + 1 < tok := hnx _ kh39 (by rw [h49]; decide) (by rw [h49]; decide)
          refine J_iconst (v := 1) dX9_isLine_52 (by decide) ?_
          refine J_goto (tgt := 57) dX9_isLine_53 rfl ?_
          refine J_ireturn dX9_isLine_57 rfl rfl (by decide) (by decide) ?_
          have e1 : (linW tk num k) = (true, k + 1 + 3, [(k + 1, 1), (k + 1 + 2, 3)], []) := by unfold linW; rw [if_pos th11]; unfold wrsW; rw [if_neg (fun z => z h31), if_neg (fun z => z h39), if_neg (fun z => z h49)]
          rw [e1]
          exact ⟨rfl, rfl, 0, M.1 21, M.1 20, _, P, fun _ => ⟨rfl, h21, rfl, rfl⟩, hM_9, hN_9, (((s6.trans hs_7).trans hs_8).trans hs_9)⟩
theorem lin_rr {tk : Nat → Nat} {num : Nat → Int32} (hn : nxt tk tok) (hk : k < tok) : (linW tk num k).2.2.2.length + k ≤ (linW tk num k).2.1 := by
  have z := (lin_ok (num := num) hn hk).1
  have key : (linW tk num k).2.2.2.length = 0 ∨ ((linW tk num k).2.2.2.length = 1 ∧ k < (linW tk num k).2.1) := by
    unfold linW
    split
    · left; unfold wrsW; split <;> (try split) <;> (try split) <;> rfl
    split
    · left; unfold ptsW; split <;> (try split) <;> (try split) <;> rfl
    split
    · rename_i h
      have hk1 := hn k hk (by omega) (by omega)
      have a := (rul_ok (num := num) hn hk1).1
      by_cases c : (rulW tk num (k + 1)).2.2.2.length = 0
      · exact Or.inl c
      · refine Or.inr ⟨?_, by omega⟩
        unfold rulW at c ⊢
        split
        · rename_i g; rw [if_pos g] at c; exact absurd rfl c
        rename_i g; rw [if_neg g] at c
        split
        · rename_i g9; rw [if_pos g9] at c
          split
          · rfl
          · rename_i gp; rw [if_neg gp] at c; exact absurd rfl c
        · rfl
    · left; rfl
  omega
set_option maxHeartbeats 2000000 in
theorem c_X9_isBook (hst : l.stackTraces = false) (hb48 : bm + 48 ≤ bp) (h401 : tok ≤ 401) (hnx : nxt tk tok) {b0 : Nat} {num : Nat → Int32} (hval : ∀ q, q < tok → tk q = 36 → vL q = (num q).toInt64) (htv : tkV tk tok M) (hM : xx_w bm (layM b0 vL bn ba bm (paM M 0 0)) A) (hN : xx_w bp (layN nl bp P) A) (hm : P.1 10 = 0) (hk : 0 < tok) (h21 : M.1 21 = 0) : xx_C G l yX9_isBook mX9_isBook 57 1916 0 0 [.ref bm, .ref bp] A n (lnQ9 bm bp b0 bn ba n vL nl M P 0 (bokW tk num 401 0 [] []) A) := by
  refine J_C hst (by decide +kernel) rfl rfl rfl (Nat.le_of_ble_eq_true rfl) ?_
  show xx_J _ _ _ _ _ _ _ _ 0 [(0, _), (1, _)] [] _ _ _ _
  have loop : ∀ f, ∀ (A1 : xx_H) (k1 : Nat) (its1 : List (Nat × Nat)) (rs1 : RuL) (t1 : Int32), k1 < tok → 401 ≤ f + k1 → xx_w bm (layM b0 vL bn ba bm (paM (lnB M (nI rs1.length) t1 (mnL (M.2 13) its1)) k1 0)) A1 → xx_w bp (layN nl bp (rsP P 0 rs1)) A1 → xx_pf bm bp A A1 → (flatR rs1).length ≤ k1 → rs1.length ≤ k1 → (bokW tk num 401 0 [] []) = bokW tk num f k1 its1 rs1 → xx_J G l mX9_isBook 57 1916 0 0 (lnQ9 bm bp b0 bn ba n vL nl M P 0 (bokW tk num 401 0 [] []) A) 0 [(0, .ref bm), (1, .ref bp)] [] A1 n 0 0 := by
    intro f
    induction f with
    | zero => intro A1 k1 its1 rs1 t1 hk2 hf; exfalso; omega
    | succ f ih =>
      intro A1 k1 its1 rs1 t1 hk1 hf hM1 hN1 hs1 hfl hrl hv
      have hm1 : (rsP P 0 rs1).1 10 = nI (0 + (flatR rs1).length) := rsP_10 rs1 hm
      have hem := rul_em (num := num) hnx hk1
      have hlo := lin_ok (num := num) hnx hk1
      have hrr := lin_rr (num := num) hnx hk1
      rw [Nat.zero_add] at hm1
      refine J_aload_n dX9_isBook_0 rfl rfl ?_
      refine J_getf dX9_isBook_1 fl_X9_24 (hM1.at 0 rfl) rfl ?_
      refine J_aload_n dX9_isBook_4 rfl rfl ?_
      refine J_getf dX9_isBook_5 fl_X9_305 (hM1.at 0 rfl) rfl ?_
      refine J_ialdN k1 dX9_isBook_8 (hM1.at 2 rfl) rfl (by omega) (by decide) ?_
      refine J_bipush (v := 33) dX9_isBook_9 (by decide) ?_
      refine J_icmp_eq (tgt := 33) dX9_isBook_11 rfl (fun h11 => ?_) (fun h11 => ?_)
      · have th11 : tk k1 = 37 := ((htv.of (M' := (lnB M (nI rs1.length) t1 (mnL (M.2 13) its1))) rfl).eq hk1 (v := 37) (by decide)).mp h11
        refine J_iconst (v := 1) dX9_isBook_33 (by decide) ?_
        refine J_ireturn dX9_isBook_34 rfl rfl (by decide) (by decide) ?_
        have e1 : (bokW tk num 401 0 [] []) = (true, k1, its1, rs1) := by rw [hv]; unfold bokW; rw [if_pos th11]
        rw [e1]
        exact ⟨rfl, rfl, 0, _, _, _, _, fun _ => ⟨rfl, by rw [Nat.zero_add], rfl, rfl⟩, hM1, hN1, hs1⟩
      · have th11 : ¬ tk k1 = 37 := fun z => h11 (((htv.of (M' := (lnB M (nI rs1.length) t1 (mnL (M.2 13) its1))) rfl).eq hk1 (v := 37) (by decide)).mpr z)
        refine J_aload_n dX9_isBook_14 rfl rfl ?_
        refine J_aload_n dX9_isBook_15 rfl rfl ?_
        refine J_callVw (As := [_]) dX9_isBook_16 ml_X9_373 cal_X9_isLine im_X9_isLine se_X9_isLine (hM1.at 0 rfl) rfl rfl rfl (Nat.le_of_ble_eq_true rfl) ⟨by omega, by show 8 + (3 + 11) + _ ≤ _; omega⟩ ⟨by decide, by decide⟩ (c_X9_isLine (k := k1) (m := (flatR rs1).length) (rr := rs1.length) hst hb48 h401 hnx hval (htv.of (M' := (lnB M (nI rs1.length) t1 (mnL (M.2 13) its1))) rfl) hM1 hN1 hm1 hfl hk1 rfl (by omega)) (fun A1 hQ1 => ?_)
        obtain ⟨d_1, r_1, t_1, f_1, P_1, hf_1, hM_1, hN_1, hs_1⟩ := hQ1
        refine J_ifb_eq (tgt := 31) dX9_isBook_19 rfl (fun h19 => ?_) (fun h19 => ?_)
        · refine J_iconst (v := 0) dX9_isBook_31 (by decide) ?_
          refine J_ireturn dX9_isBook_32 rfl rfl (by decide) (by decide) ?_
          have e1 : (bokW tk num 401 0 [] []) = (false, (linW tk num k1).2.1, its1, rs1) := by rw [hv]; unfold bokW; rw [if_neg th11, if_neg h19]
          rw [e1]
          rw [ln_ln] at hM_1
          exact ⟨rfl, rfl, d_1, r_1, t_1, f_1, P_1, fun z => (Bool.false_ne_true z).elim, hM_1, hN_1, (hs1.trans hs_1)⟩
        · obtain ⟨rfl, rfl, rfl, rfl⟩ := hf_1 h19
          rw [ln_ln] at hM_1
          refine J_aload_n dX9_isBook_22 rfl rfl ?_
          refine J_bipush (v := 59) dX9_isBook_23 (by decide) ?_
          refine J_callVw (As := [_]) dX9_isBook_25 ml_X9_308 cal_X9_eat im_X9_eat se_X9_eat (hM_1.at 0 rfl) rfl rfl rfl (Nat.le_of_ble_eq_true rfl) ⟨by omega, by show 8 + (2 + 11) + _ ≤ _; omega⟩ ⟨by decide, by decide⟩ (c_X9_eat (v := 24) (k := (linW tk num k1).2.1) hst hM_1 rfl (by decide) (htv.of rfl) rfl hlo.2) (fun A2 hQ2 => ?_)
          have hM_2 := hQ2.1
          have hN_2 := hN_1.mf hQ2.2 (m := 9) rfl (fun i hi => by unfold isM; omega)
          have hs_2 : xx_pf bm bp _ _ := hQ2.2.toP
          refine J_ifb_ne (tgt := 0) dX9_isBook_28 rfl (fun h28 => ?_) (fun h28 => ?_)
          · rw [eaM_pt h28] at hM_2
            have kh28 : (linW tk num k1).2.1 + 1 < tok := hnx _ hlo.2 (by rw [h28]; decide) (by rw [h28]; decide)
            refine ih _ ((linW tk num k1).2.1 + 1) (its1 ++ (linW tk num k1).2.2.1) (rs1 ++ (linW tk num k1).2.2.2) t_1 kh28 (by omega) ?_ ?_ ((hs1.trans hs_1).trans hs_2) ?_ ?_ ?_
            · rw [mnL_app, List.length_append]; exact hM_2
            · rw [rsP_app, Nat.zero_add]; exact hN_2
            · rw [flatR_app, List.length_append]; omega
            · rw [List.length_append]; omega
            · rw [hv]
              conv => lhs; unfold bokW
              rw [if_neg th11, if_pos h19, if_pos h28]
          · rw [eaM_f h28] at hM_2
            refine J_iconst (v := 0) dX9_isBook_31 (by decide) ?_
            refine J_ireturn dX9_isBook_32 rfl rfl (by decide) (by decide) ?_
            have e1 : (bokW tk num 401 0 [] []) = (false, (linW tk num k1).2.1, its1, rs1) := by rw [hv]; unfold bokW; rw [if_neg th11, if_pos h19, if_neg h28]
            rw [e1]
            exact ⟨rfl, rfl, _, _, _, _, _, fun z => (Bool.false_ne_true z).elim, hM_2, hN_2, ((hs1.trans hs_1).trans hs_2)⟩
  refine loop 401 A 0 [] [] (M.1 20) hk (by omega) ?_ hN xx_pf.rf (Nat.le_refl _) (Nat.le_refl _) rfl
  show xx_w bm (layM b0 vL bn ba bm (paM (lnB M 0 (M.1 20) (M.2 13)) 0 0)) A
  rw [← h21, ← @ln_self M]
  exact hM
end XSI
