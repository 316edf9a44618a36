/-! THE REFERENCE: what a parser leaves behind -/
section XSE
variable {G : xx_G} {l : Launch} {A A' : xx_H} {n : Nat} {bm bp bs bn ba : Nat} {vL nl : Nat → Int64} {M M' M1 P S : xS} {T : xS} {len i j k q s e t d nt tok v : Nat} {tk : Nat → Nat}
/-- nothing has changed but of the Model and of the Plan at bp -/
def xx_pf (bm bp : Nat) (A A' : xx_H) : Prop := ∀ h, ¬ isM bm h → (h < bp ∨ bp + 9 ≤ h) → A' h = A h
theorem xx_pf.rf : xx_pf bm bp A A := fun _ _ _ => rfl
theorem xx_pf.trans {A0 : xx_H} (h : xx_pf bm bp A0 A) (h' : xx_pf bm bp A A') : xx_pf bm bp A0 A' := fun z h1 h2 => (h' z h1 h2).trans (h z h1 h2)
theorem xx_mf.toP (h : xx_mf bm A A') : xx_pf bm bp A A' := fun z h1 _ => h z h1
theorem xx_same.toP (h : xx_same bp (bp + 9) A A') : xx_pf bm bp A A' := fun z _ h2 => h z h2
theorem xx_pf.put {A0 : xx_H} {q : Nat} (h : xx_pf bm bp A0 A) (hq : (q = bm ∨ q = bm + 1 ∨ (bm + 11 ≤ q ∧ q ≤ bm + 14) ∨ (bm + 43 ≤ q ∧ q ≤ bm + 47)) ∨ (bp ≤ q ∧ q < bp + 9)) (_ : 0 = 0) (c : va_E) : xx_pf bm bp A0 (xx_up A q c) := fun z h1 h2 => by
  have : z ≠ q := by
    intro e
    subst e
    exact hq.elim h1 (fun y => by omega)
  rw [xx_up_n _ _ this]; exact h z h1 h2
theorem layM_sP {b0 : Nat} (h : xx_w bm (layM b0 vL bn ba bm M) A) (hs : xx_same bp (bp + 9) A A') (hd : bm + 48 ≤ bp) : xx_w bm (layM b0 vL bn ba bm M) A' := fun i z e he => by
  have hz := layM_z (List.mem_map.mpr ⟨_, List.mem_of_getElem? he, rfl⟩)
  rw [hs _ (by simp only at hz; omega)]
  exact h i z e he
/-- the Model at token k and depth d -/
def paM (M : xS) (k d : Nat) : xS := s_up (s_up M 9 (nI k)) 10 (nI d)
theorem pa_up {k2 : Nat} {x : Int32} (hx : x = nI k2) : s_up (paM M k d) 9 x = paM M k2 d := by
  rw [hx]
  refine Prod.ext (funext fun q => ?_) rfl
  show va_up (va_up (va_up M.1 9 (nI k)) 10 (nI d)) 9 (nI k2) q = va_up (va_up M.1 9 (nI k2)) 10 (nI d) q
  simp only [va_up]
  by_cases h9 : q = 9
  · subst h9; simp
  · simp [h9]
theorem pd_up {d2 : Nat} {x : Int32} (hx : x = nI d2) : s_up (paM M k d) 10 x = paM M k d2 := by
  rw [hx]
  refine Prod.ext (funext fun q => ?_) rfl
  show va_up (va_up (va_up M.1 9 (nI k)) 10 (nI d)) 10 (nI d2) q = va_up (va_up M.1 9 (nI k)) 10 (nI d2) q
  simp only [va_up]
  by_cases h9 : q = 10
  · subst h9; simp
  · simp [h9]
theorem pa_9 : (paM M k d).1 9 = nI k := rfl
theorem pa_10 : (paM M k d).1 10 = nI d := rfl
theorem eaM_pt {c : Prop} [Decidable c] (h : c) : eaM (paM M k d) c = paM M (k + 1) d := (eaM_t h).trans (pa_up (nI_1 k))
theorem dpM_pt {c : Prop} [Decidable c] (h : c) : dpM (paM M k d) c = paM M (k + 1) (d + 1) := by
  unfold dpM
  rw [if_pos h]
  show s_up (s_up (paM M k d) 9 (nI k + 1)) 10 (nI d + 1) = _
  rw [pa_up (k2 := k + 1) (nI_1 k)]
  exact pd_up (nI_1 d)
theorem clM_pt {c : Prop} [Decidable c] (h : c) : clM (paM M k (d + 1)) c = paM M (k + 1) d := by
  unfold clM
  rw [if_pos h]
  show s_up (s_up (paM M k (d + 1)) 9 (nI k + 1)) 10 (nI (d + 1) - 1) = _
  rw [pa_up (k2 := k + 1) (nI_1 k)]
  exact pd_up (by rw [show (1 : Int32) = nI 1 from rfl, pk_sub (by omega), Nat.add_sub_cancel])
theorem pa_dn : s_up (paM M k (d + 1)) 10 ((paM M k (d + 1)).1 10 - 1) = paM M k d := pd_up (by show nI (d + 1) - 1 = nI d; rw [show (1 : Int32) = nI 1 from rfl, pk_sub (by omega), Nat.add_sub_cancel])
theorem pa_pa {k2 d2 : Nat} : paM (paM M k d) k2 d2 = paM M k2 d2 := by
  refine Prod.ext (funext fun q => ?_) rfl
  show va_up (va_up (va_up (va_up M.1 9 (nI k)) 10 (nI d)) 9 (nI k2)) 10 (nI d2) q = va_up (va_up M.1 9 (nI k2)) 10 (nI d2) q
  simp only [va_up]
  by_cases h9 : q = 9
  · subst h9; simp
  · by_cases h10 : q = 10
    · subst h10; simp
    · simp [h9, h10]
theorem tkV.pa (h : tkV tk tok M) : tkV tk tok (paM M k d) := h
/-- a step of a rule, as the Plan keeps it -/
def trC (x : Int32) : Int32 := if x = 0 then 1 else if x = 1 then 2 else if x = 2 then 11 else if x = 5 then 4 else if x = 6 then 13 else 14
def trO (op x : Int32) : Int32 := if op = 1 then 100 else if op = 2 then 10 else if op = 3 then trC x else if op = 4 then trC x else if op = 5 then 12 else if op = 6 then 105 else if op = 7 then 15 else if op = 8 then 101 else if op = 9 then 102 else if op = 10 then 103 else if op = 11 then 104 else if op = 12 then 18 else if op = 13 then 19 else if op = 14 then 106 else if op = 15 then 107 else if op = 16 then 108 else if op = 17 then 109 else if op = 18 then 110 else if op = 19 then 16 else 17
def trW (op x : Int32) : Int32 := if op = 1 then x else if op = 3 then 6 else if op = 4 then 7 else 0
def putE (P : xS) (s : Int32 × Int32) : xS := putP P (P.1 10).toNatClampNeg (trO s.1 s.2) (trW s.1 s.2)
def emP (P : xS) (em : List (Int32 × Int32)) : xS := em.foldl putE P
theorem emP_app {a b : List (Int32 × Int32)} : emP P (a ++ b) = emP (emP P a) b := List.foldl_append
theorem emP_10 : ∀ em (P : xS) {m : Nat}, P.1 10 = nI m → (emP P em).1 10 = nI (m + em.length) := by
  intro em
  induction em with
  | nil => intro P m h; exact h
  | cons a em ih =>
    intro P m h
    show (emP (putE P a) em).1 10 = _
    rw [ih (putE P a) (m := m + 1) (by show P.1 10 + 1 = _; rw [h]; exact nI_1 m), List.length_cons]
    congr 1
    omega
theorem put_em {m : Nat} {op x y z : Int32} (h : P.1 10 = nI m) (hm : m < 2 ^ 31) (hy : trO op x = y) (hz : trW op x = z) : putP P m y z = emP P [(op, x)] := by
  show _ = putP P (P.1 10).toNatClampNeg (trO op x) (trW op x)
  rw [h, nI_clamp hm, hy, hz]
/-- what a parser has done: fits, the token; if it fits, the steps, and the depth stands again (if not, orders may have been put ahead of what failed) -/
def prQ (bm bp b0 bn ba n : Nat) (vL nl : Nat → Int64) (M P : xS) (d : Nat) (r : Res) (A : xx_H) : xx_Q := xx_wr (some (.int (xx_b (r.1 = true)))) n (fun A' => ∃ d' P', (r.1 = true → d' = d ∧ P' = emP P r.2.2) ∧ xx_w bm (layM b0 vL bn ba bm (paM M r.2.1 d')) A' ∧ xx_w bp (layN nl bp P') A' ∧ xx_pf bm bp A A')
/-- method y at depth d reads as p says -/
def prP (G : xx_G) (l : Launch) (bm bp b0 bn ba : Nat) (vL nl : Nat → Int64) (tk : Nat → Nat) (tok : Nat) (y : MethodName) (MM : xx_M) (fr lo d : Nat) (p : Nat → Res) : Prop :=
  ∀ (A : xx_H) (n : Nat) (M P : xS) (k m : Nat), tkV tk tok M → xx_w bm (layM b0 vL bn ba bm (paM M k d)) A → xx_w bp (layN nl bp P) A → P.1 10 = nI m → m ≤ k → k < tok → xx_C G l y MM fr lo 0 0 [.ref bm, .ref bp] A n (prQ bm bp b0 bn ba n vL nl M P d (p k) A)
set_option maxHeartbeats 2000000 in
theorem c_X9_isBoth (hst : l.stackTraces = false) (hb48 : bm + 48 ≤ bp) (h401 : tok ≤ 401) (hnx : nxt tk tok) {b0 d : Nat} {p : Nat → Res} {f0 g0 : Nat} (hp : prP G l bm bp b0 bn ba vL nl tk tok yX9_isSingle mX9_isSingle f0 g0 d p) (okp : pOK tok p) {fr lo : Nat} (hf9 : 12 ≤ fr) (hg9 : 400 ≤ lo) (hf0 : f0 + 1 ≤ fr) (hg0 : g0 + 21 ≤ lo) : prP G l bm bp b0 bn ba vL nl tk tok yX9_isBoth mX9_isBoth fr lo d (chW tk opA p) := by
  intro A n M P k m htv hM hN hm hmk hk
  refine J_C hst (by decide +kernel) rfl rfl rfl (Nat.le_of_ble_eq_true rfl) ?_
  show xx_J _ _ _ _ _ _ _ _ 0 [(0, _), (1, _)] [] _ _ _ _
  have loop : ∀ f, ∀ (A1 : xx_H) (k1 : Nat) (em1 : List (Int32 × Int32)), k1 < tok → 401 ≤ f + k1 → xx_w bm (layM b0 vL bn ba bm (paM M k1 d)) A1 → xx_w bp (layN nl bp (emP P em1)) A1 → xx_pf bm bp A A1 → m + em1.length ≤ k1 → (chW tk opA p) k = ((lpW tk opA p f k1).1, (lpW tk opA p f k1).2.1, em1 ++ (lpW tk opA p f k1).2.2) → xx_J G l mX9_isBoth fr lo 0 0 (prQ bm bp b0 bn ba n vL nl M P d ((chW tk opA p) k) A) 10 [(0, .ref bm), (1, .ref bp)] [] A1 n 0 0 := by
    intro f
    induction f with
    | zero => intro A1 k1 em1 hk2 hf; exfalso; omega
    | succ f ih =>
      intro A1 k1 em1 hk2 hf hM1 hN1 hs1 hm1 hv
      have hm2 := emP_10 em1 P hm
      refine J_aload_n dX9_isBoth_10 rfl rfl ?_
      refine J_bipush (v := 16) dX9_isBoth_11 (by decide) ?_
      refine J_callVw (As := [_]) dX9_isBoth_13 ml_X9_308 cal_X9_eat im_X9_eat se_X9_eat (hM1.at 0 rfl) rfl rfl rfl (Nat.le_of_ble_eq_true rfl) ⟨by omega, by show 8 + (2 + 11) + _ ≤ _; omega⟩ ⟨by decide, by decide⟩ (c_X9_eat (v := 16) hst hM1 rfl (by decide) htv.pa rfl hk2) (fun A101 hQ101 => ?_)
      have hM_101 := hQ101.1
      have hN_101 := hN1.mf hQ101.2 (m := 9) rfl (fun i hi => by unfold isM; omega)
      have hs_101 : xx_pf bm bp _ _ := hQ101.2.toP
      refine J_ifb_eq (tgt := 40) dX9_isBoth_16 rfl (fun h16 => ?_) (fun h16 => ?_)
      · rw [eaM_f h16] at hM_101
        have hl : lpW tk opA p (f + 1) k1 = (true, k1, []) := by simp only [lpW]; rw [if_pos (show opA (tk k1) = 0 from if_neg h16)]
        rw [hl] at hv
        refine J_iconst (v := 1) dX9_isBoth_40 (by decide) ?_
        refine J_ireturn dX9_isBoth_41 rfl rfl (by decide) (by decide) ?_
        have e1 : (chW tk opA p) k = (true, k1, em1) := by rw [hv]; simp
        rw [e1]
        exact ⟨rfl, rfl, d, _, fun _ => ⟨rfl, rfl⟩, hM_101, hN_101, (hs1.trans hs_101)⟩
      · rw [eaM_pt h16] at hM_101
        have hk3 : k1 + 1 < tok := hnx _ hk2 (by rw [h16]; decide) (by rw [h16]; decide)
        have g1 := okp (k1 + 1) hk3
        refine J_aload_n dX9_isBoth_19 rfl rfl ?_
        refine J_aload_n dX9_isBoth_20 rfl rfl ?_
        refine J_callVw (As := [_]) dX9_isBoth_21 ml_X9_325 cal_X9_isSingle im_X9_isSingle se_X9_isSingle (hM_101.at 0 rfl) rfl rfl rfl (Nat.le_of_ble_eq_true rfl) ⟨by omega, by show 8 + (2 + 11) + _ ≤ _; omega⟩ ⟨by decide, by decide⟩ (hp _ _ _ _ (k1 + 1) (m + em1.length) htv hM_101 hN_101 hm2 (by omega) hk3) (fun A102 hQ102 => ?_)
        obtain ⟨d_102, P_102, hf_102, hM_102, hN_102, hs_102⟩ := hQ102
        refine J_ifb_ne (tgt := 29) dX9_isBoth_24 rfl (fun h24 => ?_) (fun h24 => ?_)
        · obtain ⟨rfl, rfl⟩ := hf_102 h24
          have hm3 : (emP (emP P em1) (p (k1 + 1)).2.2).1 10 = nI (m + em1.length + (p (k1 + 1)).2.2.length) := emP_10 _ _ hm2
          refine J_aload_n dX9_isBoth_29 rfl rfl ?_
          refine J_aload_n dX9_isBoth_30 rfl rfl ?_
          refine J_bipush (v := 16) dX9_isBoth_31 (by decide) ?_
          refine J_iconst (v := 0) dX9_isBoth_33 (by decide) ?_
          refine J_callVw (As := [_, _, _]) dX9_isBoth_34 ml_X9_321 cal_X9_put im_X9_put se_X9_put (hM_102.at 0 rfl) rfl rfl rfl (Nat.le_of_ble_eq_true rfl) ⟨by omega, by show 8 + (4 + 11) + _ ≤ _; omega⟩ ⟨by decide, by decide⟩ (c_X9_put (k := m + em1.length + (p (k1 + 1)).2.2.length) hst hM_102 hN_102 _ _ hm3 (by omega)) (fun A103 hQ103 => ?_)
          have hN_103 := hQ103.1
          have hM_103 := layM_sP hM_102 hQ103.2 hb48
          have hs_103 : xx_pf bm bp _ _ := hQ103.2.toP
          refine J_goto (tgt := 10) dX9_isBoth_37 rfl ?_
          refine xx_J.pick [0, 1] rfl ?_
          have hop : opA (tk k1) = opA 16 := by rw [h16]
          have hne : ¬ opA (tk k1) = 0 := by rw [hop]; decide
          have e1 : putP (emP (emP P em1) (p (k1 + 1)).2.2) (m + em1.length + (p (k1 + 1)).2.2.length) 16 0 = emP P (em1 ++ ((p (k1 + 1)).2.2 ++ [(opA 16, 0)])) := by
            rw [emP_app, emP_app]
            exact put_em hm3 (by omega) rfl rfl
          rw [e1] at hN_103
          exact ih _ (p (k1 + 1)).2.1 _ g1.2.1 (by omega) hM_103 hN_103 (((hs1.trans hs_101).trans hs_102).trans hs_103) (by simp only [List.length_append, List.length_cons, List.length_nil]; omega) (by rw [hv]; simp only [lpW]; rw [if_neg hne, bnd_t h24]; simp [bnd, emt, h16, List.append_assoc])
        · refine J_iconst (v := 0) dX9_isBoth_27 (by decide) ?_
          refine J_ireturn dX9_isBoth_28 rfl rfl (by decide) (by decide) ?_
          have hop : ¬ opA (tk k1) = 0 := by rw [h16]; decide
          have e1 : (chW tk opA p) k = (false, (p (k1 + 1)).2.1, em1 ++ (p (k1 + 1)).2.2) := by
            rw [hv]; simp only [lpW]; rw [if_neg hop, bnd_f h24]; simp only [Bool.not_eq_true] at h24; rw [h24]
          rw [e1]
          exact ⟨rfl, rfl, _, _, fun z => (Bool.false_ne_true z).elim, hM_102, hN_102, ((hs1.trans hs_101).trans hs_102)⟩
  refine J_aload_n dX9_isBoth_0 rfl rfl ?_
  refine J_aload_n dX9_isBoth_1 rfl rfl ?_
  refine J_callVw (As := [_]) dX9_isBoth_2 ml_X9_325 cal_X9_isSingle im_X9_isSingle se_X9_isSingle (hM.at 0 rfl) rfl rfl rfl (Nat.le_of_ble_eq_true rfl) ⟨by omega, by show 8 + (2 + 11) + _ ≤ _; omega⟩ ⟨by decide, by decide⟩ (hp _ _ _ _ k m htv hM hN hm hmk hk) (fun A1 hQ1 => ?_)
  obtain ⟨d_1, P_1, hf_1, hM_1, hN_1, hs_1⟩ := hQ1
  refine J_ifb_ne (tgt := 10) dX9_isBoth_5 rfl (fun h5 => ?_) (fun h5 => ?_)
  · obtain ⟨rfl, rfl⟩ := hf_1 h5
    refine xx_J.pick [0, 1] rfl ?_
    have g0_ := okp k hk
    exact loop 401 _ (p k).2.1 (p k).2.2 g0_.2.1 (by omega) hM_1 hN_1 ((xx_pf.rf (bm := bm) (bp := bp)).trans hs_1) (by omega) (by simp only [chW]; rw [bnd_t h5])
  · refine J_iconst (v := 0) dX9_isBoth_8 (by decide) ?_
    refine J_ireturn dX9_isBoth_9 rfl rfl (by decide) (by decide) ?_
    have e1 : (chW tk opA p) k = (false, (p k).2.1, (p k).2.2) := by
      simp only [chW]; rw [bnd_f h5]; simp only [Bool.not_eq_true] at h5; rw [← h5]
    rw [e1]
    exact ⟨rfl, rfl, _, _, fun z => (Bool.false_ne_true z).elim, hM_1, hN_1, ((xx_pf.rf (bm := bm) (bp := bp)).trans hs_1)⟩
set_option maxHeartbeats 2000000 in
theorem c_X9_isTest (hst : l.stackTraces = false) (hb48 : bm + 48 ≤ bp) (h401 : tok ≤ 401) (hnx : nxt tk tok) {b0 d : Nat} {p : Nat → Res} {f0 g0 : Nat} (hp : prP G l bm bp b0 bn ba vL nl tk tok yX9_isBoth mX9_isBoth f0 g0 d p) (okp : pOK tok p) {fr lo : Nat} (hf9 : 12 ≤ fr) (hg9 : 400 ≤ lo) (hf0 : f0 + 1 ≤ fr) (hg0 : g0 + 21 ≤ lo) : prP G l bm bp b0 bn ba vL nl tk tok yX9_isTest mX9_isTest fr lo d (chW tk opO p) := by
  intro A n M P k m htv hM hN hm hmk hk
  refine J_C hst (by decide +kernel) rfl rfl rfl (Nat.le_of_ble_eq_true rfl) ?_
  show xx_J _ _ _ _ _ _ _ _ 0 [(0, _), (1, _)] [] _ _ _ _
  have loop : ∀ f, ∀ (A1 : xx_H) (k1 : Nat) (em1 : List (Int32 × Int32)), k1 < tok → 401 ≤ f + k1 → xx_w bm (layM b0 vL bn ba bm (paM M k1 d)) A1 → xx_w bp (layN nl bp (emP P em1)) A1 → xx_pf bm bp A A1 → m + em1.length ≤ k1 → (chW tk opO p) k = ((lpW tk opO p f k1).1, (lpW tk opO p f k1).2.1, em1 ++ (lpW tk opO p f k1).2.2) → xx_J G l mX9_isTest fr lo 0 0 (prQ bm bp b0 bn ba n vL nl M P d ((chW tk opO p) k) A) 10 [(0, .ref bm), (1, .ref bp)] [] A1 n 0 0 := by
    intro f
    induction f with
    | zero => intro A1 k1 em1 hk2 hf; exfalso; omega
    | succ f ih =>
      intro A1 k1 em1 hk2 hf hM1 hN1 hs1 hm1 hv
      have hm2 := emP_10 em1 P hm
      refine J_aload_n dX9_isTest_10 rfl rfl ?_
      refine J_bipush (v := 17) dX9_isTest_11 (by decide) ?_
      refine J_callVw (As := [_]) dX9_isTest_13 ml_X9_308 cal_X9_eat im_X9_eat se_X9_eat (hM1.at 0 rfl) rfl rfl rfl (Nat.le_of_ble_eq_true rfl) ⟨by omega, by show 8 + (2 + 11) + _ ≤ _; omega⟩ ⟨by decide, by decide⟩ (c_X9_eat (v := 17) hst hM1 rfl (by decide) htv.pa rfl hk2) (fun A101 hQ101 => ?_)
      have hM_101 := hQ101.1
      have hN_101 := hN1.mf hQ101.2 (m := 9) rfl (fun i hi => by unfold isM; omega)
      have hs_101 : xx_pf bm bp _ _ := hQ101.2.toP
      refine J_ifb_eq (tgt := 40) dX9_isTest_16 rfl (fun h16 => ?_) (fun h16 => ?_)
      · rw [eaM_f h16] at hM_101
        have hl : lpW tk opO p (f + 1) k1 = (true, k1, []) := by simp only [lpW]; rw [if_pos (show opO (tk k1) = 0 from if_neg h16)]
        rw [hl] at hv
        refine J_iconst (v := 1) dX9_isTest_40 (by decide) ?_
        refine J_ireturn dX9_isTest_41 rfl rfl (by decide) (by decide) ?_
        have e1 : (chW tk opO p) k = (true, k1, em1) := by rw [hv]; simp
        rw [e1]
        exact ⟨rfl, rfl, d, _, fun _ => ⟨rfl, rfl⟩, hM_101, hN_101, (hs1.trans hs_101)⟩
      · rw [eaM_pt h16] at hM_101
        have hk3 : k1 + 1 < tok := hnx _ hk2 (by rw [h16]; decide) (by rw [h16]; decide)
        have g1 := okp (k1 + 1) hk3
        refine J_aload_n dX9_isTest_19 rfl rfl ?_
        refine J_aload_n dX9_isTest_20 rfl rfl ?_
        refine J_callVw (As := [_]) dX9_isTest_21 ml_X9_317 cal_X9_isBoth im_X9_isBoth se_X9_isBoth (hM_101.at 0 rfl) rfl rfl rfl (Nat.le_of_ble_eq_true rfl) ⟨by omega, by show 8 + (2 + 11) + _ ≤ _; omega⟩ ⟨by decide, by decide⟩ (hp _ _ _ _ (k1 + 1) (m + em1.length) htv hM_101 hN_101 hm2 (by omega) hk3) (fun A102 hQ102 => ?_)
        obtain ⟨d_102, P_102, hf_102, hM_102, hN_102, hs_102⟩ := hQ102
        refine J_ifb_ne (tgt := 29) dX9_isTest_24 rfl (fun h24 => ?_) (fun h24 => ?_)
        · obtain ⟨rfl, rfl⟩ := hf_102 h24
          have hm3 : (emP (emP P em1) (p (k1 + 1)).2.2).1 10 = nI (m + em1.length + (p (k1 + 1)).2.2.length) := emP_10 _ _ hm2
          refine J_aload_n dX9_isTest_29 rfl rfl ?_
          refine J_aload_n dX9_isTest_30 rfl rfl ?_
          refine J_bipush (v := 17) dX9_isTest_31 (by decide) ?_
          refine J_iconst (v := 0) dX9_isTest_33 (by decide) ?_
          refine J_callVw (As := [_, _, _]) dX9_isTest_34 ml_X9_321 cal_X9_put im_X9_put se_X9_put (hM_102.at 0 rfl) rfl rfl rfl (Nat.le_of_ble_eq_true rfl) ⟨by omega, by show 8 + (4 + 11) + _ ≤ _; omega⟩ ⟨by decide, by decide⟩ (c_X9_put (k := m + em1.length + (p (k1 + 1)).2.2.length) hst hM_102 hN_102 _ _ hm3 (by omega)) (fun A103 hQ103 => ?_)
          have hN_103 := hQ103.1
          have hM_103 := layM_sP hM_102 hQ103.2 hb48
          have hs_103 : xx_pf bm bp _ _ := hQ103.2.toP
          refine J_goto (tgt := 10) dX9_isTest_37 rfl ?_
          refine xx_J.pick [0, 1] rfl ?_
          have hop : opO (tk k1) = opO 17 := by rw [h16]
          have hne : ¬ opO (tk k1) = 0 := by rw [hop]; decide
          have e1 : putP (emP (emP P em1) (p (k1 + 1)).2.2) (m + em1.length + (p (k1 + 1)).2.2.length) 17 0 = emP P (em1 ++ ((p (k1 + 1)).2.2 ++ [(opO 17, 0)])) := by
            rw [emP_app, emP_app]
            exact put_em hm3 (by omega) rfl rfl
          rw [e1] at hN_103
          exact ih _ (p (k1 + 1)).2.1 _ g1.2.1 (by omega) hM_103 hN_103 (((hs1.trans hs_101).trans hs_102).trans hs_103) (by simp only [List.length_append, List.length_cons, List.length_nil]; omega) (by rw [hv]; simp only [lpW]; rw [if_neg hne, bnd_t h24]; simp [bnd, emt, h16, List.append_assoc])
        · refine J_iconst (v := 0) dX9_isTest_27 (by decide) ?_
          refine J_ireturn dX9_isTest_28 rfl rfl (by decide) (by decide) ?_
          have hop : ¬ opO (tk k1) = 0 := by rw [h16]; decide
          have e1 : (chW tk opO p) k = (false, (p (k1 + 1)).2.1, em1 ++ (p (k1 + 1)).2.2) := by
            rw [hv]; simp only [lpW]; rw [if_neg hop, bnd_f h24]; simp only [Bool.not_eq_true] at h24; rw [h24]
          rw [e1]
          exact ⟨rfl, rfl, _, _, fun z => (Bool.false_ne_true z).elim, hM_102, hN_102, ((hs1.trans hs_101).trans hs_102)⟩
  refine J_aload_n dX9_isTest_0 rfl rfl ?_
  refine J_aload_n dX9_isTest_1 rfl rfl ?_
  refine J_callVw (As := [_]) dX9_isTest_2 ml_X9_317 cal_X9_isBoth im_X9_isBoth se_X9_isBoth (hM.at 0 rfl) rfl rfl rfl (Nat.le_of_ble_eq_true rfl) ⟨by omega, by show 8 + (2 + 11) + _ ≤ _; omega⟩ ⟨by decide, by decide⟩ (hp _ _ _ _ k m htv hM hN hm hmk hk) (fun A1 hQ1 => ?_)
  obtain ⟨d_1, P_1, hf_1, hM_1, hN_1, hs_1⟩ := hQ1
  refine J_ifb_ne (tgt := 10) dX9_isTest_5 rfl (fun h5 => ?_) (fun h5 => ?_)
  · obtain ⟨rfl, rfl⟩ := hf_1 h5
    refine xx_J.pick [0, 1] rfl ?_
    have g0_ := okp k hk
    exact loop 401 _ (p k).2.1 (p k).2.2 g0_.2.1 (by omega) hM_1 hN_1 ((xx_pf.rf (bm := bm) (bp := bp)).trans hs_1) (by omega) (by simp only [chW]; rw [bnd_t h5])
  · refine J_iconst (v := 0) dX9_isTest_8 (by decide) ?_
    refine J_ireturn dX9_isTest_9 rfl rfl (by decide) (by decide) ?_
    have e1 : (chW tk opO p) k = (false, (p k).2.1, (p k).2.2) := by
      simp only [chW]; rw [bnd_f h5]; simp only [Bool.not_eq_true] at h5; rw [← h5]
    rw [e1]
    exact ⟨rfl, rfl, _, _, fun z => (Bool.false_ne_true z).elim, hM_1, hN_1, ((xx_pf.rf (bm := bm) (bp := bp)).trans hs_1)⟩
set_option maxHeartbeats 2000000 in
theorem c_X9_isProduct (hst : l.stackTraces = false) (hb48 : bm + 48 ≤ bp) (h401 : tok ≤ 401) (hnx : nxt tk tok) {b0 d : Nat} {p : Nat → Res} {f0 g0 : Nat} (hp : prP G l bm bp b0 bn ba vL nl tk tok yX9_isValue mX9_isValue f0 g0 d p) (okp : pOK tok p) {fr lo : Nat} (hf9 : 12 ≤ fr) (hg9 : 400 ≤ lo) (hf0 : f0 + 1 ≤ fr) (hg0 : g0 + 22 ≤ lo) : prP G l bm bp b0 bn ba vL nl tk tok yX9_isProduct mX9_isProduct fr lo d (chW tk opP p) := by
  intro A n M P k m htv hM hN hm hmk hk
  refine J_C hst (by decide +kernel) rfl rfl rfl (Nat.le_of_ble_eq_true rfl) ?_
  show xx_J _ _ _ _ _ _ _ _ 0 [(0, _), (1, _)] [] _ _ _ _
  have loop : ∀ f, ∀ (A1 : xx_H) (k1 : Nat) (em1 : List (Int32 × Int32)), k1 < tok → 401 ≤ f + k1 → xx_w bm (layM b0 vL bn ba bm (paM M k1 d)) A1 → xx_w bp (layN nl bp (emP P em1)) A1 → xx_pf bm bp A A1 → m + em1.length ≤ k1 → (chW tk opP p) k = ((lpW tk opP p f k1).1, (lpW tk opP p f k1).2.1, em1 ++ (lpW tk opP p f k1).2.2) → xx_J G l mX9_isProduct fr lo 0 0 (prQ bm bp b0 bn ba n vL nl M P d ((chW tk opP p) k) A) 10 [(0, .ref bm), (1, .ref bp)] [] A1 n 0 0 := by
    intro f
    induction f with
    | zero => intro A1 k1 em1 hk2 hf; exfalso; omega
    | succ f ih =>
      intro A1 k1 em1 hk2 hf hM1 hN1 hs1 hm1 hv
      have hm2 := emP_10 em1 P hm
      refine J_aload_n dX9_isProduct_10 rfl rfl ?_
      refine J_getf dX9_isProduct_11 fl_X9_24 (hM1.at 0 rfl) rfl ?_
      refine J_aload_n dX9_isProduct_14 rfl rfl ?_
      refine J_getf dX9_isProduct_15 fl_X9_305 (hM1.at 0 rfl) rfl ?_
      refine J_ialdN k1 dX9_isProduct_18 (hM1.at 2 rfl) rfl (by omega) (by decide) ?_
      refine J_bipush (v := 42) dX9_isProduct_19 (by decide) ?_
      refine J_icmp_eq (tgt := 38) dX9_isProduct_21 rfl (fun h21 => ?_) (fun h21 => ?_)
      · have th21 : tk k1 = 28 := (htv.eq hk2 (v := 28) (by decide)).mp h21
        have hop : tk k1 = 28 := th21
        have hk3 : k1 + 1 < tok := hnx _ hk2 (by rw [hop]; decide) (by rw [hop]; decide)
        have g1 := okp (k1 + 1) hk3
        refine J_aload_n dX9_isProduct_38 rfl rfl ?_
        refine J_getf dX9_isProduct_39 fl_X9_24 (hM1.at 0 rfl) rfl ?_
        refine J_aload_n dX9_isProduct_42 rfl rfl ?_
        refine J_getf dX9_isProduct_43 fl_X9_305 (hM1.at 0 rfl) rfl ?_
        refine J_ialdN k1 dX9_isProduct_46 (hM1.at 2 rfl) rfl (by omega) (by decide) ?_
        refine J_bipush (v := 42) dX9_isProduct_47 (by decide) ?_
        refine J_icmp_ne (tgt := 57) dX9_isProduct_49 rfl (fun h49 => ?_) (fun h49 => ?_)
        · exact absurd h21 h49
        · refine J_bipush (v := 103) dX9_isProduct_52 (by decide) ?_
          refine J_goto (tgt := 59) dX9_isProduct_54 rfl ?_
          refine J_istore_n (L' := [(2, _), (0, _), (1, _)]) dX9_isProduct_59 rfl (by decide) rfl ?_
          refine J_aload_n dX9_isProduct_60 rfl rfl ?_
          refine J_dup dX9_isProduct_61 rfl ?_
          refine J_getf dX9_isProduct_62 fl_X9_305 (hM1.at 0 rfl) rfl ?_
          refine J_iconst (v := 1) dX9_isProduct_65 (by decide) ?_
          refine J_iadd dX9_isProduct_66 ?_
          refine J_putf dX9_isProduct_67 fp_X9_305 (fun _ => ⟨rfl, rfl⟩) (hM1.at 0 rfl) (Nat.le_of_ble_eq_true rfl) ?_
          refine J_genA (wM_s0_9 hM1 _) (hs1.put (by omega) (by omega) _) (fun A101 w101 s101 o101 => ?_)
          have w101N := hN1.o2 o101 (m := 9) rfl (by omega)
          have u101 := w101
          rw [pa_up (M := M) (k := k1) (d := d) (k2 := k1 + 1) (x := (paM M k1 d).1 9 + 1) (nI_1 k1)] at u101
          refine J_aload_n dX9_isProduct_70 rfl rfl ?_
          refine J_aload_n dX9_isProduct_71 rfl rfl ?_
          refine J_callVw (As := [_]) dX9_isProduct_72 ml_X9_346 cal_X9_isValue im_X9_isValue se_X9_isValue (u101.at 0 rfl) rfl rfl rfl (Nat.le_of_ble_eq_true rfl) ⟨by omega, by show 8 + (3 + 11) + _ ≤ _; omega⟩ ⟨by decide, by decide⟩ (hp _ _ _ _ (k1 + 1) (m + em1.length) htv u101 w101N hm2 (by omega) hk3) (fun A102 hQ102 => ?_)
          obtain ⟨d_102, P_102, hf_102, hM_102, hN_102, hs_102⟩ := hQ102
          refine J_ifb_ne (tgt := 80) dX9_isProduct_75 rfl (fun h75 => ?_) (fun h75 => ?_)
          · obtain ⟨rfl, rfl⟩ := hf_102 h75
            have hm3 : (emP (emP P em1) (p (k1 + 1)).2.2).1 10 = nI (m + em1.length + (p (k1 + 1)).2.2.length) := emP_10 _ _ hm2
            refine J_aload_n dX9_isProduct_80 rfl rfl ?_
            refine J_aload_n dX9_isProduct_81 rfl rfl ?_
            refine J_iload_n dX9_isProduct_82 rfl rfl ?_
            refine J_iconst (v := 0) dX9_isProduct_83 (by decide) ?_
            refine J_callVw (As := [_, _, _]) dX9_isProduct_84 ml_X9_321 cal_X9_put im_X9_put se_X9_put (hM_102.at 0 rfl) rfl rfl rfl (Nat.le_of_ble_eq_true rfl) ⟨by omega, by show 8 + (4 + 11) + _ ≤ _; omega⟩ ⟨by decide, by decide⟩ (c_X9_put (k := m + em1.length + (p (k1 + 1)).2.2.length) hst hM_102 hN_102 _ _ hm3 (by omega)) (fun A103 hQ103 => ?_)
            have hN_103 := hQ103.1
            have hM_103 := layM_sP hM_102 hQ103.2 hb48
            have hs_103 : xx_pf bm bp _ _ := hQ103.2.toP
            refine J_goto (tgt := 10) dX9_isProduct_87 rfl ?_
            refine xx_J.pick [1, 2] rfl ?_
            have hop2 : opP (tk k1) = opP 28 := by rw [hop]
            have hne : ¬ opP (tk k1) = 0 := by rw [hop2]; decide
            have e1 : putP (emP (emP P em1) (p (k1 + 1)).2.2) (m + em1.length + (p (k1 + 1)).2.2.length) 103 0 = emP P (em1 ++ ((p (k1 + 1)).2.2 ++ [(opP 28, 0)])) := by
              rw [emP_app, emP_app]
              exact put_em hm3 (by omega) rfl rfl
            rw [e1] at hN_103
            exact ih _ (p (k1 + 1)).2.1 _ g1.2.1 (by omega) hM_103 hN_103 ((s101.trans hs_102).trans hs_103) (by simp only [List.length_append, List.length_cons, List.length_nil]; omega) (by rw [hv]; simp only [lpW]; rw [if_neg hne, bnd_t h75]; simp [bnd, emt, hop, List.append_assoc])
          · refine J_iconst (v := 0) dX9_isProduct_78 (by decide) ?_
            refine J_ireturn dX9_isProduct_79 rfl rfl (by decide) (by decide) ?_
            have hop2 : ¬ opP (tk k1) = 0 := by rw [hop]; decide
            have e1 : (chW tk opP p) k = (false, (p (k1 + 1)).2.1, em1 ++ (p (k1 + 1)).2.2) := by
              rw [hv]; simp only [lpW]; rw [if_neg hop2, bnd_f h75]; simp only [Bool.not_eq_true] at h75; rw [h75]
            rw [e1]
            exact ⟨rfl, rfl, _, _, fun z => (Bool.false_ne_true z).elim, hM_102, hN_102, (s101.trans hs_102)⟩
      · have th21 : ¬ tk k1 = 28 := fun z => h21 ((htv.eq hk2 (v := 28) (by decide)).mpr z)
        refine J_aload_n dX9_isProduct_24 rfl rfl ?_
        refine J_getf dX9_isProduct_25 fl_X9_24 (hM1.at 0 rfl) rfl ?_
        refine J_aload_n dX9_isProduct_28 rfl rfl ?_
        refine J_getf dX9_isProduct_29 fl_X9_305 (hM1.at 0 rfl) rfl ?_
        refine J_ialdN k1 dX9_isProduct_32 (hM1.at 2 rfl) rfl (by omega) (by decide) ?_
        refine J_bipush (v := 47) dX9_isProduct_33 (by decide) ?_
        refine J_icmp_ne (tgt := 90) dX9_isProduct_35 rfl (fun h35 => ?_) (fun h35 => ?_)
        · have th35 : ¬ tk k1 = 29 := fun z => h35 ((htv.eq hk2 (v := 29) (by decide)).mpr z)
          have hl : lpW tk opP p (f + 1) k1 = (true, k1, []) := by simp only [lpW]; rw [if_pos (show opP (tk k1) = 0 by unfold opP; rw [if_neg th21, if_neg th35])]
          rw [hl] at hv
          refine J_iconst (v := 1) dX9_isProduct_90 (by decide) ?_
          refine J_ireturn dX9_isProduct_91 rfl rfl (by decide) (by decide) ?_
          have e1 : (chW tk opP p) k = (true, k1, em1) := by rw [hv]; simp
          rw [e1]
          exact ⟨rfl, rfl, d, _, fun _ => ⟨rfl, rfl⟩, hM1, hN1, hs1⟩
        · have th35 : tk k1 = 29 := (htv.eq hk2 (v := 29) (by decide)).mp h35
          have hop : tk k1 = 29 := th35
          have hk3 : k1 + 1 < tok := hnx _ hk2 (by rw [hop]; decide) (by rw [hop]; decide)
          have g1 := okp (k1 + 1) hk3
          refine J_aload_n dX9_isProduct_38 rfl rfl ?_
          refine J_getf dX9_isProduct_39 fl_X9_24 (hM1.at 0 rfl) rfl ?_
          refine J_aload_n dX9_isProduct_42 rfl rfl ?_
          refine J_getf dX9_isProduct_43 fl_X9_305 (hM1.at 0 rfl) rfl ?_
          refine J_ialdN k1 dX9_isProduct_46 (hM1.at 2 rfl) rfl (by omega) (by decide) ?_
          refine J_bipush (v := 42) dX9_isProduct_47 (by decide) ?_
          refine J_icmp_ne (tgt := 57) dX9_isProduct_49 rfl (fun h49 => ?_) (fun h49 => ?_)
          · refine J_bipush (v := 104) dX9_isProduct_57 (by decide) ?_
            refine J_istore_n (L' := [(2, _), (0, _), (1, _)]) dX9_isProduct_59 rfl (by decide) rfl ?_
            refine J_aload_n dX9_isProduct_60 rfl rfl ?_
            refine J_dup dX9_isProduct_61 rfl ?_
            refine J_getf dX9_isProduct_62 fl_X9_305 (hM1.at 0 rfl) rfl ?_
            refine J_iconst (v := 1) dX9_isProduct_65 (by decide) ?_
            refine J_iadd dX9_isProduct_66 ?_
            refine J_putf dX9_isProduct_67 fp_X9_305 (fun _ => ⟨rfl, rfl⟩) (hM1.at 0 rfl) (Nat.le_of_ble_eq_true rfl) ?_
            refine J_genA (wM_s0_9 hM1 _) (hs1.put (by omega) (by omega) _) (fun A104 w104 s104 o104 => ?_)
            have w104N := hN1.o2 o104 (m := 9) rfl (by omega)
            have u104 := w104
            rw [pa_up (M := M) (k := k1) (d := d) (k2 := k1 + 1) (x := (paM M k1 d).1 9 + 1) (nI_1 k1)] at u104
            refine J_aload_n dX9_isProduct_70 rfl rfl ?_
            refine J_aload_n dX9_isProduct_71 rfl rfl ?_
            refine J_callVw (As := [_]) dX9_isProduct_72 ml_X9_346 cal_X9_isValue im_X9_isValue se_X9_isValue (u104.at 0 rfl) rfl rfl rfl (Nat.le_of_ble_eq_true rfl) ⟨by omega, by show 8 + (3 + 11) + _ ≤ _; omega⟩ ⟨by decide, by decide⟩ (hp _ _ _ _ (k1 + 1) (m + em1.length) htv u104 w104N hm2 (by omega) hk3) (fun A105 hQ105 => ?_)
            obtain ⟨d_105, P_105, hf_105, hM_105, hN_105, hs_105⟩ := hQ105
            refine J_ifb_ne (tgt := 80) dX9_isProduct_75 rfl (fun h75 => ?_) (fun h75 => ?_)
            · obtain ⟨rfl, rfl⟩ := hf_105 h75
              have hm3 : (emP (emP P em1) (p (k1 + 1)).2.2).1 10 = nI (m + em1.length + (p (k1 + 1)).2.2.length) := emP_10 _ _ hm2
              refine J_aload_n dX9_isProduct_80 rfl rfl ?_
              refine J_aload_n dX9_isProduct_81 rfl rfl ?_
              refine J_iload_n dX9_isProduct_82 rfl rfl ?_
              refine J_iconst (v := 0) dX9_isProduct_83 (by decide) ?_
              refine J_callVw (As := [_, _, _]) dX9_isProduct_84 ml_X9_321 cal_X9_put im_X9_put se_X9_put (hM_105.at 0 rfl) rfl rfl rfl (Nat.le_of_ble_eq_true rfl) ⟨by omega, by show 8 + (4 + 11) + _ ≤ _; omega⟩ ⟨by decide, by decide⟩ (c_X9_put (k := m + em1.length + (p (k1 + 1)).2.2.length) hst hM_105 hN_105 _ _ hm3 (by omega)) (fun A106 hQ106 => ?_)
              have hN_106 := hQ106.1
              have hM_106 := layM_sP hM_105 hQ106.2 hb48
              have hs_106 : xx_pf bm bp _ _ := hQ106.2.toP
              refine J_goto (tgt := 10) dX9_isProduct_87 rfl ?_
              refine xx_J.pick [1, 2] rfl ?_
              have hop2 : opP (tk k1) = opP 29 := by rw [hop]
              have hne : ¬ opP (tk k1) = 0 := by rw [hop2]; decide
              have e1 : putP (emP (emP P em1) (p (k1 + 1)).2.2) (m + em1.length + (p (k1 + 1)).2.2.length) 104 0 = emP P (em1 ++ ((p (k1 + 1)).2.2 ++ [(opP 29, 0)])) := by
                rw [emP_app, emP_app]
                exact put_em hm3 (by omega) rfl rfl
              rw [e1] at hN_106
              exact ih _ (p (k1 + 1)).2.1 _ g1.2.1 (by omega) hM_106 hN_106 ((s104.trans hs_105).trans hs_106) (by simp only [List.length_append, List.length_cons, List.length_nil]; omega) (by rw [hv]; simp only [lpW]; rw [if_neg hne, bnd_t h75]; simp [bnd, emt, hop, List.append_assoc])
            · refine J_iconst (v := 0) dX9_isProduct_78 (by decide) ?_
              refine J_ireturn dX9_isProduct_79 rfl rfl (by decide) (by decide) ?_
              have hop2 : ¬ opP (tk k1) = 0 := by rw [hop]; decide
              have e1 : (chW tk opP p) k = (false, (p (k1 + 1)).2.1, em1 ++ (p (k1 + 1)).2.2) := by
                rw [hv]; simp only [lpW]; rw [if_neg hop2, bnd_f h75]; simp only [Bool.not_eq_true] at h75; rw [h75]
              rw [e1]
              exact ⟨rfl, rfl, _, _, fun z => (Bool.false_ne_true z).elim, hM_105, hN_105, (s104.trans hs_105)⟩
          · exact absurd h49 h21
  refine J_aload_n dX9_isProduct_0 rfl rfl ?_
  refine J_aload_n dX9_isProduct_1 rfl rfl ?_
  refine J_callVw (As := [_]) dX9_isProduct_2 ml_X9_346 cal_X9_isValue im_X9_isValue se_X9_isValue (hM.at 0 rfl) rfl rfl rfl (Nat.le_of_ble_eq_true rfl) ⟨by omega, by show 8 + (3 + 11) + _ ≤ _; omega⟩ ⟨by decide, by decide⟩ (hp _ _ _ _ k m htv hM hN hm hmk hk) (fun A1 hQ1 => ?_)
  obtain ⟨d_1, P_1, hf_1, hM_1, hN_1, hs_1⟩ := hQ1
  refine J_ifb_ne (tgt := 10) dX9_isProduct_5 rfl (fun h5 => ?_) (fun h5 => ?_)
  · obtain ⟨rfl, rfl⟩ := hf_1 h5
    refine xx_J.pick [0, 1] rfl ?_
    have g0_ := okp k hk
    exact loop 401 _ (p k).2.1 (p k).2.2 g0_.2.1 (by omega) hM_1 hN_1 ((xx_pf.rf (bm := bm) (bp := bp)).trans hs_1) (by omega) (by simp only [chW]; rw [bnd_t h5])
  · refine J_iconst (v := 0) dX9_isProduct_8 (by decide) ?_
    refine J_ireturn dX9_isProduct_9 rfl rfl (by decide) (by decide) ?_
    have e1 : (chW tk opP p) k = (false, (p k).2.1, (p k).2.2) := by
      simp only [chW]; rw [bnd_f h5]; simp only [Bool.not_eq_true] at h5; rw [← h5]
    rw [e1]
    exact ⟨rfl, rfl, _, _, fun z => (Bool.false_ne_true z).elim, hM_1, hN_1, ((xx_pf.rf (bm := bm) (bp := bp)).trans hs_1)⟩
set_option maxHeartbeats 2000000 in
theorem c_X9_isSum (hst : l.stackTraces = false) (hb48 : bm + 48 ≤ bp) (h401 : tok ≤ 401) (hnx : nxt tk tok) {b0 d : Nat} {p : Nat → Res} {f0 g0 : Nat} (hp : prP G l bm bp b0 bn ba vL nl tk tok yX9_isProduct mX9_isProduct f0 g0 d p) (okp : pOK tok p) {fr lo : Nat} (hf9 : 12 ≤ fr) (hg9 : 400 ≤ lo) (hf0 : f0 + 1 ≤ fr) (hg0 : g0 + 22 ≤ lo) : prP G l bm bp b0 bn ba vL nl tk tok yX9_isSum mX9_isSum fr lo d (chW tk opS p) := by
  intro A n M P k m htv hM hN hm hmk hk
  refine J_C hst (by decide +kernel) rfl rfl rfl (Nat.le_of_ble_eq_true rfl) ?_
  show xx_J _ _ _ _ _ _ _ _ 0 [(0, _), (1, _)] [] _ _ _ _
  have loop : ∀ f, ∀ (A1 : xx_H) (k1 : Nat) (em1 : List (Int32 × Int32)), k1 < tok → 401 ≤ f + k1 → xx_w bm (layM b0 vL bn ba bm (paM M k1 d)) A1 → xx_w bp (layN nl bp (emP P em1)) A1 → xx_pf bm bp A A1 → m + em1.length ≤ k1 → (chW tk opS p) k = ((lpW tk opS p f k1).1, (lpW tk opS p f k1).2.1, em1 ++ (lpW tk opS p f k1).2.2) → xx_J G l mX9_isSum fr lo 0 0 (prQ bm bp b0 bn ba n vL nl M P d ((chW tk opS p) k) A) 10 [(0, .ref bm), (1, .ref bp)] [] A1 n 0 0 := by
    intro f
    induction f with
    | zero => intro A1 k1 em1 hk2 hf; exfalso; omega
    | succ f ih =>
      intro A1 k1 em1 hk2 hf hM1 hN1 hs1 hm1 hv
      have hm2 := emP_10 em1 P hm
      refine J_aload_n dX9_isSum_10 rfl rfl ?_
      refine J_getf dX9_isSum_11 fl_X9_24 (hM1.at 0 rfl) rfl ?_
      refine J_aload_n dX9_isSum_14 rfl rfl ?_
      refine J_getf dX9_isSum_15 fl_X9_305 (hM1.at 0 rfl) rfl ?_
      refine J_ialdN k1 dX9_isSum_18 (hM1.at 2 rfl) rfl (by omega) (by decide) ?_
      refine J_bipush (v := 43) dX9_isSum_19 (by decide) ?_
      refine J_icmp_eq (tgt := 38) dX9_isSum_21 rfl (fun h21 => ?_) (fun h21 => ?_)
      · have th21 : tk k1 = 26 := (htv.eq hk2 (v := 26) (by decide)).mp h21
        have hop : tk k1 = 26 := th21
        have hk3 : k1 + 1 < tok := hnx _ hk2 (by rw [hop]; decide) (by rw [hop]; decide)
        have g1 := okp (k1 + 1) hk3
        refine J_aload_n dX9_isSum_38 rfl rfl ?_
        refine J_getf dX9_isSum_39 fl_X9_24 (hM1.at 0 rfl) rfl ?_
        refine J_aload_n dX9_isSum_42 rfl rfl ?_
        refine J_getf dX9_isSum_43 fl_X9_305 (hM1.at 0 rfl) rfl ?_
        refine J_ialdN k1 dX9_isSum_46 (hM1.at 2 rfl) rfl (by omega) (by decide) ?_
        refine J_bipush (v := 43) dX9_isSum_47 (by decide) ?_
        refine J_icmp_ne (tgt := 57) dX9_isSum_49 rfl (fun h49 => ?_) (fun h49 => ?_)
        · exact absurd h21 h49
        · refine J_bipush (v := 101) dX9_isSum_52 (by decide) ?_
          refine J_goto (tgt := 59) dX9_isSum_54 rfl ?_
          refine J_istore_n (L' := [(2, _), (0, _), (1, _)]) dX9_isSum_59 rfl (by decide) rfl ?_
          refine J_aload_n dX9_isSum_60 rfl rfl ?_
          refine J_dup dX9_isSum_61 rfl ?_
          refine J_getf dX9_isSum_62 fl_X9_305 (hM1.at 0 rfl) rfl ?_
          refine J_iconst (v := 1) dX9_isSum_65 (by decide) ?_
          refine J_iadd dX9_isSum_66 ?_
          refine J_putf dX9_isSum_67 fp_X9_305 (fun _ => ⟨rfl, rfl⟩) (hM1.at 0 rfl) (Nat.le_of_ble_eq_true rfl) ?_
          refine J_genA (wM_s0_9 hM1 _) (hs1.put (by omega) (by omega) _) (fun A101 w101 s101 o101 => ?_)
          have w101N := hN1.o2 o101 (m := 9) rfl (by omega)
          have u101 := w101
          rw [pa_up (M := M) (k := k1) (d := d) (k2 := k1 + 1) (x := (paM M k1 d).1 9 + 1) (nI_1 k1)] at u101
          refine J_aload_n dX9_isSum_70 rfl rfl ?_
          refine J_aload_n dX9_isSum_71 rfl rfl ?_
          refine J_callVw (As := [_]) dX9_isSum_72 ml_X9_343 cal_X9_isProduct im_X9_isProduct se_X9_isProduct (u101.at 0 rfl) rfl rfl rfl (Nat.le_of_ble_eq_true rfl) ⟨by omega, by show 8 + (3 + 11) + _ ≤ _; omega⟩ ⟨by decide, by decide⟩ (hp _ _ _ _ (k1 + 1) (m + em1.length) htv u101 w101N hm2 (by omega) hk3) (fun A102 hQ102 => ?_)
          obtain ⟨d_102, P_102, hf_102, hM_102, hN_102, hs_102⟩ := hQ102
          refine J_ifb_ne (tgt := 80) dX9_isSum_75 rfl (fun h75 => ?_) (fun h75 => ?_)
          · obtain ⟨rfl, rfl⟩ := hf_102 h75
            have hm3 : (emP (emP P em1) (p (k1 + 1)).2.2).1 10 = nI (m + em1.length + (p (k1 + 1)).2.2.length) := emP_10 _ _ hm2
            refine J_aload_n dX9_isSum_80 rfl rfl ?_
            refine J_aload_n dX9_isSum_81 rfl rfl ?_
            refine J_iload_n dX9_isSum_82 rfl rfl ?_
            refine J_iconst (v := 0) dX9_isSum_83 (by decide) ?_
            refine J_callVw (As := [_, _, _]) dX9_isSum_84 ml_X9_321 cal_X9_put im_X9_put se_X9_put (hM_102.at 0 rfl) rfl rfl rfl (Nat.le_of_ble_eq_true rfl) ⟨by omega, by show 8 + (4 + 11) + _ ≤ _; omega⟩ ⟨by decide, by decide⟩ (c_X9_put (k := m + em1.length + (p (k1 + 1)).2.2.length) hst hM_102 hN_102 _ _ hm3 (by omega)) (fun A103 hQ103 => ?_)
            have hN_103 := hQ103.1
            have hM_103 := layM_sP hM_102 hQ103.2 hb48
            have hs_103 : xx_pf bm bp _ _ := hQ103.2.toP
            refine J_goto (tgt := 10) dX9_isSum_87 rfl ?_
            refine xx_J.pick [1, 2] rfl ?_
            have hop2 : opS (tk k1) = opS 26 := by rw [hop]
            have hne : ¬ opS (tk k1) = 0 := by rw [hop2]; decide
            have e1 : putP (emP (emP P em1) (p (k1 + 1)).2.2) (m + em1.length + (p (k1 + 1)).2.2.length) 101 0 = emP P (em1 ++ ((p (k1 + 1)).2.2 ++ [(opS 26, 0)])) := by
              rw [emP_app, emP_app]
              exact put_em hm3 (by omega) rfl rfl
            rw [e1] at hN_103
            exact ih _ (p (k1 + 1)).2.1 _ g1.2.1 (by omega) hM_103 hN_103 ((s101.trans hs_102).trans hs_103) (by simp only [List.length_append, List.length_cons, List.length_nil]; omega) (by rw [hv]; simp only [lpW]; rw [if_neg hne, bnd_t h75]; simp [bnd, emt, hop, List.append_assoc])
          · refine J_iconst (v := 0) dX9_isSum_78 (by decide) ?_
            refine J_ireturn dX9_isSum_79 rfl rfl (by decide) (by decide) ?_
            have hop2 : ¬ opS (tk k1) = 0 := by rw [hop]; decide
            have e1 : (chW tk opS p) k = (false, (p (k1 + 1)).2.1, em1 ++ (p (k1 + 1)).2.2) := by
              rw [hv]; simp only [lpW]; rw [if_neg hop2, bnd_f h75]; simp only [Bool.not_eq_true] at h75; rw [h75]
            rw [e1]
            exact ⟨rfl, rfl, _, _, fun z => (Bool.false_ne_true z).elim, hM_102, hN_102, (s101.trans hs_102)⟩
      · have th21 : ¬ tk k1 = 26 := fun z => h21 ((htv.eq hk2 (v := 26) (by decide)).mpr z)
        refine J_aload_n dX9_isSum_24 rfl rfl ?_
        refine J_getf dX9_isSum_25 fl_X9_24 (hM1.at 0 rfl) rfl ?_
        refine J_aload_n dX9_isSum_28 rfl rfl ?_
        refine J_getf dX9_isSum_29 fl_X9_305 (hM1.at 0 rfl) rfl ?_
        refine J_ialdN k1 dX9_isSum_32 (hM1.at 2 rfl) rfl (by omega) (by decide) ?_
        refine J_bipush (v := 45) dX9_isSum_33 (by decide) ?_
        refine J_icmp_ne (tgt := 90) dX9_isSum_35 rfl (fun h35 => ?_) (fun h35 => ?_)
        · have th35 : ¬ tk k1 = 27 := fun z => h35 ((htv.eq hk2 (v := 27) (by decide)).mpr z)
          have hl : lpW tk opS p (f + 1) k1 = (true, k1, []) := by simp only [lpW]; rw [if_pos (show opS (tk k1) = 0 by unfold opS; rw [if_neg th21, if_neg th35])]
          rw [hl] at hv
          refine J_iconst (v := 1) dX9_isSum_90 (by decide) ?_
          refine J_ireturn dX9_isSum_91 rfl rfl (by decide) (by decide) ?_
          have e1 : (chW tk opS p) k = (true, k1, em1) := by rw [hv]; simp
          rw [e1]
          exact ⟨rfl, rfl, d, _, fun _ => ⟨rfl, rfl⟩, hM1, hN1, hs1⟩
        · have th35 : tk k1 = 27 := (htv.eq hk2 (v := 27) (by decide)).mp h35
          have hop : tk k1 = 27 := th35
          have hk3 : k1 + 1 < tok := hnx _ hk2 (by rw [hop]; decide) (by rw [hop]; decide)
          have g1 := okp (k1 + 1) hk3
          refine J_aload_n dX9_isSum_38 rfl rfl ?_
          refine J_getf dX9_isSum_39 fl_X9_24 (hM1.at 0 rfl) rfl ?_
          refine J_aload_n dX9_isSum_42 rfl rfl ?_
          refine J_getf dX9_isSum_43 fl_X9_305 (hM1.at 0 rfl) rfl ?_
          refine J_ialdN k1 dX9_isSum_46 (hM1.at 2 rfl) rfl (by omega) (by decide) ?_
          refine J_bipush (v := 43) dX9_isSum_47 (by decide) ?_
          refine J_icmp_ne (tgt := 57) dX9_isSum_49 rfl (fun h49 => ?_) (fun h49 => ?_)
          · refine J_bipush (v := 102) dX9_isSum_57 (by decide) ?_
            refine J_istore_n (L' := [(2, _), (0, _), (1, _)]) dX9_isSum_59 rfl (by decide) rfl ?_
            refine J_aload_n dX9_isSum_60 rfl rfl ?_
            refine J_dup dX9_isSum_61 rfl ?_
            refine J_getf dX9_isSum_62 fl_X9_305 (hM1.at 0 rfl) rfl ?_
            refine J_iconst (v := 1) dX9_isSum_65 (by decide) ?_
            refine J_iadd dX9_isSum_66 ?_
            refine J_putf dX9_isSum_67 fp_X9_305 (fun _ => ⟨rfl, rfl⟩) (hM1.at 0 rfl) (Nat.le_of_ble_eq_true rfl) ?_
            refine J_genA (wM_s0_9 hM1 _) (hs1.put (by omega) (by omega) _) (fun A104 w104 s104 o104 => ?_)
            have w104N := hN1.o2 o104 (m := 9) rfl (by omega)
            have u104 := w104
            rw [pa_up (M := M) (k := k1) (d := d) (k2 := k1 + 1) (x := (paM M k1 d).1 9 + 1) (nI_1 k1)] at u104
            refine J_aload_n dX9_isSum_70 rfl rfl ?_
            refine J_aload_n dX9_isSum_71 rfl rfl ?_
            refine J_callVw (As := [_]) dX9_isSum_72 ml_X9_343 cal_X9_isProduct im_X9_isProduct se_X9_isProduct (u104.at 0 rfl) rfl rfl rfl (Nat.le_of_ble_eq_true rfl) ⟨by omega, by show 8 + (3 + 11) + _ ≤ _; omega⟩ ⟨by decide, by decide⟩ (hp _ _ _ _ (k1 + 1) (m + em1.length) htv u104 w104N hm2 (by omega) hk3) (fun A105 hQ105 => ?_)
            obtain ⟨d_105, P_105, hf_105, hM_105, hN_105, hs_105⟩ := hQ105
            refine J_ifb_ne (tgt := 80) dX9_isSum_75 rfl (fun h75 => ?_) (fun h75 => ?_)
            · obtain ⟨rfl, rfl⟩ := hf_105 h75
              have hm3 : (emP (emP P em1) (p (k1 + 1)).2.2).1 10 = nI (m + em1.length + (p (k1 + 1)).2.2.length) := emP_10 _ _ hm2
              refine J_aload_n dX9_isSum_80 rfl rfl ?_
              refine J_aload_n dX9_isSum_81 rfl rfl ?_
              refine J_iload_n dX9_isSum_82 rfl rfl ?_
              refine J_iconst (v := 0) dX9_isSum_83 (by decide) ?_
              refine J_callVw (As := [_, _, _]) dX9_isSum_84 ml_X9_321 cal_X9_put im_X9_put se_X9_put (hM_105.at 0 rfl) rfl rfl rfl (Nat.le_of_ble_eq_true rfl) ⟨by omega, by show 8 + (4 + 11) + _ ≤ _; omega⟩ ⟨by decide, by decide⟩ (c_X9_put (k := m + em1.length + (p (k1 + 1)).2.2.length) hst hM_105 hN_105 _ _ hm3 (by omega)) (fun A106 hQ106 => ?_)
              have hN_106 := hQ106.1
              have hM_106 := layM_sP hM_105 hQ106.2 hb48
              have hs_106 : xx_pf bm bp _ _ := hQ106.2.toP
              refine J_goto (tgt := 10) dX9_isSum_87 rfl ?_
              refine xx_J.pick [1, 2] rfl ?_
              have hop2 : opS (tk k1) = opS 27 := by rw [hop]
              have hne : ¬ opS (tk k1) = 0 := by rw [hop2]; decide
              have e1 : putP (emP (emP P em1) (p (k1 + 1)).2.2) (m + em1.length + (p (k1 + 1)).2.2.length) 102 0 = emP P (em1 ++ ((p (k1 + 1)).2.2 ++ [(opS 27, 0)])) := by
                rw [emP_app, emP_app]
                exact put_em hm3 (by omega) rfl rfl
              rw [e1] at hN_106
              exact ih _ (p (k1 + 1)).2.1 _ g1.2.1 (by omega) hM_106 hN_106 ((s104.trans hs_105).trans hs_106) (by simp only [List.length_append, List.length_cons, List.length_nil]; omega) (by rw [hv]; simp only [lpW]; rw [if_neg hne, bnd_t h75]; simp [bnd, emt, hop, List.append_assoc])
            · refine J_iconst (v := 0) dX9_isSum_78 (by decide) ?_
              refine J_ireturn dX9_isSum_79 rfl rfl (by decide) (by decide) ?_
              have hop2 : ¬ opS (tk k1) = 0 := by rw [hop]; decide
              have e1 : (chW tk opS p) k = (false, (p (k1 + 1)).2.1, em1 ++ (p (k1 + 1)).2.2) := by
                rw [hv]; simp only [lpW]; rw [if_neg hop2, bnd_f h75]; simp only [Bool.not_eq_true] at h75; rw [h75]
              rw [e1]
              exact ⟨rfl, rfl, _, _, fun z => (Bool.false_ne_true z).elim, hM_105, hN_105, (s104.trans hs_105)⟩
          · exact absurd h49 h21
  refine J_aload_n dX9_isSum_0 rfl rfl ?_
  refine J_aload_n dX9_isSum_1 rfl rfl ?_
  refine J_callVw (As := [_]) dX9_isSum_2 ml_X9_343 cal_X9_isProduct im_X9_isProduct se_X9_isProduct (hM.at 0 rfl) rfl rfl rfl (Nat.le_of_ble_eq_true rfl) ⟨by omega, by show 8 + (3 + 11) + _ ≤ _; omega⟩ ⟨by decide, by decide⟩ (hp _ _ _ _ k m htv hM hN hm hmk hk) (fun A1 hQ1 => ?_)
  obtain ⟨d_1, P_1, hf_1, hM_1, hN_1, hs_1⟩ := hQ1
  refine J_ifb_ne (tgt := 10) dX9_isSum_5 rfl (fun h5 => ?_) (fun h5 => ?_)
  · obtain ⟨rfl, rfl⟩ := hf_1 h5
    refine xx_J.pick [0, 1] rfl ?_
    have g0_ := okp k hk
    exact loop 401 _ (p k).2.1 (p k).2.2 g0_.2.1 (by omega) hM_1 hN_1 ((xx_pf.rf (bm := bm) (bp := bp)).trans hs_1) (by omega) (by simp only [chW]; rw [bnd_t h5])
  · refine J_iconst (v := 0) dX9_isSum_8 (by decide) ?_
    refine J_ireturn dX9_isSum_9 rfl rfl (by decide) (by decide) ?_
    have e1 : (chW tk opS p) k = (false, (p k).2.1, (p k).2.2) := by
      simp only [chW]; rw [bnd_f h5]; simp only [Bool.not_eq_true] at h5; rw [← h5]
    rw [e1]
    exact ⟨rfl, rfl, _, _, fun z => (Bool.false_ne_true z).elim, hM_1, hN_1, ((xx_pf.rf (bm := bm) (bp := bp)).trans hs_1)⟩
end XSE
