/-! THE REFERENCE: teach -/
section XSL
variable {G : xx_G} {l : Launch} {A A' : xx_H} {n : Nat} {bm bp bs bn ba : Nat} {vL nl : Nat → Int64} {M M' M1 P P' S : xS} {T : xS} {len i j k q s e t d nt tok v m : Nat} {tk : Nat → Nat}
/-- nothing has changed but of the Model and of what is new -/
def xx_nf (bm n : Nat) (A A' : xx_H) : Prop := ∀ h, ¬ isM bm h → h < n → A' h = A h
theorem xx_nf.rf : xx_nf bm n A A := fun _ _ _ => rfl
theorem xx_nf.trans {A0 : xx_H} (h : xx_nf bm n A0 A) (h' : xx_nf bm n A A') : xx_nf bm n A0 A' := fun z h1 h2 => (h' z h1 h2).trans (h z h1 h2)
theorem xx_pf.toN (h : xx_pf bm n A A') : xx_nf bm n A A' := fun z h1 h2 => h z h1 (Or.inl h2)
theorem xx_nf.put {A0 : xx_H} {q : Nat} (h : xx_nf bm n A0 A) (hq : (q = bm ∨ q = bm + 1 ∨ (bm + 11 ≤ q ∧ q ≤ bm + 14) ∨ (bm + 43 ≤ q ∧ q ≤ bm + 47)) ∨ n ≤ q) (_ : 0 = 0) (c : va_E) : xx_nf bm n A0 (xx_up A q c) := fun z h1 h2 => by
  have : z ≠ q := by
    intro e
    subst e
    exact hq.elim h1 (fun y => by omega)
  rw [xx_up_n _ _ this]; exact h z h1 h2
theorem xx_w.lt {b m : Nat} {cs : List (Nat × va_E)} (h : xx_w b cs A) (o : ∀ z, z < n → A' z = A z) (hb : (cs.map Prod.fst).all (fun z => decide (z < m)) = true) (hd : b + m ≤ n) : xx_w b cs A' := fun i z e he => by
  have hz := of_decide_eq_true (List.all_eq_true.mp hb z (List.mem_map.mpr ⟨_, List.mem_of_getElem? he, rfl⟩))
  rw [o _ (by omega)]
  exact h i z e he
theorem chk_nn (sam : Nat → Nat → Bool) (num pos : Nat → Int32) : ∀ (rest : List (Nat × Nat)) {s : Told}, ¬ s.2.2.2.2.1 < 0 → ¬ (rest.foldl (chkS sam num pos) s).2.2.2.2.1 < 0 := by
  have nz : ∀ {E : Int32 × Int32} {c p : Int32}, ¬ E.1 < 0 → ¬ c < 0 → ¬ (noteC E c p).1 < 0 := by
    intro E c p h1 h2
    unfold noteC
    split
    · exact h2
    · exact h1
  intro rest
  induction rest with
  | nil => intro s h; exact h
  | cons it r ih =>
    intro s h
    refine ih ?_
    unfold chkS
    split
    · exact nz h (by split <;> (try split) <;> decide)
    · exact nz h (by split <;> decide)
    · exact nz h (by split <;> decide)
    · exact nz h (by split <;> decide)
theorem rdV_nn : ¬ (rdV T len).1 < 0 := by
  unfold rdV
  split
  · exact chk_nn _ _ _ _ (by decide)
  · show ¬ (1 : Int32) < 0
    decide
/-- what teach leaves -/
def tcQ (T : xS) (len bm bp bn ba n : Nat) (M : xS) (A : xx_H) : xx_Q := fun r A' n' => r = .inl (some (.int (rdV T len).1)) ∧ xx_nf bm n A A' ∧ n ≤ n' ∧ ∃ M' vL', M'.1 0 = 0 ∧ M'.1 2 = 0 ∧ M'.1 3 = (if (rdV T len).1 = 0 then -1 else (rdV T len).2) ∧ (∀ q, ¬ (q = 0 ∨ q = 2 ∨ q = 3 ∨ q = 9 ∨ q = 10 ∨ q = 20 ∨ q = 21) → M'.1 q = M.1 q) ∧ (∀ k, ¬ (k = 11 ∨ k = 12 ∨ k = 13) → M'.2 k = M.2 k) ∧ ((rdV T len).1 = 0 → n' = n + 23 ∧ (bokW (scG T len) (tkN T len) 401 0 [] []).1 = true ∧ xx_w (n + 9) (layS (n + 9) (s_up x0 2 (-1))) A' ∧ ∃ P' nl', xx_w bm (layM n vL' (n + 9) ba bm M') A' ∧ xx_w n (layN nl' n P') A' ∧ plJ T len (chkT T len (bokW (scG T len) (tkN T len) 401 0 [] []).2.2.1) false P' nl' ∧ P'.1 10 = (rsP (a_up x0 3 wo0) 0 (bokW (scG T len) (tkN T len) 401 0 [] []).2.2.2).1 10 ∧ ∀ r, 4 ≤ r → P'.2 r = (rsP (a_up x0 3 wo0) 0 (bokW (scG T len) (tkN T len) 401 0 [] []).2.2.2).2 r) ∧ (¬ (rdV T len).1 = 0 → n' = n + 9 ∧ xx_w bm (layM bp vL' bn ba bm M') A')
theorem s_up_n {x : Int32} (hq : ¬ q = k) : (s_up M k x).1 q = M.1 q := by
  show va_up M.1 k x q = _
  simp only [va_up]
  rw [if_neg hq]
theorem tpR.of (h : tpR M T len) (h2 : M1.1 2 = M.1 2) (h1 : M1.2 1 = M.2 1) : tpR M1 T len := by
  unfold tpR
  rw [h2, h1]
  exact h
set_option maxHeartbeats 2000000 in
theorem c_X9_teach (hst : l.stackTraces = false) (hbn : bm + 48 ≤ n) (htp : tpR M T len) (hM : xx_w bm (layM bp vL bn ba bm M) A) : xx_C G l yX9_teach mX9_teach 59 1960 23 1972 [.ref bm] A n (tcQ T len bm bp bn ba n M A) := by
  refine J_C hst (by decide +kernel) rfl rfl rfl (Nat.le_of_ble_eq_true rfl) ?_
  show xx_J _ _ _ _ _ _ _ _ 0 [(0, _)] [] _ _ _ _
  refine J_aload_n dX9_teach_0 rfl rfl ?_
  refine J_iconst (v := 0) dX9_teach_1 (by decide) ?_
  refine J_putf dX9_teach_2 fp_X9_62 (fun _ => ⟨rfl, rfl⟩) (hM.at 0 rfl) (Nat.le_of_ble_eq_true rfl) ?_
  refine J_genA (wM_s0_0 hM _) ((xx_nf.rf (bm := bm) (n := n)).put (by omega) (by omega) _) (fun A1 w1 s1 o1 => ?_)
  refine J_aload_n dX9_teach_5 rfl rfl ?_
  refine J_iconst (v := -1) dX9_teach_6 (by decide) ?_
  refine J_putf dX9_teach_7 fp_X9_13 (fun _ => ⟨rfl, rfl⟩) (w1.at 0 rfl) (Nat.le_of_ble_eq_true rfl) ?_
  refine J_genA (wM_s0_3 w1 _) (s1.put (by omega) (by omega) _) (fun A2 w2 s2 o2 => ?_)
  refine J_new (fs := [.int 0, .null, .null, .null, .int 0, .null, .null, .null, .null, .null, .int 0]) dX9_teach_10 k_6 cl_X9_17 ins_BeltRoundsModel_Plan in_BeltRoundsModel_Plan (fun q hq => by rcases (show q = 0 ∨ q = 1 ∨ q = 2 ∨ q = 3 ∨ q = 4 ∨ q = 5 ∨ q = 6 ∨ q = 7 ∨ q = 8 ∨ q = 9 ∨ q = 10 by omega) with rfl | rfl | rfl | rfl | rfl | rfl | rfl | rfl | rfl | rfl | rfl <;> rfl) (fun v hv q h => by subst h; simp at hv) (Nat.le_of_ble_eq_true rfl) (Nat.le_of_ble_eq_true rfl) ?_
  refine J_dup dX9_teach_13 rfl ?_
  refine J_callI (As := []) dX9_teach_14 (Or.inr ⟨_, ml_X9_19⟩) cal_X7_init rfl rfl rfl im_X7_init rfl (Nat.le_of_ble_eq_true rfl) ⟨by omega, by show 8 + (1 + 11) + _ ≤ _; omega⟩ ⟨Nat.le_of_ble_eq_true rfl, Nat.le_of_ble_eq_true rfl⟩ (c_X7_init (b := n) hst (xx_up_s _ _ _)) (fun v40 A40 n40 _ hQ40 => ?_)
  obtain ⟨e40, en40, old40, w40⟩ := hQ40
  cases e40
  subst en40
  have hM40 : xx_w bm (layM bp vL bn ba bm (s_up (s_up M 0 0) 3 (-1))) A40 := xx_w.lt (m := 48) (A := A2) w2 (fun z hz => (old40 z hz).trans (xx_up_n _ _ (by omega))) rfl hbn
  have hs40 : xx_nf bm n A A40 := s2.trans (fun z _ hz => (old40 z hz).trans (xx_up_n _ _ (by omega)))
  refine J_astore_n (L' := [(1, _), (0, _)]) dX9_teach_17 rfl (by decide) rfl ?_
  refine J_aload_n dX9_teach_18 rfl rfl ?_
  refine J_aload_n dX9_teach_19 rfl rfl ?_
  refine J_callVw (As := [_]) dX9_teach_20 ml_X9_396 cal_X9_read im_X9_read se_X9_read (hM40.at 0 rfl) rfl rfl rfl (Nat.le_of_ble_eq_true rfl) ⟨by omega, by show 8 + (4 + 11) + _ ≤ _; omega⟩ ⟨by decide, by decide⟩ (c_X9_read hst hbn (htp.of (M1 := (s_up (s_up M 0 0) 3 (-1))) rfl rfl) hM40 w40 rfl rfl rfl rfl rfl rfl) (fun A61 hQ61 => ?_)
  obtain ⟨M_61, v_61, P_61, nl_61, hM_61, hN_61, hs_61, h3_61, hi_61, ha_61, hp_61⟩ := hQ61
  refine J_istore_n (L' := [(2, _), (1, _), (0, _)]) dX9_teach_23 rfl (by decide) rfl ?_
  refine J_aload_n dX9_teach_24 rfl rfl ?_
  refine J_iconst (v := 0) dX9_teach_25 (by decide) ?_
  refine J_putf dX9_teach_26 fp_X9_259 (fun _ => ⟨rfl, rfl⟩) (hM_61.at 0 rfl) (Nat.le_of_ble_eq_true rfl) ?_
  refine J_genA (wM_s0_2 hM_61 _) ((hs40.trans hs_61.toN).put (by omega) (by omega) _) (fun A62 w62 s62 o62 => ?_)
  have w62N := hN_61.o2 o62 (m := 9) rfl (by omega)
  refine J_iload_n dX9_teach_29 rfl rfl ?_
  refine J_if_le (tgt := 35) dX9_teach_30 rfl (fun h30 => ?_) (fun h30 => ?_)
  · refine J_aload_n dX9_teach_35 rfl rfl ?_
    refine J_aload_n dX9_teach_36 rfl rfl ?_
    refine J_putf dX9_teach_37 fp_X9_20 (fun _ => ⟨rfl, rfl⟩) (w62.at 0 rfl) (Nat.le_of_ble_eq_true rfl) ?_
    refine J_genA (wM_s0_4 w62 _) (s62.put (by omega) (by omega) _) (fun A63 w63 s63 o63 => ?_)
    have w63N := w62N.o2 o63 (m := 9) rfl (by omega)
    refine J_aload_n dX9_teach_40 rfl rfl ?_
    refine J_new (fs := [.int 0, .int 0, .int 0, .null, .null, .null, .null, .null, .null, .null, .null, .null, .null, .null, .null, .null]) dX9_teach_41 k_7 cl_X9_37 ins_BeltRoundsModel_State in_BeltRoundsModel_State (fun q hq => by rcases (show q = 0 ∨ q = 1 ∨ q = 2 ∨ q = 3 ∨ q = 4 ∨ q = 5 ∨ q = 6 ∨ q = 7 ∨ q = 8 ∨ q = 9 ∨ q = 10 ∨ q = 11 ∨ q = 12 ∨ q = 13 ∨ q = 14 ∨ q = 15 by omega) with rfl | rfl | rfl | rfl | rfl | rfl | rfl | rfl | rfl | rfl | rfl | rfl | rfl | rfl | rfl | rfl <;> rfl) (fun v hv q h => by subst h; simp at hv) (Nat.le_of_ble_eq_true rfl) (Nat.le_of_ble_eq_true rfl) ?_
    refine J_dup dX9_teach_44 rfl ?_
    refine J_callI (As := []) dX9_teach_45 (Or.inr ⟨_, ml_X9_39⟩) cal_X8_init rfl rfl rfl im_X8_init rfl (Nat.le_of_ble_eq_true rfl) ⟨by omega, by show 8 + (1 + 11) + _ ≤ _; omega⟩ ⟨Nat.le_of_ble_eq_true rfl, Nat.le_of_ble_eq_true rfl⟩ (c_X8_init (b := n + 9) hst (xx_up_s _ _ _)) (fun v45 A45 n45 _ hQ45 => ?_)
    obtain ⟨e45, en45, old45, w45⟩ := hQ45
    cases e45
    subst en45
    have hM45 : xx_w bm (layM n v_61 bn ba bm (s_up M_61 2 0)) A45 := xx_w.lt (m := 48) (A := A63) w63 (fun z hz => (old45 z hz).trans (xx_up_n _ _ (by omega))) rfl (by omega)
    have hN45 : xx_w n (layN nl_61 n P_61) A45 := xx_w.lt (m := 9) (A := A63) w63N (fun z hz => (old45 z hz).trans (xx_up_n _ _ (by omega))) rfl (by omega)
    have hs45 : xx_nf bm n A A45 := s63.trans (fun z _ hz => (old45 z (by omega)).trans (xx_up_n _ _ (by omega)))
    refine J_putf dX9_teach_48 fp_X9_40 (fun _ => ⟨rfl, rfl⟩) (hM45.at 0 rfl) (Nat.le_of_ble_eq_true rfl) ?_
    refine J_genA (wM_s0_11 hM45 _) (hs45.put (by omega) (by omega) _) (fun A81 w81 s81 o81 => ?_)
    have w81N := hN45.o2 o81 (m := 9) rfl (by omega)
    have wS : xx_w (n + 9) (layS (n + 9) (s_up x0 2 (-1))) A81 := w45.o2 o81 (m := 14) rfl (by omega)
    refine J_iconst (v := 0) dX9_teach_51 (by decide) ?_
    refine J_ireturn dX9_teach_52 rfl rfl (by decide) (by decide) ?_
    have hz : (rdV T len).1 = 0 := Int32.le_antisymm h30 (Int32.not_lt.mp rdV_nn)
    refine ⟨by rw [hz], s81, by omega, (s_up M_61 2 0), v_61, ?_, rfl, by rw [if_pos hz]; have z := h3_61; rw [if_pos hz] at z; exact z, fun q hq => ?_, fun k hk => ?_, fun z => ?_, fun z => ?_⟩
    · exact hi_61 0 (by omega)
    · show (s_up M_61 2 0).1 q = _
      rw [s_up_n (by omega), hi_61 q (by omega), s_up_n (by omega), s_up_n (by omega)]
    · exact ha_61 k hk
    · obtain ⟨x1, x2, x3, x4⟩ := hp_61 hz
      exact ⟨rfl, x1, wS, P_61, nl_61, w81, w81N, x2, x3, x4⟩
    · exact absurd hz z
  · refine J_iload_n dX9_teach_33 rfl rfl ?_
    refine J_ireturn dX9_teach_34 rfl rfl (by decide) (by decide) ?_
    have hz : ¬ (rdV T len).1 = 0 := fun z => h30 (by rw [z]; decide)
    refine ⟨rfl, s62, by omega, (s_up M_61 2 0), v_61, ?_, rfl, by rw [if_neg hz]; have z := h3_61; rw [if_neg hz] at z; exact z, fun q hq => ?_, fun k hk => ?_, fun z => ?_, fun z => ?_⟩
    · exact hi_61 0 (by omega)
    · show (s_up M_61 2 0).1 q = _
      rw [s_up_n (by omega), hi_61 q (by omega), s_up_n (by omega), s_up_n (by omega)]
    · exact ha_61 k hk
    · exact absurd z hz
    · exact ⟨rfl, w62⟩
end XSL
