/-! sum and test: the trees that a number chooses -/
section XTS
variable {G : xx_G} {l : Launch} {A A' : xx_H} {n : Nat} {k j i q s e t d : Nat}
abbrev shr (x : Int32) (y : Int32) : Int32 := x >>> (y &&& 31)
def smK (x : Int32) (d : Nat) : Nat := if blw x 19 < 3 ∨ (1 < d ∧ 11 < blw x 19) then 0 else if blw x 19 < 4 then 1 else if blw x 19 < 12 then 2 + blw x 19 % 6 else 8 + blw x 19 % 7
def smN (x : Int32) (kd : Nat) : Nat := if kd = 0 then blw (shr x 3) (if blw (shr x 7) 5 = 0 then 1000000 else 9) else blw (shr x 4) 2
/-- the sum that x chooses -/
def smT : (f : Nat) → Int32 → Nat → Tr f
  | 0, _, _ => ()
  | f + 1, x, d => ((smK x d, smN x (smK x d)), (smT f (x * 3 + 1) (d + 1), smT f (x * 5 + 2) (d + 1)))
def tsK (x : Int32) (d : Nat) : Nat := if blw (shr x 1) 13 < 8 ∨ (1 < d ∧ 8 < blw (shr x 1) 13) then 20 + blw (shr x 1) 13 % 5 else if blw (shr x 1) 13 < 9 then 25 else 26 + blw (shr x 1) 13 % 3
/-- the test that x chooses -/
def tsT : (f : Nat) → Int32 → Nat → Tr f
  | 0, _, _ => ()
  | f + 1, x, d => ((tsK x d, 0), if tsK x d < 25 then (smT f (x * 3 + 7) (d + 1), smT f (x * 5 + 1) (d + 1)) else (tsT f (x * 3 + 5) (d + 1), tsT f (x * 7 + 3) (d + 1)))
theorem smK_lt {x : Int32} {d : Nat} : smK x d < 15 := by
  have h := blw_lt (v := x) (m := 19) (by decide)
  unfold smK
  split
  · omega
  · split
    · omega
    · split <;> omega
theorem smK_d {x : Int32} {d : Nat} (h1 : 1 < d) : smK x d < 8 := by
  have h := blw_lt (v := x) (m := 19) (by decide)
  unfold smK
  split
  · omega
  · split
    · omega
    · split
      · omega
      · omega
theorem smN_lt {x : Int32} {kd : Nat} : smN x kd < 1000000 ∧ (¬ kd = 0 → smN x kd < 2) := by
  unfold smN
  by_cases c : kd = 0
  · rw [if_pos c]
    refine ⟨Nat.lt_of_lt_of_le (blw_lt (by split <;> omega)) (by split <;> omega), fun z => absurd c z⟩
  · rw [if_neg c]
    have h := blw_lt (v := shr x 4) (m := 2) (by decide)
    exact ⟨by omega, fun _ => h⟩
theorem tsK_lt {x : Int32} {d : Nat} : 20 ≤ tsK x d ∧ tsK x d < 29 := by
  have h := blw_lt (v := shr x 1) (m := 13) (by decide)
  unfold tsK
  split
  · omega
  · split <;> omega
theorem tsK_d {x : Int32} {d : Nat} (h1 : 1 < d) : tsK x d ≤ 25 := by
  have h := blw_lt (v := shr x 1) (m := 13) (by decide)
  unfold tsK
  split
  · omega
  · split <;> omega
theorem smT_K : ∀ f x d, trK f (smT f x d) := by
  intro f
  induction f with
  | zero => intro x d; exact trivial
  | succ f ih => intro x d; exact ⟨Nat.lt_of_lt_of_le smK_lt (by decide), smN_lt.1, smN_lt.2, fun _ => ih _ _, fun _ => ih _ _, fun z => absurd z.1 (Nat.not_lt.mpr (Nat.le_of_lt_succ smK_lt))⟩
theorem tsT_K : ∀ f x d, trK f (tsT f x d) := by
  intro f
  induction f with
  | zero => intro x d; exact trivial
  | succ f ih =>
    intro x d
    refine ⟨tsK_lt.2, (by decide : 0 < 1000000), fun _ => (by decide : 0 < 2), fun _ => ?_, fun _ => ?_, fun z => absurd z.2 (Nat.not_lt.mpr tsK_lt.1)⟩
    · show trK f (if tsK x d < 25 then (smT f (x * 3 + 7) (d + 1), smT f (x * 5 + 1) (d + 1)) else (tsT f (x * 3 + 5) (d + 1), tsT f (x * 7 + 3) (d + 1))).1
      split
      · exact smT_K _ _ _
      · exact ih _ _
    · show trK f (if tsK x d < 25 then (smT f (x * 3 + 7) (d + 1), smT f (x * 5 + 1) (d + 1)) else (tsT f (x * 3 + 5) (d + 1), tsT f (x * 7 + 3) (d + 1))).2
      split
      · exact smT_K _ _ _
      · exact ih _ _
/-- what stands from lo on -/
def rsH (lo : Nat) (A : xx_H) : xx_H := fun z => if lo ≤ z then A z else none
theorem rsH_s {lo z : Nat} {c : va_E} (h : rsH lo A z = some c) : lo ≤ z ∧ A z = some c := by
  unfold rsH at h
  by_cases c : lo ≤ z
  · rw [if_pos c] at h; exact ⟨c, h⟩
  · rw [if_neg c] at h; cases h
theorem rsH_y {lo z : Nat} (h : lo ≤ z) : rsH lo A z = A z := if_pos h
theorem trA.rs {lo lo' f v : Nat} {tr : Tr f} (h : trA (rsH lo A) f v tr) (hl : lo' ≤ lo) (u : ∀ z c, lo ≤ z → A z = some c → A' z = A z) : trA (rsH lo' A') f v tr :=
  h.up _ _ _ (fun z c hz => by
    obtain ⟨h1, h2⟩ := rsH_s hz
    rw [rsH_y (Nat.le_trans hl h1), rsH_y h1]
    exact u z _ h1 h2)
theorem trA.un {lo f v : Nat} {tr : Tr f} (h : trA (rsH lo A) f v tr) : trA A f v tr :=
  h.up _ _ _ (fun z c hz => by
    obtain ⟨h1, h2⟩ := rsH_s hz
    rw [rsH_y h1])
abbrev trQ (n f : Nat) (tr : Tr f) (A : xx_H) : xx_Q := fun r A' n' => ∃ v : Nat, r = .inl (some (.ref v)) ∧ n ≤ v ∧ v < n' ∧ trA (rsH n A') f v tr ∧ ∀ z, z < n → A' z = A z
def SmC (G : xx_G) (l : Launch) (f : Nat) : Prop := ∀ (A : xx_H) (n d : Nat) (x : Int32), f + d < 10 → 3 ≤ f + d → xx_C G l yL_sum mL_sum (f + 2) (60 + 30 * f) (2 ^ (f + 1) - 1) (4 * (2 ^ (f + 1) - 1)) [.int x, .int (nI d)] A n (trQ n (f + 1) (smT (f + 1) x d) A)
def TsC (G : xx_G) (l : Launch) (f : Nat) : Prop := ∀ (A : xx_H) (n d : Nat) (x : Int32), d ≤ 2 → f + d < 10 → 3 ≤ f + d → xx_C G l yL_test mL_test (f + 2) (60 + 30 * f) (2 ^ (f + 1) - 1) (4 * (2 ^ (f + 1) - 1)) [.int x, .int (nI d)] A n (trQ n (f + 1) (tsT (f + 1) x d) A)
theorem nI_mod {a b : Nat} (ha : a < 2 ^ 31) (hb : b < 2 ^ 31) {x : Int32} (hx : x = nI b) : nI a - nI a / x * x = nI (a % b) := by rw [hx]; exact nI_emod ha hb
set_option maxRecDepth 100000 in
set_option maxHeartbeats 4000000 in
theorem sum_0 (hst : l.stackTraces = false) : SmC G l 0 := by
  intro A n d x hd9 hfd
  have hv := blw_lt (v := x) (m := 19) (by decide)
  have ed : (nI d).toInt = d := i_n (by omega)
  have ev : (nI (blw x 19)).toInt = blw x 19 := i_n (by omega)
  refine J_C hst (by decide +kernel) rfl rfl rfl (Nat.le_of_ble_eq_true rfl) ?_
  show xx_J _ _ _ _ _ _ _ _ 0 [(0, _), (1, _)] [] _ _ _ _
  refine J_ltA (fun lt0 => ?_)
  have r115 : ∀ (A1 : xx_H) (k1 j1 : Nat), (k1 ≤ 1 ∧ j1 ≤ 4) → A1 n = some (.inr (7, [.int (nI (smK x d)), .int (nI (smN x (smK x d))), .null, .null])) → (∀ z, ¬ z = n → A1 z = A z) → xx_J G l mL_sum (0 + 2) (60 + 30 * 0) (2 ^ (0 + 1) - 1) (4 * (2 ^ (0 + 1) - 1)) (trQ n (0 + 1) (smT (0 + 1) x d) A) 115 [(3, .int (nI (blw x 19))), (2, .ref n), (0, .int x), (1, .int (nI d))] [] A1 (n + 1) k1 j1 := by
    intro A1 k1 j1 hk g1 o1
    have hkk := smK_lt (x := x) (d := d)
    have ekd : (nI (smK x d)).toInt = smK x d := i_n (by omega)
    have hlt1 : ∀ z c, n + 1 ≤ z → ¬ A1 z = some c := fun z c hz h => by
        rw [o1 z (by omega)] at h
        have := lt0 _ _ h
        omega
    have hk8 : smK x d < 8 := smK_d (by omega)
    refine J_aload_n dL_sum_115 rfl rfl ?_
    refine J_getf dL_sum_116 fl_L_41 g1 rfl ?_
    refine J_bipush (v := 8) dL_sum_119 (by decide) ?_
    refine J_icmp_lt (tgt := 139) dL_sum_121 rfl (fun h121 => ?_) (fun h121 => ?_)
    · refine J_aload_n dL_sum_139 rfl rfl ?_
      refine J_getf dL_sum_140 fl_L_41 g1 rfl ?_
      refine J_bipush (v := 9) dL_sum_143 (by decide) ?_
      refine J_icmp_lt (tgt := 163) dL_sum_145 rfl (fun h145 => ?_) (fun h145 => ?_)
      · refine J_aload_n dL_sum_163 rfl rfl ?_
        refine J_areturn (C := _) dL_sum_164 rfl (by omega) (by omega) ?_
        exact ⟨n, rfl, Nat.le_refl _, Nat.lt_succ_self _, ⟨_, _, (rsH_y (Nat.le_refl _)).trans g1, fun z => absurd z.1 (fun z2 : 8 ≤ smK x d => by omega), fun z => absurd z.1 (fun z2 : 9 ≤ smK x d => by omega)⟩, fun z hz => o1 z (by omega)⟩
      · exfalso; simp only [i_lt, i_le, i_8, i_9, ekd] at h145; omega
    · exfalso; simp only [i_lt, i_le, i_8, i_9, ekd] at h121; omega
  have r67 : ∀ (A1 : xx_H) (k1 j1 : Nat), (k1 ≤ 1 ∧ j1 ≤ 4) → A1 n = some (.inr (7, [.int 0, .int 0, .null, .null])) → (∀ z, ¬ z = n → A1 z = A z) → xx_J G l mL_sum (0 + 2) (60 + 30 * 0) (2 ^ (0 + 1) - 1) (4 * (2 ^ (0 + 1) - 1)) (trQ n (0 + 1) (smT (0 + 1) x d) A) 67 [(3, .int (nI (blw x 19))), (2, .ref n), (0, .int x), (1, .int (nI d))] [.int (nI (smK x d)), .ref n] A1 (n + 1) k1 j1 := by
    intro A1 k1 j1 hk g1 o1
    have hkk := smK_lt (x := x) (d := d)
    refine J_putf dL_sum_67 fp_L_41 (fun _ => ⟨rfl, rfl⟩) g1 (Nat.le_of_ble_eq_true rfl) ?_
    refine J_up (fun A2 g2 o2 => ?_)
    refine J_aload_n dL_sum_70 rfl rfl ?_
    refine J_aload_n dL_sum_71 rfl rfl ?_
    refine J_getf dL_sum_72 fl_L_41 g2 rfl ?_
    refine J_if_ne (tgt := 105) dL_sum_75 rfl (fun h75 => ?_) (fun h75 => ?_)
    · have k75 : ¬ smK x d = 0 := fun z => h75 (by rw [z]; rfl)
      refine J_iload_n dL_sum_105 rfl rfl ?_
      refine J_iconst (v := 4) dL_sum_106 (by decide) ?_
      refine J_ishr dL_sum_107 ?_
      refine J_iconst (v := 2) dL_sum_108 (by decide) ?_
      refine J_callSr (As := [_, _]) dL_sum_109 ml_L_35 cal_L_below sm_L_below rfl rfl (Nat.le_of_ble_eq_true rfl) ⟨by omega, by show 8 + (2 + 11) + _ ≤ _; omega⟩ ⟨by omega, by omega⟩ (c_L_below hst (x >>> ((4 : Int32) &&& 31)) (m := 2) (by decide) (by decide)) ?_
      refine J_putf dL_sum_112 fp_L_46 (fun _ => ⟨rfl, rfl⟩) g2 (Nat.le_of_ble_eq_true rfl) ?_
      refine J_up (fun A3 g3 o3 => ?_)
      refine xx_J.pick [0, 1, 2, 3] rfl ?_
      exact r115 _ _ _ hk (g3.trans (by unfold smN; first | (rw [if_pos k75, if_pos k89]; rfl) | (rw [if_pos k75, if_neg k89]; rfl) | (rw [if_neg k75]; rfl))) (fun z hz => (o3 z hz).trans ((o2 z hz).trans (o1 z hz)))
    · have k75 : smK x d = 0 := (nI_eq (by omega) (by decide)).mp (show nI (smK x d) = nI 0 from h75)
      refine J_iload_n dL_sum_78 rfl rfl ?_
      refine J_iconst (v := 3) dL_sum_79 (by decide) ?_
      refine J_ishr dL_sum_80 ?_
      refine J_iload_n dL_sum_81 rfl rfl ?_
      refine J_bipush (v := 7) dL_sum_82 (by decide) ?_
      refine J_ishr dL_sum_84 ?_
      refine J_iconst (v := 5) dL_sum_85 (by decide) ?_
      refine J_callSr (As := [_, _]) dL_sum_86 ml_L_35 cal_L_below sm_L_below rfl rfl (Nat.le_of_ble_eq_true rfl) ⟨by omega, by show 8 + (2 + 11) + _ ≤ _; omega⟩ ⟨by omega, by omega⟩ (c_L_below hst (x >>> ((7 : Int32) &&& 31)) (m := 5) (by decide) (by decide)) ?_
      refine J_if_ne (tgt := 97) dL_sum_89 rfl (fun h89 => ?_) (fun h89 => ?_)
      · have k89 : ¬ blw (shr x 7) 5 = 0 := fun z => h89 (by rw [z]; rfl)
        refine J_bipush (v := 9) dL_sum_97 (by decide) ?_
        refine J_callSr (As := [_, _]) dL_sum_99 ml_L_35 cal_L_below sm_L_below rfl rfl (Nat.le_of_ble_eq_true rfl) ⟨by omega, by show 8 + (2 + 11) + _ ≤ _; omega⟩ ⟨by omega, by omega⟩ (c_L_below hst (x >>> ((3 : Int32) &&& 31)) (m := 9) (by decide) (by decide)) ?_
        refine J_goto (tgt := 112) dL_sum_102 rfl ?_
        refine J_putf dL_sum_112 fp_L_46 (fun _ => ⟨rfl, rfl⟩) g2 (Nat.le_of_ble_eq_true rfl) ?_
        refine J_up (fun A3 g3 o3 => ?_)
        refine xx_J.pick [0, 1, 2, 3] rfl ?_
        exact r115 _ _ _ hk (g3.trans (by unfold smN; first | (rw [if_pos k75, if_pos k89]; rfl) | (rw [if_pos k75, if_neg k89]; rfl) | (rw [if_neg k75]; rfl))) (fun z hz => (o3 z hz).trans ((o2 z hz).trans (o1 z hz)))
      · have k89 : blw (shr x 7) 5 = 0 := (nI_eq (Nat.lt_trans (blw_lt (by decide)) (by decide)) (by decide)).mp (show nI (blw (shr x 7) 5) = nI 0 from h89)
        refine J_ldci dL_sum_92 kc_L_45 ?_
        refine J_goto (tgt := 99) dL_sum_94 rfl ?_
        refine J_callSr (As := [_, _]) dL_sum_99 ml_L_35 cal_L_below sm_L_below rfl rfl (Nat.le_of_ble_eq_true rfl) ⟨by omega, by show 8 + (2 + 11) + _ ≤ _; omega⟩ ⟨by omega, by omega⟩ (c_L_below hst (x >>> ((3 : Int32) &&& 31)) (m := 1000000) (by decide) (by decide)) ?_
        refine J_goto (tgt := 112) dL_sum_102 rfl ?_
        refine J_putf dL_sum_112 fp_L_46 (fun _ => ⟨rfl, rfl⟩) g2 (Nat.le_of_ble_eq_true rfl) ?_
        refine J_up (fun A3 g3 o3 => ?_)
        refine xx_J.pick [0, 1, 2, 3] rfl ?_
        exact r115 _ _ _ hk (g3.trans (by unfold smN; first | (rw [if_pos k75, if_pos k89]; rfl) | (rw [if_pos k75, if_neg k89]; rfl) | (rw [if_neg k75]; rfl))) (fun z hz => (o3 z hz).trans ((o2 z hz).trans (o1 z hz)))
  refine J_new (fs := [.int 0, .int 0, .null, .null]) dL_sum_0 k_7 cl_L_32 ins_BeltRoundsLaw_Tree in_BeltRoundsLaw_Tree (fun q hq => by rcases (show q = 0 ∨ q = 1 ∨ q = 2 ∨ q = 3 by omega) with rfl | rfl | rfl | rfl <;> rfl) (fun v hv q h => by subst h; simp at hv) (by omega) (by omega) ?_
  refine J_up (fun A1 g1 o1 => ?_)
  refine J_dup dL_sum_3 rfl ?_
  refine J_callI (As := []) dL_sum_4 (Or.inr ⟨_, ml_L_34⟩) cal_X8_init rfl rfl rfl im_X8_init rfl (Nat.le_of_ble_eq_true rfl) ⟨by omega, by show 8 + (1 + 11) + _ ≤ _; omega⟩ ⟨by omega, by omega⟩ (c_X8_init hst) (fun v9 A9 n9 _ hQ => ?_)
  obtain ⟨e9, hn9, hA9⟩ := hQ
  subst A9
  subst n9
  cases e9
  refine J_astore_n (L' := [(2, _), (0, _), (1, _)]) dL_sum_7 rfl (by decide) rfl ?_
  refine J_iload_n dL_sum_8 rfl rfl ?_
  refine J_bipush (v := 19) dL_sum_9 (by decide) ?_
  refine J_callSr (As := [_, _]) dL_sum_11 ml_L_35 cal_L_below sm_L_below rfl rfl (Nat.le_of_ble_eq_true rfl) ⟨by omega, by show 8 + (2 + 11) + _ ≤ _; omega⟩ ⟨by omega, by omega⟩ (c_L_below hst (x) (m := 19) (by decide) (by decide)) ?_
  refine J_istore_n (L' := [(3, _), (2, _), (0, _), (1, _)]) dL_sum_14 rfl (by decide) rfl ?_
  refine J_aload_n dL_sum_15 rfl rfl ?_
  refine J_iload_n dL_sum_16 rfl rfl ?_
  refine J_iconst (v := 3) dL_sum_17 (by decide) ?_
  refine J_icmp_lt (tgt := 32) dL_sum_18 rfl (fun h18 => ?_) (fun h18 => ?_)
  · have q18 := h18
    simp only [i_lt, i_le, i_1, i_3, i_4, i_12, ev, ed, show (11 : Int32).toInt = 11 from rfl] at q18
    refine J_iconst (v := 0) dL_sum_32 (by decide) ?_
    refine J_goto (tgt := 67) dL_sum_33 rfl ?_
    refine xx_J.pick [0, 1, 2, 3] rfl ?_
    have ek : (0 : Int32) = nI (smK x d) := by unfold smK; first | (rw [if_pos (Or.inl (by omega))]; rfl) | (rw [if_pos (Or.inr ⟨by omega, by omega⟩)]; rfl)
    rw [ek]
    exact r67 _ _ _ (by omega) g1 o1
  · have q18 := h18
    simp only [i_lt, i_le, i_1, i_3, i_4, i_12, ev, ed, show (11 : Int32).toInt = 11 from rfl] at q18
    refine J_iload_n dL_sum_21 rfl rfl ?_
    refine J_iconst (v := 1) dL_sum_22 (by decide) ?_
    refine J_icmp_le (tgt := 36) dL_sum_23 rfl (fun h23 => ?_) (fun h23 => ?_)
    · have q23 := h23
      simp only [i_lt, i_le, i_1, i_3, i_4, i_12, ev, ed, show (11 : Int32).toInt = 11 from rfl] at q23
      refine J_iload_n dL_sum_36 rfl rfl ?_
      refine J_iconst (v := 4) dL_sum_37 (by decide) ?_
      refine J_icmp_ge (tgt := 45) dL_sum_38 rfl (fun h38 => ?_) (fun h38 => ?_)
      · have q38 := h38
        simp only [i_lt, i_le, i_1, i_3, i_4, i_12, ev, ed, show (11 : Int32).toInt = 11 from rfl] at q38
        refine J_iload_n dL_sum_45 rfl rfl ?_
        refine J_bipush (v := 12) dL_sum_46 (by decide) ?_
        refine J_icmp_ge (tgt := 60) dL_sum_48 rfl (fun h48 => ?_) (fun h48 => ?_)
        · have q48 := h48
          simp only [i_lt, i_le, i_1, i_3, i_4, i_12, ev, ed, show (11 : Int32).toInt = 11 from rfl] at q48
          refine J_bipush (v := 8) dL_sum_60 (by decide) ?_
          refine J_iload_n dL_sum_62 rfl rfl ?_
          refine J_bipush (v := 7) dL_sum_63 (by decide) ?_
          refine J_irem dL_sum_65 (by decide) ?_
          rw [nI_mod (by omega) (by decide) (show (7 : Int32) = nI 7 from rfl)]
          refine J_iadd dL_sum_66 ?_
          refine xx_J.pick [0, 1, 2, 3] rfl ?_
          have ek : (8 : Int32) + nI (blw x 19 % 7) = nI (smK x d) := by unfold smK; rw [if_neg (by omega), if_neg (by omega), if_neg (by omega)]; exact nI_add 8 _
          rw [ek]
          exact r67 _ _ _ (by omega) g1 o1
        · have q48 := h48
          simp only [i_lt, i_le, i_1, i_3, i_4, i_12, ev, ed, show (11 : Int32).toInt = 11 from rfl] at q48
          refine J_iconst (v := 2) dL_sum_51 (by decide) ?_
          refine J_iload_n dL_sum_52 rfl rfl ?_
          refine J_bipush (v := 6) dL_sum_53 (by decide) ?_
          refine J_irem dL_sum_55 (by decide) ?_
          rw [nI_mod (by omega) (by decide) (show (6 : Int32) = nI 6 from rfl)]
          refine J_iadd dL_sum_56 ?_
          refine J_goto (tgt := 67) dL_sum_57 rfl ?_
          refine xx_J.pick [0, 1, 2, 3] rfl ?_
          have ek : (2 : Int32) + nI (blw x 19 % 6) = nI (smK x d) := by unfold smK; rw [if_neg (by omega), if_neg (by omega), if_pos (by omega)]; exact nI_add 2 _
          rw [ek]
          exact r67 _ _ _ (by omega) g1 o1
      · have q38 := h38
        simp only [i_lt, i_le, i_1, i_3, i_4, i_12, ev, ed, show (11 : Int32).toInt = 11 from rfl] at q38
        refine J_iconst (v := 1) dL_sum_41 (by decide) ?_
        refine J_goto (tgt := 67) dL_sum_42 rfl ?_
        refine xx_J.pick [0, 1, 2, 3] rfl ?_
        have ek : (1 : Int32) = nI (smK x d) := by unfold smK; rw [if_neg (by omega), if_pos (by omega)]; rfl
        rw [ek]
        exact r67 _ _ _ (by omega) g1 o1
    · have q23 := h23
      simp only [i_lt, i_le, i_1, i_3, i_4, i_12, ev, ed, show (11 : Int32).toInt = 11 from rfl] at q23
      refine J_iload_n dL_sum_26 rfl rfl ?_
      refine J_bipush (v := 11) dL_sum_27 (by decide) ?_
      refine J_icmp_le (tgt := 36) dL_sum_29 rfl (fun h29 => ?_) (fun h29 => ?_)
      · have q29 := h29
        simp only [i_lt, i_le, i_1, i_3, i_4, i_12, ev, ed, show (11 : Int32).toInt = 11 from rfl] at q29
        refine J_iload_n dL_sum_36 rfl rfl ?_
        refine J_iconst (v := 4) dL_sum_37 (by decide) ?_
        refine J_icmp_ge (tgt := 45) dL_sum_38 rfl (fun h38 => ?_) (fun h38 => ?_)
        · have q38 := h38
          simp only [i_lt, i_le, i_1, i_3, i_4, i_12, ev, ed, show (11 : Int32).toInt = 11 from rfl] at q38
          refine J_iload_n dL_sum_45 rfl rfl ?_
          refine J_bipush (v := 12) dL_sum_46 (by decide) ?_
          refine J_icmp_ge (tgt := 60) dL_sum_48 rfl (fun h48 => ?_) (fun h48 => ?_)
          · have q48 := h48
            simp only [i_lt, i_le, i_1, i_3, i_4, i_12, ev, ed, show (11 : Int32).toInt = 11 from rfl] at q48
            refine J_bipush (v := 8) dL_sum_60 (by decide) ?_
            refine J_iload_n dL_sum_62 rfl rfl ?_
            refine J_bipush (v := 7) dL_sum_63 (by decide) ?_
            refine J_irem dL_sum_65 (by decide) ?_
            rw [nI_mod (by omega) (by decide) (show (7 : Int32) = nI 7 from rfl)]
            refine J_iadd dL_sum_66 ?_
            refine xx_J.pick [0, 1, 2, 3] rfl ?_
            have ek : (8 : Int32) + nI (blw x 19 % 7) = nI (smK x d) := by unfold smK; rw [if_neg (by omega), if_neg (by omega), if_neg (by omega)]; exact nI_add 8 _
            rw [ek]
            exact r67 _ _ _ (by omega) g1 o1
          · have q48 := h48
            simp only [i_lt, i_le, i_1, i_3, i_4, i_12, ev, ed, show (11 : Int32).toInt = 11 from rfl] at q48
            refine J_iconst (v := 2) dL_sum_51 (by decide) ?_
            refine J_iload_n dL_sum_52 rfl rfl ?_
            refine J_bipush (v := 6) dL_sum_53 (by decide) ?_
            refine J_irem dL_sum_55 (by decide) ?_
            rw [nI_mod (by omega) (by decide) (show (6 : Int32) = nI 6 from rfl)]
            refine J_iadd dL_sum_56 ?_
            refine J_goto (tgt := 67) dL_sum_57 rfl ?_
            refine xx_J.pick [0, 1, 2, 3] rfl ?_
            have ek : (2 : Int32) + nI (blw x 19 % 6) = nI (smK x d) := by unfold smK; rw [if_neg (by omega), if_neg (by omega), if_pos (by omega)]; exact nI_add 2 _
            rw [ek]
            exact r67 _ _ _ (by omega) g1 o1
        · have q38 := h38
          simp only [i_lt, i_le, i_1, i_3, i_4, i_12, ev, ed, show (11 : Int32).toInt = 11 from rfl] at q38
          refine J_iconst (v := 1) dL_sum_41 (by decide) ?_
          refine J_goto (tgt := 67) dL_sum_42 rfl ?_
          refine xx_J.pick [0, 1, 2, 3] rfl ?_
          have ek : (1 : Int32) = nI (smK x d) := by unfold smK; rw [if_neg (by omega), if_pos (by omega)]; rfl
          rw [ek]
          exact r67 _ _ _ (by omega) g1 o1
      · have q29 := h29
        simp only [i_lt, i_le, i_1, i_3, i_4, i_12, ev, ed, show (11 : Int32).toInt = 11 from rfl] at q29
        refine J_iconst (v := 0) dL_sum_32 (by decide) ?_
        refine J_goto (tgt := 67) dL_sum_33 rfl ?_
        refine xx_J.pick [0, 1, 2, 3] rfl ?_
        have ek : (0 : Int32) = nI (smK x d) := by unfold smK; first | (rw [if_pos (Or.inl (by omega))]; rfl) | (rw [if_pos (Or.inr ⟨by omega, by omega⟩)]; rfl)
        rw [ek]
        exact r67 _ _ _ (by omega) g1 o1
set_option maxRecDepth 100000 in
set_option maxHeartbeats 4000000 in
theorem sum_s (hst : l.stackTraces = false) {f : Nat} (IH : SmC G l f) : SmC G l (f + 1) := by
  intro A n d x hd9 hfd
  have hp2 : 2 ^ (f + 1 + 1) = 2 ^ (f + 1) + 2 ^ (f + 1) := by rw [Nat.pow_succ]; omega
  have hp3 : 1 ≤ 2 ^ (f + 1) := Nat.pow_pos (by decide)
  have hv := blw_lt (v := x) (m := 19) (by decide)
  have ed : (nI d).toInt = d := i_n (by omega)
  have ev : (nI (blw x 19)).toInt = blw x 19 := i_n (by omega)
  refine J_C hst (by decide +kernel) rfl rfl rfl (Nat.le_of_ble_eq_true rfl) ?_
  show xx_J _ _ _ _ _ _ _ _ 0 [(0, _), (1, _)] [] _ _ _ _
  refine J_ltA (fun lt0 => ?_)
  have r115 : ∀ (A1 : xx_H) (k1 j1 : Nat), (k1 ≤ 1 ∧ j1 ≤ 4) → A1 n = some (.inr (7, [.int (nI (smK x d)), .int (nI (smN x (smK x d))), .null, .null])) → (∀ z, ¬ z = n → A1 z = A z) → xx_J G l mL_sum (f + 1 + 2) (60 + 30 * (f + 1)) (2 ^ (f + 1 + 1) - 1) (4 * (2 ^ (f + 1 + 1) - 1)) (trQ n (f + 1 + 1) (smT (f + 1 + 1) x d) A) 115 [(3, .int (nI (blw x 19))), (2, .ref n), (0, .int x), (1, .int (nI d))] [] A1 (n + 1) k1 j1 := by
    intro A1 k1 j1 hk g1 o1
    have hkk := smK_lt (x := x) (d := d)
    have ekd : (nI (smK x d)).toInt = smK x d := i_n (by omega)
    have hlt1 : ∀ z c, n + 1 ≤ z → ¬ A1 z = some c := fun z c hz h => by
        rw [o1 z (by omega)] at h
        have := lt0 _ _ h
        omega
    by_cases c8 : smK x d < 8
    · refine J_aload_n dL_sum_115 rfl rfl ?_
      refine J_getf dL_sum_116 fl_L_41 g1 rfl ?_
      refine J_bipush (v := 8) dL_sum_119 (by decide) ?_
      refine J_icmp_lt (tgt := 139) dL_sum_121 rfl (fun h121 => ?_) (fun h121 => ?_)
      · refine J_aload_n dL_sum_139 rfl rfl ?_
        refine J_getf dL_sum_140 fl_L_41 g1 rfl ?_
        refine J_bipush (v := 9) dL_sum_143 (by decide) ?_
        refine J_icmp_lt (tgt := 163) dL_sum_145 rfl (fun h145 => ?_) (fun h145 => ?_)
        · refine J_aload_n dL_sum_163 rfl rfl ?_
          refine J_areturn (C := _) dL_sum_164 rfl (by omega) (by omega) ?_
          exact ⟨n, rfl, Nat.le_refl _, Nat.lt_succ_self _, ⟨_, _, (rsH_y (Nat.le_refl _)).trans g1, fun z => absurd z.1 (fun z2 : 8 ≤ smK x d => by omega), fun z => absurd z.1 (fun z2 : 9 ≤ smK x d => by omega)⟩, fun z hz => o1 z (by omega)⟩
        · exfalso; simp only [i_lt, i_le, i_8, i_9, ekd] at h145; omega
      · exfalso; simp only [i_lt, i_le, i_8, i_9, ekd] at h121; omega
    · by_cases c9 : smK x d < 9
      · refine J_aload_n dL_sum_115 rfl rfl ?_
        refine J_getf dL_sum_116 fl_L_41 g1 rfl ?_
        refine J_bipush (v := 8) dL_sum_119 (by decide) ?_
        refine J_icmp_lt (tgt := 139) dL_sum_121 rfl (fun h121 => ?_) (fun h121 => ?_)
        · exfalso; simp only [i_lt, i_le, i_8, i_9, ekd] at h121; omega
        · refine J_aload_n dL_sum_124 rfl rfl ?_
          refine J_iload_n dL_sum_125 rfl rfl ?_
          refine J_iconst (v := 3) dL_sum_126 (by decide) ?_
          refine J_imul dL_sum_127 ?_
          refine J_iconst (v := 1) dL_sum_128 (by decide) ?_
          refine J_iadd dL_sum_129 ?_
          refine J_iload_n dL_sum_130 rfl rfl ?_
          refine J_iconst (v := 1) dL_sum_131 (by decide) ?_
          refine J_iadd dL_sum_132 ?_
          refine J_ltA (fun lt2 => ?_)
          rw [nI_1]
          refine J_callSg (As := [_, _]) dL_sum_133 ml_L_49 cal_L_sum rfl sm_L_sum rfl (Nat.le_of_ble_eq_true rfl) ⟨by omega, by show 8 + (4 + 11) + _ ≤ _; omega⟩ ⟨by omega, by omega⟩ (IH A1 (n + 1) (d + 1) (x * 3 + 1) (by omega) (by omega)) (fun v2 A2 n2 hn2 hQ => ?_) (fun _ _ _ _ hE => by obtain ⟨_, z, _⟩ := hE; exact nomatch z)
          obtain ⟨a2, e2, ha2, hb2, ht2, hf2⟩ := hQ
          cases e2
          refine J_putf dL_sum_136 fp_L_53 (fun _ => ⟨rfl, rfl⟩) ((hf2 n (by omega)).trans g1) (Nat.le_of_ble_eq_true rfl) ?_
          refine J_up (fun A3 g3 o3 => ?_)
          refine J_aload_n dL_sum_139 rfl rfl ?_
          refine J_getf dL_sum_140 fl_L_41 g3 rfl ?_
          refine J_bipush (v := 9) dL_sum_143 (by decide) ?_
          refine J_icmp_lt (tgt := 163) dL_sum_145 rfl (fun h145 => ?_) (fun h145 => ?_)
          · refine J_aload_n dL_sum_163 rfl rfl ?_
            refine J_areturn (C := _) dL_sum_164 rfl (by omega) (by omega) ?_
            exact ⟨n, rfl, Nat.le_refl _, by omega, ⟨_, _, (rsH_y (Nat.le_refl _)).trans g3, fun _ => ⟨_, rfl, ht2.rs (Nat.le_succ n) (fun z c hz _ => o3 z (by omega))⟩, fun z => absurd z.1 (fun z2 : 9 ≤ smK x d => by omega)⟩, fun z hz => (o3 z (by omega)).trans ((hf2 z (by omega)).trans (o1 z (by omega)))⟩
          · exfalso; simp only [i_lt, i_le, i_8, i_9, ekd] at h145; omega
      · refine J_aload_n dL_sum_115 rfl rfl ?_
        refine J_getf dL_sum_116 fl_L_41 g1 rfl ?_
        refine J_bipush (v := 8) dL_sum_119 (by decide) ?_
        refine J_icmp_lt (tgt := 139) dL_sum_121 rfl (fun h121 => ?_) (fun h121 => ?_)
        · exfalso; simp only [i_lt, i_le, i_8, i_9, ekd] at h121; omega
        · refine J_aload_n dL_sum_124 rfl rfl ?_
          refine J_iload_n dL_sum_125 rfl rfl ?_
          refine J_iconst (v := 3) dL_sum_126 (by decide) ?_
          refine J_imul dL_sum_127 ?_
          refine J_iconst (v := 1) dL_sum_128 (by decide) ?_
          refine J_iadd dL_sum_129 ?_
          refine J_iload_n dL_sum_130 rfl rfl ?_
          refine J_iconst (v := 1) dL_sum_131 (by decide) ?_
          refine J_iadd dL_sum_132 ?_
          refine J_ltA (fun lt2 => ?_)
          rw [nI_1]
          refine J_callSg (As := [_, _]) dL_sum_133 ml_L_49 cal_L_sum rfl sm_L_sum rfl (Nat.le_of_ble_eq_true rfl) ⟨by omega, by show 8 + (4 + 11) + _ ≤ _; omega⟩ ⟨by omega, by omega⟩ (IH A1 (n + 1) (d + 1) (x * 3 + 1) (by omega) (by omega)) (fun v2 A2 n2 hn2 hQ => ?_) (fun _ _ _ _ hE => by obtain ⟨_, z, _⟩ := hE; exact nomatch z)
          obtain ⟨a2, e2, ha2, hb2, ht2, hf2⟩ := hQ
          cases e2
          refine J_putf dL_sum_136 fp_L_53 (fun _ => ⟨rfl, rfl⟩) ((hf2 n (by omega)).trans g1) (Nat.le_of_ble_eq_true rfl) ?_
          refine J_up (fun A3 g3 o3 => ?_)
          refine J_aload_n dL_sum_139 rfl rfl ?_
          refine J_getf dL_sum_140 fl_L_41 g3 rfl ?_
          refine J_bipush (v := 9) dL_sum_143 (by decide) ?_
          refine J_icmp_lt (tgt := 163) dL_sum_145 rfl (fun h145 => ?_) (fun h145 => ?_)
          · exfalso; simp only [i_lt, i_le, i_8, i_9, ekd] at h145; omega
          · refine J_aload_n dL_sum_148 rfl rfl ?_
            refine J_iload_n dL_sum_149 rfl rfl ?_
            refine J_iconst (v := 5) dL_sum_150 (by decide) ?_
            refine J_imul dL_sum_151 ?_
            refine J_iconst (v := 2) dL_sum_152 (by decide) ?_
            refine J_iadd dL_sum_153 ?_
            refine J_iload_n dL_sum_154 rfl rfl ?_
            refine J_iconst (v := 1) dL_sum_155 (by decide) ?_
            refine J_iadd dL_sum_156 ?_
            refine J_ltA (fun lt4 => ?_)
            rw [nI_1]
            refine J_callSg (As := [_, _]) dL_sum_157 ml_L_49 cal_L_sum rfl sm_L_sum rfl (Nat.le_of_ble_eq_true rfl) ⟨by omega, by show 8 + (4 + 11) + _ ≤ _; omega⟩ ⟨by omega, by omega⟩ (IH A3 n2 (d + 1) (x * 5 + 2) (by omega) (by omega)) (fun v4 A4 n4 hn4 hQ => ?_) (fun _ _ _ _ hE => by obtain ⟨_, z, _⟩ := hE; exact nomatch z)
            obtain ⟨a4, e4, ha4, hb4, ht4, hf4⟩ := hQ
            cases e4
            refine J_putf dL_sum_160 fp_L_57 (fun _ => ⟨rfl, rfl⟩) ((hf4 n (by omega)).trans g3) (Nat.le_of_ble_eq_true rfl) ?_
            refine J_up (fun A5 g5 o5 => ?_)
            refine J_aload_n dL_sum_163 rfl rfl ?_
            refine J_areturn (C := _) dL_sum_164 rfl (by omega) (by omega) ?_
            exact ⟨n, rfl, Nat.le_refl _, by omega, ⟨_, _, (rsH_y (Nat.le_refl _)).trans g5, fun _ => ⟨_, rfl, ht2.rs (Nat.le_succ n) (fun z c hz hc => (o5 z (by omega)).trans ((hf4 z (lt4 z c ((o3 z (by omega)).trans hc))).trans (o3 z (by omega))))⟩, fun _ => ⟨_, rfl, ht4.rs (by omega) (fun z c hz _ => o5 z (by omega))⟩⟩, fun z hz => (o5 z (by omega)).trans ((hf4 z (by omega)).trans ((o3 z (by omega)).trans ((hf2 z (by omega)).trans (o1 z (by omega)))))⟩
  have r67 : ∀ (A1 : xx_H) (k1 j1 : Nat), (k1 ≤ 1 ∧ j1 ≤ 4) → A1 n = some (.inr (7, [.int 0, .int 0, .null, .null])) → (∀ z, ¬ z = n → A1 z = A z) → xx_J G l mL_sum (f + 1 + 2) (60 + 30 * (f + 1)) (2 ^ (f + 1 + 1) - 1) (4 * (2 ^ (f + 1 + 1) - 1)) (trQ n (f + 1 + 1) (smT (f + 1 + 1) x d) A) 67 [(3, .int (nI (blw x 19))), (2, .ref n), (0, .int x), (1, .int (nI d))] [.int (nI (smK x d)), .ref n] A1 (n + 1) k1 j1 := by
    intro A1 k1 j1 hk g1 o1
    have hkk := smK_lt (x := x) (d := d)
    refine J_putf dL_sum_67 fp_L_41 (fun _ => ⟨rfl, rfl⟩) g1 (Nat.le_of_ble_eq_true rfl) ?_
    refine J_up (fun A2 g2 o2 => ?_)
    refine J_aload_n dL_sum_70 rfl rfl ?_
    refine J_aload_n dL_sum_71 rfl rfl ?_
    refine J_getf dL_sum_72 fl_L_41 g2 rfl ?_
    refine J_if_ne (tgt := 105) dL_sum_75 rfl (fun h75 => ?_) (fun h75 => ?_)
    · have k75 : ¬ smK x d = 0 := fun z => h75 (by rw [z]; rfl)
      refine J_iload_n dL_sum_105 rfl rfl ?_
      refine J_iconst (v := 4) dL_sum_106 (by decide) ?_
      refine J_ishr dL_sum_107 ?_
      refine J_iconst (v := 2) dL_sum_108 (by decide) ?_
      refine J_callSr (As := [_, _]) dL_sum_109 ml_L_35 cal_L_below sm_L_below rfl rfl (Nat.le_of_ble_eq_true rfl) ⟨by omega, by show 8 + (2 + 11) + _ ≤ _; omega⟩ ⟨by omega, by omega⟩ (c_L_below hst (x >>> ((4 : Int32) &&& 31)) (m := 2) (by decide) (by decide)) ?_
      refine J_putf dL_sum_112 fp_L_46 (fun _ => ⟨rfl, rfl⟩) g2 (Nat.le_of_ble_eq_true rfl) ?_
      refine J_up (fun A3 g3 o3 => ?_)
      refine xx_J.pick [0, 1, 2, 3] rfl ?_
      exact r115 _ _ _ hk (g3.trans (by unfold smN; first | (rw [if_pos k75, if_pos k89]; rfl) | (rw [if_pos k75, if_neg k89]; rfl) | (rw [if_neg k75]; rfl))) (fun z hz => (o3 z hz).trans ((o2 z hz).trans (o1 z hz)))
    · have k75 : smK x d = 0 := (nI_eq (by omega) (by decide)).mp (show nI (smK x d) = nI 0 from h75)
      refine J_iload_n dL_sum_78 rfl rfl ?_
      refine J_iconst (v := 3) dL_sum_79 (by decide) ?_
      refine J_ishr dL_sum_80 ?_
      refine J_iload_n dL_sum_81 rfl rfl ?_
      refine J_bipush (v := 7) dL_sum_82 (by decide) ?_
      refine J_ishr dL_sum_84 ?_
      refine J_iconst (v := 5) dL_sum_85 (by decide) ?_
      refine J_callSr (As := [_, _]) dL_sum_86 ml_L_35 cal_L_below sm_L_below rfl rfl (Nat.le_of_ble_eq_true rfl) ⟨by omega, by show 8 + (2 + 11) + _ ≤ _; omega⟩ ⟨by omega, by omega⟩ (c_L_below hst (x >>> ((7 : Int32) &&& 31)) (m := 5) (by decide) (by decide)) ?_
      refine J_if_ne (tgt := 97) dL_sum_89 rfl (fun h89 => ?_) (fun h89 => ?_)
      · have k89 : ¬ blw (shr x 7) 5 = 0 := fun z => h89 (by rw [z]; rfl)
        refine J_bipush (v := 9) dL_sum_97 (by decide) ?_
        refine J_callSr (As := [_, _]) dL_sum_99 ml_L_35 cal_L_below sm_L_below rfl rfl (Nat.le_of_ble_eq_true rfl) ⟨by omega, by show 8 + (2 + 11) + _ ≤ _; omega⟩ ⟨by omega, by omega⟩ (c_L_below hst (x >>> ((3 : Int32) &&& 31)) (m := 9) (by decide) (by decide)) ?_
        refine J_goto (tgt := 112) dL_sum_102 rfl ?_
        refine J_putf dL_sum_112 fp_L_46 (fun _ => ⟨rfl, rfl⟩) g2 (Nat.le_of_ble_eq_true rfl) ?_
        refine J_up (fun A3 g3 o3 => ?_)
        refine xx_J.pick [0, 1, 2, 3] rfl ?_
        exact r115 _ _ _ hk (g3.trans (by unfold smN; first | (rw [if_pos k75, if_pos k89]; rfl) | (rw [if_pos k75, if_neg k89]; rfl) | (rw [if_neg k75]; rfl))) (fun z hz => (o3 z hz).trans ((o2 z hz).trans (o1 z hz)))
      · have k89 : blw (shr x 7) 5 = 0 := (nI_eq (Nat.lt_trans (blw_lt (by decide)) (by decide)) (by decide)).mp (show nI (blw (shr x 7) 5) = nI 0 from h89)
        refine J_ldci dL_sum_92 kc_L_45 ?_
        refine J_goto (tgt := 99) dL_sum_94 rfl ?_
        refine J_callSr (As := [_, _]) dL_sum_99 ml_L_35 cal_L_below sm_L_below rfl rfl (Nat.le_of_ble_eq_true rfl) ⟨by omega, by show 8 + (2 + 11) + _ ≤ _; omega⟩ ⟨by omega, by omega⟩ (c_L_below hst (x >>> ((3 : Int32) &&& 31)) (m := 1000000) (by decide) (by decide)) ?_
        refine J_goto (tgt := 112) dL_sum_102 rfl ?_
        refine J_putf dL_sum_112 fp_L_46 (fun _ => ⟨rfl, rfl⟩) g2 (Nat.le_of_ble_eq_true rfl) ?_
        refine J_up (fun A3 g3 o3 => ?_)
        refine xx_J.pick [0, 1, 2, 3] rfl ?_
        exact r115 _ _ _ hk (g3.trans (by unfold smN; first | (rw [if_pos k75, if_pos k89]; rfl) | (rw [if_pos k75, if_neg k89]; rfl) | (rw [if_neg k75]; rfl))) (fun z hz => (o3 z hz).trans ((o2 z hz).trans (o1 z hz)))
  refine J_new (fs := [.int 0, .int 0, .null, .null]) dL_sum_0 k_7 cl_L_32 ins_BeltRoundsLaw_Tree in_BeltRoundsLaw_Tree (fun q hq => by rcases (show q = 0 ∨ q = 1 ∨ q = 2 ∨ q = 3 by omega) with rfl | rfl | rfl | rfl <;> rfl) (fun v hv q h => by subst h; simp at hv) (by omega) (by omega) ?_
  refine J_up (fun A1 g1 o1 => ?_)
  refine J_dup dL_sum_3 rfl ?_
  refine J_callI (As := []) dL_sum_4 (Or.inr ⟨_, ml_L_34⟩) cal_X8_init rfl rfl rfl im_X8_init rfl (Nat.le_of_ble_eq_true rfl) ⟨by omega, by show 8 + (1 + 11) + _ ≤ _; omega⟩ ⟨by omega, by omega⟩ (c_X8_init hst) (fun v9 A9 n9 _ hQ => ?_)
  obtain ⟨e9, hn9, hA9⟩ := hQ
  subst A9
  subst n9
  cases e9
  refine J_astore_n (L' := [(2, _), (0, _), (1, _)]) dL_sum_7 rfl (by decide) rfl ?_
  refine J_iload_n dL_sum_8 rfl rfl ?_
  refine J_bipush (v := 19) dL_sum_9 (by decide) ?_
  refine J_callSr (As := [_, _]) dL_sum_11 ml_L_35 cal_L_below sm_L_below rfl rfl (Nat.le_of_ble_eq_true rfl) ⟨by omega, by show 8 + (2 + 11) + _ ≤ _; omega⟩ ⟨by omega, by omega⟩ (c_L_below hst (x) (m := 19) (by decide) (by decide)) ?_
  refine J_istore_n (L' := [(3, _), (2, _), (0, _), (1, _)]) dL_sum_14 rfl (by decide) rfl ?_
  refine J_aload_n dL_sum_15 rfl rfl ?_
  refine J_iload_n dL_sum_16 rfl rfl ?_
  refine J_iconst (v := 3) dL_sum_17 (by decide) ?_
  refine J_icmp_lt (tgt := 32) dL_sum_18 rfl (fun h18 => ?_) (fun h18 => ?_)
  · have q18 := h18
    simp only [i_lt, i_le, i_1, i_3, i_4, i_12, ev, ed, show (11 : Int32).toInt = 11 from rfl] at q18
    refine J_iconst (v := 0) dL_sum_32 (by decide) ?_
    refine J_goto (tgt := 67) dL_sum_33 rfl ?_
    refine xx_J.pick [0, 1, 2, 3] rfl ?_
    have ek : (0 : Int32) = nI (smK x d) := by unfold smK; first | (rw [if_pos (Or.inl (by omega))]; rfl) | (rw [if_pos (Or.inr ⟨by omega, by omega⟩)]; rfl)
    rw [ek]
    exact r67 _ _ _ (by omega) g1 o1
  · have q18 := h18
    simp only [i_lt, i_le, i_1, i_3, i_4, i_12, ev, ed, show (11 : Int32).toInt = 11 from rfl] at q18
    refine J_iload_n dL_sum_21 rfl rfl ?_
    refine J_iconst (v := 1) dL_sum_22 (by decide) ?_
    refine J_icmp_le (tgt := 36) dL_sum_23 rfl (fun h23 => ?_) (fun h23 => ?_)
    · have q23 := h23
      simp only [i_lt, i_le, i_1, i_3, i_4, i_12, ev, ed, show (11 : Int32).toInt = 11 from rfl] at q23
      refine J_iload_n dL_sum_36 rfl rfl ?_
      refine J_iconst (v := 4) dL_sum_37 (by decide) ?_
      refine J_icmp_ge (tgt := 45) dL_sum_38 rfl (fun h38 => ?_) (fun h38 => ?_)
      · have q38 := h38
        simp only [i_lt, i_le, i_1, i_3, i_4, i_12, ev, ed, show (11 : Int32).toInt = 11 from rfl] at q38
        refine J_iload_n dL_sum_45 rfl rfl ?_
        refine J_bipush (v := 12) dL_sum_46 (by decide) ?_
        refine J_icmp_ge (tgt := 60) dL_sum_48 rfl (fun h48 => ?_) (fun h48 => ?_)
        · have q48 := h48
          simp only [i_lt, i_le, i_1, i_3, i_4, i_12, ev, ed, show (11 : Int32).toInt = 11 from rfl] at q48
          refine J_bipush (v := 8) dL_sum_60 (by decide) ?_
          refine J_iload_n dL_sum_62 rfl rfl ?_
          refine J_bipush (v := 7) dL_sum_63 (by decide) ?_
          refine J_irem dL_sum_65 (by decide) ?_
          rw [nI_mod (by omega) (by decide) (show (7 : Int32) = nI 7 from rfl)]
          refine J_iadd dL_sum_66 ?_
          refine xx_J.pick [0, 1, 2, 3] rfl ?_
          have ek : (8 : Int32) + nI (blw x 19 % 7) = nI (smK x d) := by unfold smK; rw [if_neg (by omega), if_neg (by omega), if_neg (by omega)]; exact nI_add 8 _
          rw [ek]
          exact r67 _ _ _ (by omega) g1 o1
        · have q48 := h48
          simp only [i_lt, i_le, i_1, i_3, i_4, i_12, ev, ed, show (11 : Int32).toInt = 11 from rfl] at q48
          refine J_iconst (v := 2) dL_sum_51 (by decide) ?_
          refine J_iload_n dL_sum_52 rfl rfl ?_
          refine J_bipush (v := 6) dL_sum_53 (by decide) ?_
          refine J_irem dL_sum_55 (by decide) ?_
          rw [nI_mod (by omega) (by decide) (show (6 : Int32) = nI 6 from rfl)]
          refine J_iadd dL_sum_56 ?_
          refine J_goto (tgt := 67) dL_sum_57 rfl ?_
          refine xx_J.pick [0, 1, 2, 3] rfl ?_
          have ek : (2 : Int32) + nI (blw x 19 % 6) = nI (smK x d) := by unfold smK; rw [if_neg (by omega), if_neg (by omega), if_pos (by omega)]; exact nI_add 2 _
          rw [ek]
          exact r67 _ _ _ (by omega) g1 o1
      · have q38 := h38
        simp only [i_lt, i_le, i_1, i_3, i_4, i_12, ev, ed, show (11 : Int32).toInt = 11 from rfl] at q38
        refine J_iconst (v := 1) dL_sum_41 (by decide) ?_
        refine J_goto (tgt := 67) dL_sum_42 rfl ?_
        refine xx_J.pick [0, 1, 2, 3] rfl ?_
        have ek : (1 : Int32) = nI (smK x d) := by unfold smK; rw [if_neg (by omega), if_pos (by omega)]; rfl
        rw [ek]
        exact r67 _ _ _ (by omega) g1 o1
    · have q23 := h23
      simp only [i_lt, i_le, i_1, i_3, i_4, i_12, ev, ed, show (11 : Int32).toInt = 11 from rfl] at q23
      refine J_iload_n dL_sum_26 rfl rfl ?_
      refine J_bipush (v := 11) dL_sum_27 (by decide) ?_
      refine J_icmp_le (tgt := 36) dL_sum_29 rfl (fun h29 => ?_) (fun h29 => ?_)
      · have q29 := h29
        simp only [i_lt, i_le, i_1, i_3, i_4, i_12, ev, ed, show (11 : Int32).toInt = 11 from rfl] at q29
        refine J_iload_n dL_sum_36 rfl rfl ?_
        refine J_iconst (v := 4) dL_sum_37 (by decide) ?_
        refine J_icmp_ge (tgt := 45) dL_sum_38 rfl (fun h38 => ?_) (fun h38 => ?_)
        · have q38 := h38
          simp only [i_lt, i_le, i_1, i_3, i_4, i_12, ev, ed, show (11 : Int32).toInt = 11 from rfl] at q38
          refine J_iload_n dL_sum_45 rfl rfl ?_
          refine J_bipush (v := 12) dL_sum_46 (by decide) ?_
          refine J_icmp_ge (tgt := 60) dL_sum_48 rfl (fun h48 => ?_) (fun h48 => ?_)
          · have q48 := h48
            simp only [i_lt, i_le, i_1, i_3, i_4, i_12, ev, ed, show (11 : Int32).toInt = 11 from rfl] at q48
            refine J_bipush (v := 8) dL_sum_60 (by decide) ?_
            refine J_iload_n dL_sum_62 rfl rfl ?_
            refine J_bipush (v := 7) dL_sum_63 (by decide) ?_
            refine J_irem dL_sum_65 (by decide) ?_
            rw [nI_mod (by omega) (by decide) (show (7 : Int32) = nI 7 from rfl)]
            refine J_iadd dL_sum_66 ?_
            refine xx_J.pick [0, 1, 2, 3] rfl ?_
            have ek : (8 : Int32) + nI (blw x 19 % 7) = nI (smK x d) := by unfold smK; rw [if_neg (by omega), if_neg (by omega), if_neg (by omega)]; exact nI_add 8 _
            rw [ek]
            exact r67 _ _ _ (by omega) g1 o1
          · have q48 := h48
            simp only [i_lt, i_le, i_1, i_3, i_4, i_12, ev, ed, show (11 : Int32).toInt = 11 from rfl] at q48
            refine J_iconst (v := 2) dL_sum_51 (by decide) ?_
            refine J_iload_n dL_sum_52 rfl rfl ?_
            refine J_bipush (v := 6) dL_sum_53 (by decide) ?_
            refine J_irem dL_sum_55 (by decide) ?_
            rw [nI_mod (by omega) (by decide) (show (6 : Int32) = nI 6 from rfl)]
            refine J_iadd dL_sum_56 ?_
            refine J_goto (tgt := 67) dL_sum_57 rfl ?_
            refine xx_J.pick [0, 1, 2, 3] rfl ?_
            have ek : (2 : Int32) + nI (blw x 19 % 6) = nI (smK x d) := by unfold smK; rw [if_neg (by omega), if_neg (by omega), if_pos (by omega)]; exact nI_add 2 _
            rw [ek]
            exact r67 _ _ _ (by omega) g1 o1
        · have q38 := h38
          simp only [i_lt, i_le, i_1, i_3, i_4, i_12, ev, ed, show (11 : Int32).toInt = 11 from rfl] at q38
          refine J_iconst (v := 1) dL_sum_41 (by decide) ?_
          refine J_goto (tgt := 67) dL_sum_42 rfl ?_
          refine xx_J.pick [0, 1, 2, 3] rfl ?_
          have ek : (1 : Int32) = nI (smK x d) := by unfold smK; rw [if_neg (by omega), if_pos (by omega)]; rfl
          rw [ek]
          exact r67 _ _ _ (by omega) g1 o1
      · have q29 := h29
        simp only [i_lt, i_le, i_1, i_3, i_4, i_12, ev, ed, show (11 : Int32).toInt = 11 from rfl] at q29
        refine J_iconst (v := 0) dL_sum_32 (by decide) ?_
        refine J_goto (tgt := 67) dL_sum_33 rfl ?_
        refine xx_J.pick [0, 1, 2, 3] rfl ?_
        have ek : (0 : Int32) = nI (smK x d) := by unfold smK; first | (rw [if_pos (Or.inl (by omega))]; rfl) | (rw [if_pos (Or.inr ⟨by omega, by omega⟩)]; rfl)
        rw [ek]
        exact r67 _ _ _ (by omega) g1 o1
theorem sum_all (hst : l.stackTraces = false) : ∀ f, SmC G l f := by
  intro f
  induction f with
  | zero => exact sum_0 hst
  | succ f ih => exact sum_s hst ih
set_option maxRecDepth 100000 in
set_option maxHeartbeats 4000000 in
theorem test_s (hst : l.stackTraces = false) {f : Nat} (IH : TsC G l f) : TsC G l (f + 1) := by
  intro A n d x hd2 hd9 hfd
  have IHS := sum_all (G := G) hst f
  have hp2 : 2 ^ (f + 1 + 1) = 2 ^ (f + 1) + 2 ^ (f + 1) := by rw [Nat.pow_succ]; omega
  have hp3 : 1 ≤ 2 ^ (f + 1) := Nat.pow_pos (by decide)
  have hv := blw_lt (v := shr x 1) (m := 13) (by decide)
  have ed : (nI d).toInt = d := i_n (by omega)
  have ev : (nI (blw (shr x 1) 13)).toInt = blw (shr x 1) 13 := i_n (by omega)
  refine J_C hst (by decide +kernel) rfl rfl rfl (Nat.le_of_ble_eq_true rfl) ?_
  show xx_J _ _ _ _ _ _ _ _ 0 [(0, _), (1, _)] [] _ _ _ _
  refine J_ltA (fun lt0 => ?_)
  have r64 : ∀ (A1 : xx_H) (k1 j1 : Nat), (k1 ≤ 1 ∧ j1 ≤ 4) → A1 n = some (.inr (7, [.int (nI (tsK x d)), .int 0, .null, .null])) → (∀ z, ¬ z = n → A1 z = A z) → xx_J G l mL_test (f + 1 + 2) (60 + 30 * (f + 1)) (2 ^ (f + 1 + 1) - 1) (4 * (2 ^ (f + 1 + 1) - 1)) (trQ n (f + 1 + 1) (tsT (f + 1 + 1) x d) A) 64 [(3, .int (nI (blw (shr x 1) 13))), (2, .ref n), (0, .int x), (1, .int (nI d))] [] A1 (n + 1) k1 j1 := by
    intro A1 k1 j1 hk g1 o1
    have hkk := tsK_lt (x := x) (d := d)
    have ekd : (nI (tsK x d)).toInt = tsK x d := i_n (by omega)
    by_cases c25 : tsK x d < 25
    · refine J_aload_n dL_test_64 rfl rfl ?_
      refine J_getf dL_test_65 fl_L_41 g1 rfl ?_
      refine J_bipush (v := 25) dL_test_68 (by decide) ?_
      refine J_icmp_ge (tgt := 107) dL_test_70 rfl (fun h70 => ?_) (fun h70 => ?_)
      · exfalso; simp only [i_lt, i_le, ekd, show (25 : Int32).toInt = 25 from rfl, show (26 : Int32).toInt = 26 from rfl] at h70; omega
      · refine J_aload_n dL_test_73 rfl rfl ?_
        refine J_iload_n dL_test_74 rfl rfl ?_
        refine J_iconst (v := 3) dL_test_75 (by decide) ?_
        refine J_imul dL_test_76 ?_
        refine J_bipush (v := 7) dL_test_77 (by decide) ?_
        refine J_iadd dL_test_79 ?_
        refine J_iload_n dL_test_80 rfl rfl ?_
        refine J_iconst (v := 1) dL_test_81 (by decide) ?_
        refine J_iadd dL_test_82 ?_
        refine J_ltA (fun lt2 => ?_)
        rw [nI_1]
        refine J_callSg (As := [_, _]) dL_test_83 ml_L_49 cal_L_sum rfl sm_L_sum rfl (Nat.le_of_ble_eq_true rfl) ⟨by omega, by show 8 + (4 + 11) + _ ≤ _; omega⟩ ⟨by omega, by omega⟩ (IHS A1 (n + 1) (d + 1) (x * 3 + 7) (by omega) (by omega)) (fun v2 A2 n2 hn2 hQ => ?_) (fun _ _ _ _ hE => by obtain ⟨_, z, _⟩ := hE; exact nomatch z)
        obtain ⟨a2, e2, ha2, hb2, ht2, hf2⟩ := hQ
        cases e2
        refine J_putf dL_test_86 fp_L_53 (fun _ => ⟨rfl, rfl⟩) ((hf2 n (by omega)).trans g1) (Nat.le_of_ble_eq_true rfl) ?_
        refine J_up (fun A3 g3 o3 => ?_)
        refine J_aload_n dL_test_89 rfl rfl ?_
        refine J_iload_n dL_test_90 rfl rfl ?_
        refine J_iconst (v := 5) dL_test_91 (by decide) ?_
        refine J_imul dL_test_92 ?_
        refine J_iconst (v := 1) dL_test_93 (by decide) ?_
        refine J_iadd dL_test_94 ?_
        refine J_iload_n dL_test_95 rfl rfl ?_
        refine J_iconst (v := 1) dL_test_96 (by decide) ?_
        refine J_iadd dL_test_97 ?_
        refine J_ltA (fun lt4 => ?_)
        rw [nI_1]
        refine J_callSg (As := [_, _]) dL_test_98 ml_L_49 cal_L_sum rfl sm_L_sum rfl (Nat.le_of_ble_eq_true rfl) ⟨by omega, by show 8 + (4 + 11) + _ ≤ _; omega⟩ ⟨by omega, by omega⟩ (IHS A3 n2 (d + 1) (x * 5 + 1) (by omega) (by omega)) (fun v4 A4 n4 hn4 hQ => ?_) (fun _ _ _ _ hE => by obtain ⟨_, z, _⟩ := hE; exact nomatch z)
        obtain ⟨a4, e4, ha4, hb4, ht4, hf4⟩ := hQ
        cases e4
        refine J_putf dL_test_101 fp_L_57 (fun _ => ⟨rfl, rfl⟩) ((hf4 n (by omega)).trans g3) (Nat.le_of_ble_eq_true rfl) ?_
        refine J_up (fun A5 g5 o5 => ?_)
        refine J_goto (tgt := 156) dL_test_104 rfl ?_
        refine J_aload_n dL_test_156 rfl rfl ?_
        refine J_areturn (C := _) dL_test_157 rfl (by omega) (by omega) ?_
        exact ⟨n, rfl, Nat.le_refl _, by omega, ⟨_, _, (rsH_y (Nat.le_refl _)).trans g5, fun _ => ⟨_, rfl, by
          show trA _ _ _ (if tsK x d < 25 then (smT (f + 1) (x * 3 + 7) (d + 1), smT (f + 1) (x * 5 + 1) (d + 1)) else (tsT (f + 1) (x * 3 + 5) (d + 1), tsT (f + 1) (x * 7 + 3) (d + 1))).1
          rw [if_pos c25]
          exact ht2.rs (Nat.le_succ n) (fun z c hz hc => (o5 z (by omega)).trans ((hf4 z (lt4 z c ((o3 z (by omega)).trans hc))).trans (o3 z (by omega))))⟩, fun _ => ⟨_, rfl, by
          show trA _ _ _ (if tsK x d < 25 then (smT (f + 1) (x * 3 + 7) (d + 1), smT (f + 1) (x * 5 + 1) (d + 1)) else (tsT (f + 1) (x * 3 + 5) (d + 1), tsT (f + 1) (x * 7 + 3) (d + 1))).2
          rw [if_pos c25]
          exact ht4.rs (by omega) (fun z c hz _ => o5 z (by omega))⟩⟩, fun z hz => (o5 z (by omega)).trans ((hf4 z (by omega)).trans ((o3 z (by omega)).trans ((hf2 z (by omega)).trans (o1 z (by omega)))))⟩
    · by_cases c26 : tsK x d = 25
      · refine J_aload_n dL_test_64 rfl rfl ?_
        refine J_getf dL_test_65 fl_L_41 g1 rfl ?_
        refine J_bipush (v := 25) dL_test_68 (by decide) ?_
        refine J_icmp_ge (tgt := 107) dL_test_70 rfl (fun h70 => ?_) (fun h70 => ?_)
        · refine J_aload_n dL_test_107 rfl rfl ?_
          refine J_getf dL_test_108 fl_L_41 g1 rfl ?_
          refine J_bipush (v := 25) dL_test_111 (by decide) ?_
          refine J_icmp_le (tgt := 156) dL_test_113 rfl (fun h113 => ?_) (fun h113 => ?_)
          · refine J_aload_n dL_test_156 rfl rfl ?_
            refine J_areturn (C := _) dL_test_157 rfl (by omega) (by omega) ?_
            exact ⟨n, rfl, Nat.le_refl _, Nat.lt_succ_self _, ⟨_, _, (rsH_y (Nat.le_refl _)).trans g1, fun z => absurd c26 z.2, fun z => absurd c26 z.2.1⟩, fun z hz => o1 z (by omega)⟩
          · exfalso; simp only [i_lt, i_le, ekd, show (25 : Int32).toInt = 25 from rfl, show (26 : Int32).toInt = 26 from rfl] at h113; omega
        · exfalso; simp only [i_lt, i_le, ekd, show (25 : Int32).toInt = 25 from rfl, show (26 : Int32).toInt = 26 from rfl] at h70; omega
      · have hd1 : d ≤ 1 := Nat.not_lt.mp (fun z => by have := tsK_d (x := x) z; omega)
        by_cases c26 : tsK x d = 26
        · refine J_aload_n dL_test_64 rfl rfl ?_
          refine J_getf dL_test_65 fl_L_41 g1 rfl ?_
          refine J_bipush (v := 25) dL_test_68 (by decide) ?_
          refine J_icmp_ge (tgt := 107) dL_test_70 rfl (fun h70 => ?_) (fun h70 => ?_)
          · refine J_aload_n dL_test_107 rfl rfl ?_
            refine J_getf dL_test_108 fl_L_41 g1 rfl ?_
            refine J_bipush (v := 25) dL_test_111 (by decide) ?_
            refine J_icmp_le (tgt := 156) dL_test_113 rfl (fun h113 => ?_) (fun h113 => ?_)
            · exfalso; simp only [i_lt, i_le, ekd, show (25 : Int32).toInt = 25 from rfl, show (26 : Int32).toInt = 26 from rfl] at h113; omega
            · refine J_aload_n dL_test_116 rfl rfl ?_
              refine J_iload_n dL_test_117 rfl rfl ?_
              refine J_iconst (v := 3) dL_test_118 (by decide) ?_
              refine J_imul dL_test_119 ?_
              refine J_iconst (v := 5) dL_test_120 (by decide) ?_
              refine J_iadd dL_test_121 ?_
              refine J_iload_n dL_test_122 rfl rfl ?_
              refine J_iconst (v := 1) dL_test_123 (by decide) ?_
              refine J_iadd dL_test_124 ?_
              refine J_ltA (fun lt2 => ?_)
              rw [nI_1]
              refine J_callSg (As := [_, _]) dL_test_125 ml_L_60 cal_L_test rfl sm_L_test rfl (Nat.le_of_ble_eq_true rfl) ⟨by omega, by show 8 + (4 + 11) + _ ≤ _; omega⟩ ⟨by omega, by omega⟩ (IH A1 (n + 1) (d + 1) (x * 3 + 5) (by omega) (by omega) (by omega)) (fun v2 A2 n2 hn2 hQ => ?_) (fun _ _ _ _ hE => by obtain ⟨_, z, _⟩ := hE; exact nomatch z)
              obtain ⟨a2, e2, ha2, hb2, ht2, hf2⟩ := hQ
              cases e2
              refine J_putf dL_test_128 fp_L_53 (fun _ => ⟨rfl, rfl⟩) ((hf2 n (by omega)).trans g1) (Nat.le_of_ble_eq_true rfl) ?_
              refine J_up (fun A3 g3 o3 => ?_)
              refine J_aload_n dL_test_131 rfl rfl ?_
              refine J_getf dL_test_132 fl_L_41 g3 rfl ?_
              refine J_bipush (v := 26) dL_test_135 (by decide) ?_
              refine J_icmp_le (tgt := 156) dL_test_137 rfl (fun h137 => ?_) (fun h137 => ?_)
              · refine J_aload_n dL_test_156 rfl rfl ?_
                refine J_areturn (C := _) dL_test_157 rfl (by omega) (by omega) ?_
                exact ⟨n, rfl, Nat.le_refl _, by omega, ⟨_, _, (rsH_y (Nat.le_refl _)).trans g3, fun _ => ⟨_, rfl, by
                  show trA _ _ _ (if tsK x d < 25 then (smT (f + 1) (x * 3 + 7) (d + 1), smT (f + 1) (x * 5 + 1) (d + 1)) else (tsT (f + 1) (x * 3 + 5) (d + 1), tsT (f + 1) (x * 7 + 3) (d + 1))).1
                  rw [if_neg c25]
                  exact ht2.rs (Nat.le_succ n) (fun z c hz _ => o3 z (by omega))⟩, fun z => absurd c26 z.2.2⟩, fun z hz => (o3 z (by omega)).trans ((hf2 z (by omega)).trans (o1 z (by omega)))⟩
              · exfalso; simp only [i_lt, i_le, ekd, show (25 : Int32).toInt = 25 from rfl, show (26 : Int32).toInt = 26 from rfl] at h137; omega
          · exfalso; simp only [i_lt, i_le, ekd, show (25 : Int32).toInt = 25 from rfl, show (26 : Int32).toInt = 26 from rfl] at h70; omega
        · refine J_aload_n dL_test_64 rfl rfl ?_
          refine J_getf dL_test_65 fl_L_41 g1 rfl ?_
          refine J_bipush (v := 25) dL_test_68 (by decide) ?_
          refine J_icmp_ge (tgt := 107) dL_test_70 rfl (fun h70 => ?_) (fun h70 => ?_)
          · refine J_aload_n dL_test_107 rfl rfl ?_
            refine J_getf dL_test_108 fl_L_41 g1 rfl ?_
            refine J_bipush (v := 25) dL_test_111 (by decide) ?_
            refine J_icmp_le (tgt := 156) dL_test_113 rfl (fun h113 => ?_) (fun h113 => ?_)
            · exfalso; simp only [i_lt, i_le, ekd, show (25 : Int32).toInt = 25 from rfl, show (26 : Int32).toInt = 26 from rfl] at h113; omega
            · refine J_aload_n dL_test_116 rfl rfl ?_
              refine J_iload_n dL_test_117 rfl rfl ?_
              refine J_iconst (v := 3) dL_test_118 (by decide) ?_
              refine J_imul dL_test_119 ?_
              refine J_iconst (v := 5) dL_test_120 (by decide) ?_
              refine J_iadd dL_test_121 ?_
              refine J_iload_n dL_test_122 rfl rfl ?_
              refine J_iconst (v := 1) dL_test_123 (by decide) ?_
              refine J_iadd dL_test_124 ?_
              refine J_ltA (fun lt2 => ?_)
              rw [nI_1]
              refine J_callSg (As := [_, _]) dL_test_125 ml_L_60 cal_L_test rfl sm_L_test rfl (Nat.le_of_ble_eq_true rfl) ⟨by omega, by show 8 + (4 + 11) + _ ≤ _; omega⟩ ⟨by omega, by omega⟩ (IH A1 (n + 1) (d + 1) (x * 3 + 5) (by omega) (by omega) (by omega)) (fun v2 A2 n2 hn2 hQ => ?_) (fun _ _ _ _ hE => by obtain ⟨_, z, _⟩ := hE; exact nomatch z)
              obtain ⟨a2, e2, ha2, hb2, ht2, hf2⟩ := hQ
              cases e2
              refine J_putf dL_test_128 fp_L_53 (fun _ => ⟨rfl, rfl⟩) ((hf2 n (by omega)).trans g1) (Nat.le_of_ble_eq_true rfl) ?_
              refine J_up (fun A3 g3 o3 => ?_)
              refine J_aload_n dL_test_131 rfl rfl ?_
              refine J_getf dL_test_132 fl_L_41 g3 rfl ?_
              refine J_bipush (v := 26) dL_test_135 (by decide) ?_
              refine J_icmp_le (tgt := 156) dL_test_137 rfl (fun h137 => ?_) (fun h137 => ?_)
              · exfalso; simp only [i_lt, i_le, ekd, show (25 : Int32).toInt = 25 from rfl, show (26 : Int32).toInt = 26 from rfl] at h137; omega
              · refine J_aload_n dL_test_140 rfl rfl ?_
                refine J_iload_n dL_test_141 rfl rfl ?_
                refine J_bipush (v := 7) dL_test_142 (by decide) ?_
                refine J_imul dL_test_144 ?_
                refine J_iconst (v := 3) dL_test_145 (by decide) ?_
                refine J_iadd dL_test_146 ?_
                refine J_iload_n dL_test_147 rfl rfl ?_
                refine J_iconst (v := 1) dL_test_148 (by decide) ?_
                refine J_iadd dL_test_149 ?_
                refine J_ltA (fun lt4 => ?_)
                rw [nI_1]
                refine J_callSg (As := [_, _]) dL_test_150 ml_L_60 cal_L_test rfl sm_L_test rfl (Nat.le_of_ble_eq_true rfl) ⟨by omega, by show 8 + (4 + 11) + _ ≤ _; omega⟩ ⟨by omega, by omega⟩ (IH A3 n2 (d + 1) (x * 7 + 3) (by omega) (by omega) (by omega)) (fun v4 A4 n4 hn4 hQ => ?_) (fun _ _ _ _ hE => by obtain ⟨_, z, _⟩ := hE; exact nomatch z)
                obtain ⟨a4, e4, ha4, hb4, ht4, hf4⟩ := hQ
                cases e4
                refine J_putf dL_test_153 fp_L_57 (fun _ => ⟨rfl, rfl⟩) ((hf4 n (by omega)).trans g3) (Nat.le_of_ble_eq_true rfl) ?_
                refine J_up (fun A5 g5 o5 => ?_)
                refine J_aload_n dL_test_156 rfl rfl ?_
                refine J_areturn (C := _) dL_test_157 rfl (by omega) (by omega) ?_
                exact ⟨n, rfl, Nat.le_refl _, by omega, ⟨_, _, (rsH_y (Nat.le_refl _)).trans g5, fun _ => ⟨_, rfl, by
                  show trA _ _ _ (if tsK x d < 25 then (smT (f + 1) (x * 3 + 7) (d + 1), smT (f + 1) (x * 5 + 1) (d + 1)) else (tsT (f + 1) (x * 3 + 5) (d + 1), tsT (f + 1) (x * 7 + 3) (d + 1))).1
                  rw [if_neg c25]
                  exact ht2.rs (Nat.le_succ n) (fun z c hz hc => (o5 z (by omega)).trans ((hf4 z (lt4 z c ((o3 z (by omega)).trans hc))).trans (o3 z (by omega))))⟩, fun _ => ⟨_, rfl, by
                  show trA _ _ _ (if tsK x d < 25 then (smT (f + 1) (x * 3 + 7) (d + 1), smT (f + 1) (x * 5 + 1) (d + 1)) else (tsT (f + 1) (x * 3 + 5) (d + 1), tsT (f + 1) (x * 7 + 3) (d + 1))).2
                  rw [if_neg c25]
                  exact ht4.rs (by omega) (fun z c hz _ => o5 z (by omega))⟩⟩, fun z hz => (o5 z (by omega)).trans ((hf4 z (by omega)).trans ((o3 z (by omega)).trans ((hf2 z (by omega)).trans (o1 z (by omega)))))⟩
          · exfalso; simp only [i_lt, i_le, ekd, show (25 : Int32).toInt = 25 from rfl, show (26 : Int32).toInt = 26 from rfl] at h70; omega
  refine J_new (fs := [.int 0, .int 0, .null, .null]) dL_test_0 k_7 cl_L_32 ins_BeltRoundsLaw_Tree in_BeltRoundsLaw_Tree (fun q hq => by rcases (show q = 0 ∨ q = 1 ∨ q = 2 ∨ q = 3 by omega) with rfl | rfl | rfl | rfl <;> rfl) (fun v hv q h => by subst h; simp at hv) (by omega) (by omega) ?_
  refine J_up (fun A1 g1 o1 => ?_)
  refine J_dup dL_test_3 rfl ?_
  refine J_callI (As := []) dL_test_4 (Or.inr ⟨_, ml_L_34⟩) cal_X8_init rfl rfl rfl im_X8_init rfl (Nat.le_of_ble_eq_true rfl) ⟨by omega, by show 8 + (1 + 11) + _ ≤ _; omega⟩ ⟨by omega, by omega⟩ (c_X8_init hst) (fun v9 A9 n9 _ hQ => ?_)
  obtain ⟨e9, hn9, hA9⟩ := hQ
  subst A9
  subst n9
  cases e9
  refine J_astore_n (L' := [(2, _), (0, _), (1, _)]) dL_test_7 rfl (by decide) rfl ?_
  refine J_iload_n dL_test_8 rfl rfl ?_
  refine J_iconst (v := 1) dL_test_9 (by decide) ?_
  refine J_ishr dL_test_10 ?_
  refine J_bipush (v := 13) dL_test_11 (by decide) ?_
  refine J_callSr (As := [_, _]) dL_test_13 ml_L_35 cal_L_below sm_L_below rfl rfl (Nat.le_of_ble_eq_true rfl) ⟨by omega, by show 8 + (2 + 11) + _ ≤ _; omega⟩ ⟨by omega, by omega⟩ (c_L_below hst (x >>> ((1 : Int32) &&& 31)) (m := 13) (by decide) (by decide)) ?_
  refine J_istore_n (L' := [(3, _), (2, _), (0, _), (1, _)]) dL_test_16 rfl (by decide) rfl ?_
  refine J_aload_n dL_test_17 rfl rfl ?_
  refine J_iload_n dL_test_18 rfl rfl ?_
  refine J_bipush (v := 8) dL_test_19 (by decide) ?_
  refine J_icmp_lt (tgt := 35) dL_test_21 rfl (fun h21 => ?_) (fun h21 => ?_)
  · have q21 := h21
    simp only [i_lt, i_le, i_1, i_8, i_9, ev, ed] at q21
    refine J_bipush (v := 20) dL_test_35 (by decide) ?_
    refine J_iload_n dL_test_37 rfl rfl ?_
    refine J_iconst (v := 5) dL_test_38 (by decide) ?_
    refine J_irem dL_test_39 (by decide) ?_
    rw [nI_mod (Nat.lt_trans (blw_lt (by decide)) (by decide)) (by decide) (show (5 : Int32) = nI 5 from rfl)]
    refine J_iadd dL_test_40 ?_
    refine J_goto (tgt := 61) dL_test_41 rfl ?_
    have ek : (20 : Int32) + nI (blw (shr x 1) 13 % 5) = nI (tsK x d) := by unfold tsK; first | (rw [if_pos (Or.inl (by omega))]; exact nI_add 20 _) | (rw [if_pos (Or.inr ⟨by omega, by omega⟩)]; exact nI_add 20 _)
    rw [ek]
    refine J_putf dL_test_61 fp_L_41 (fun _ => ⟨rfl, rfl⟩) g1 (Nat.le_of_ble_eq_true rfl) ?_
    refine J_up (fun A2 g2 o2 => ?_)
    refine xx_J.pick [0, 1, 2, 3] rfl ?_
    exact r64 _ _ _ (by omega) g2 (fun z hz => (o2 z hz).trans (o1 z hz))
  · have q21 := h21
    simp only [i_lt, i_le, i_1, i_8, i_9, ev, ed] at q21
    refine J_iload_n dL_test_24 rfl rfl ?_
    refine J_iconst (v := 1) dL_test_25 (by decide) ?_
    refine J_icmp_le (tgt := 44) dL_test_26 rfl (fun h26 => ?_) (fun h26 => ?_)
    · have q26 := h26
      simp only [i_lt, i_le, i_1, i_8, i_9, ev, ed] at q26
      refine J_iload_n dL_test_44 rfl rfl ?_
      refine J_bipush (v := 9) dL_test_45 (by decide) ?_
      refine J_icmp_ge (tgt := 55) dL_test_47 rfl (fun h47 => ?_) (fun h47 => ?_)
      · have q47 := h47
        simp only [i_lt, i_le, i_1, i_8, i_9, ev, ed] at q47
        refine J_bipush (v := 26) dL_test_55 (by decide) ?_
        refine J_iload_n dL_test_57 rfl rfl ?_
        refine J_iconst (v := 3) dL_test_58 (by decide) ?_
        refine J_irem dL_test_59 (by decide) ?_
        rw [nI_mod (Nat.lt_trans (blw_lt (by decide)) (by decide)) (by decide) (show (3 : Int32) = nI 3 from rfl)]
        refine J_iadd dL_test_60 ?_
        have ek : (26 : Int32) + nI (blw (shr x 1) 13 % 3) = nI (tsK x d) := by unfold tsK; rw [if_neg (by omega), if_neg (by omega)]; exact nI_add 26 _
        rw [ek]
        refine J_putf dL_test_61 fp_L_41 (fun _ => ⟨rfl, rfl⟩) g1 (Nat.le_of_ble_eq_true rfl) ?_
        refine J_up (fun A2 g2 o2 => ?_)
        refine xx_J.pick [0, 1, 2, 3] rfl ?_
        exact r64 _ _ _ (by omega) g2 (fun z hz => (o2 z hz).trans (o1 z hz))
      · have q47 := h47
        simp only [i_lt, i_le, i_1, i_8, i_9, ev, ed] at q47
        refine J_bipush (v := 25) dL_test_50 (by decide) ?_
        refine J_goto (tgt := 61) dL_test_52 rfl ?_
        have ek : (25 : Int32) = nI (tsK x d) := by unfold tsK; rw [if_neg (by omega), if_pos (by omega)]; rfl
        rw [ek]
        refine J_putf dL_test_61 fp_L_41 (fun _ => ⟨rfl, rfl⟩) g1 (Nat.le_of_ble_eq_true rfl) ?_
        refine J_up (fun A2 g2 o2 => ?_)
        refine xx_J.pick [0, 1, 2, 3] rfl ?_
        exact r64 _ _ _ (by omega) g2 (fun z hz => (o2 z hz).trans (o1 z hz))
    · have q26 := h26
      simp only [i_lt, i_le, i_1, i_8, i_9, ev, ed] at q26
      refine J_iload_n dL_test_29 rfl rfl ?_
      refine J_bipush (v := 8) dL_test_30 (by decide) ?_
      refine J_icmp_le (tgt := 44) dL_test_32 rfl (fun h32 => ?_) (fun h32 => ?_)
      · have q32 := h32
        simp only [i_lt, i_le, i_1, i_8, i_9, ev, ed] at q32
        refine J_iload_n dL_test_44 rfl rfl ?_
        refine J_bipush (v := 9) dL_test_45 (by decide) ?_
        refine J_icmp_ge (tgt := 55) dL_test_47 rfl (fun h47 => ?_) (fun h47 => ?_)
        · have q47 := h47
          simp only [i_lt, i_le, i_1, i_8, i_9, ev, ed] at q47
          refine J_bipush (v := 26) dL_test_55 (by decide) ?_
          refine J_iload_n dL_test_57 rfl rfl ?_
          refine J_iconst (v := 3) dL_test_58 (by decide) ?_
          refine J_irem dL_test_59 (by decide) ?_
          rw [nI_mod (Nat.lt_trans (blw_lt (by decide)) (by decide)) (by decide) (show (3 : Int32) = nI 3 from rfl)]
          refine J_iadd dL_test_60 ?_
          have ek : (26 : Int32) + nI (blw (shr x 1) 13 % 3) = nI (tsK x d) := by unfold tsK; rw [if_neg (by omega), if_neg (by omega)]; exact nI_add 26 _
          rw [ek]
          refine J_putf dL_test_61 fp_L_41 (fun _ => ⟨rfl, rfl⟩) g1 (Nat.le_of_ble_eq_true rfl) ?_
          refine J_up (fun A2 g2 o2 => ?_)
          refine xx_J.pick [0, 1, 2, 3] rfl ?_
          exact r64 _ _ _ (by omega) g2 (fun z hz => (o2 z hz).trans (o1 z hz))
        · have q47 := h47
          simp only [i_lt, i_le, i_1, i_8, i_9, ev, ed] at q47
          refine J_bipush (v := 25) dL_test_50 (by decide) ?_
          refine J_goto (tgt := 61) dL_test_52 rfl ?_
          have ek : (25 : Int32) = nI (tsK x d) := by unfold tsK; rw [if_neg (by omega), if_pos (by omega)]; rfl
          rw [ek]
          refine J_putf dL_test_61 fp_L_41 (fun _ => ⟨rfl, rfl⟩) g1 (Nat.le_of_ble_eq_true rfl) ?_
          refine J_up (fun A2 g2 o2 => ?_)
          refine xx_J.pick [0, 1, 2, 3] rfl ?_
          exact r64 _ _ _ (by omega) g2 (fun z hz => (o2 z hz).trans (o1 z hz))
      · have q32 := h32
        simp only [i_lt, i_le, i_1, i_8, i_9, ev, ed] at q32
        refine J_bipush (v := 20) dL_test_35 (by decide) ?_
        refine J_iload_n dL_test_37 rfl rfl ?_
        refine J_iconst (v := 5) dL_test_38 (by decide) ?_
        refine J_irem dL_test_39 (by decide) ?_
        rw [nI_mod (Nat.lt_trans (blw_lt (by decide)) (by decide)) (by decide) (show (5 : Int32) = nI 5 from rfl)]
        refine J_iadd dL_test_40 ?_
        refine J_goto (tgt := 61) dL_test_41 rfl ?_
        have ek : (20 : Int32) + nI (blw (shr x 1) 13 % 5) = nI (tsK x d) := by unfold tsK; first | (rw [if_pos (Or.inl (by omega))]; exact nI_add 20 _) | (rw [if_pos (Or.inr ⟨by omega, by omega⟩)]; exact nI_add 20 _)
        rw [ek]
        refine J_putf dL_test_61 fp_L_41 (fun _ => ⟨rfl, rfl⟩) g1 (Nat.le_of_ble_eq_true rfl) ?_
        refine J_up (fun A2 g2 o2 => ?_)
        refine xx_J.pick [0, 1, 2, 3] rfl ?_
        exact r64 _ _ _ (by omega) g2 (fun z hz => (o2 z hz).trans (o1 z hz))
theorem test_all (hst : l.stackTraces = false) : ∀ f, TsC G l f := by
  intro f
  induction f with
  | zero => intro A n d x h1 h2 h3; omega
  | succ f ih => exact test_s hst ih
end XTS
