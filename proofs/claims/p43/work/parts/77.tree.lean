/-! TREES OF TESTS: what stands, what they come to -/
section XTR
variable {G : xx_G} {l : Launch} {A A' : xx_H} {n : Nat} {k j i q s e t d : Nat}
/-- trees of at most so many storeys: kind, number, both parts -/
def Tr : Nat → Type
  | 0 => Unit
  | f + 1 => (Nat × Nat) × (Tr f × Tr f)
def hasA (kd : Nat) : Prop := 8 ≤ kd ∧ ¬ kd = 25
def hasB (kd : Nat) : Prop := 9 ≤ kd ∧ ¬ kd = 25 ∧ ¬ kd = 26
/-- the tree stands at v -/
def trA (A : xx_H) : (f : Nat) → Nat → Tr f → Prop
  | 0, _, _ => False
  | f + 1, v, tr => ∃ ra rb : Value, A v = some (.inr (7, [.int (nI tr.1.1), .int (nI tr.1.2), ra, rb])) ∧ (hasA tr.1.1 → ∃ a, ra = .ref a ∧ trA A f a tr.2.1) ∧ (hasB tr.1.1 → ∃ b, rb = .ref b ∧ trA A f b tr.2.2)
/-- kinds and numbers are as they should be -/
def trK : (f : Nat) → Tr f → Prop
  | 0, _ => True
  | f + 1, tr => tr.1.1 < 29 ∧ tr.1.2 < 1000000 ∧ (¬ tr.1.1 = 0 → tr.1.2 < 2) ∧ (hasA tr.1.1 → trK f tr.2.1) ∧ (hasB tr.1.1 → trK f tr.2.2) ∧ ¬ (14 < tr.1.1 ∧ tr.1.1 < 20)
def twV (kd : Nat) (x y : Int32) : Int32 := match kd with
  | 9 => x + y
  | 10 => x - y
  | 11 => x * y
  | 12 => if y = 0 then 0 else if y = -1 then -x else x / y
  | 13 => if x < y then x else y
  | 14 => if x < y then y else x
  | 20 => if x < y then 1 else 0
  | 21 => if y < x then 1 else 0
  | 22 => if x = y then 1 else 0
  | 23 => if y < x then 0 else 1
  | 24 => if x < y then 0 else 1
  | 27 => if x + y = 2 then 1 else 0
  | _ => if 0 < x + y then 1 else 0
/-- what it comes to for a bout -/
def trV (S : sS) (b : Nat → Int32) : (f : Nat) → Tr f → Int32
  | 0, _ => 0
  | f + 1, tr => if tr.1.1 = 0 then nI tr.1.2 else if tr.1.1 = 1 then b 0 else if tr.1.1 < 8 then ofS S (nI tr.1.1) (b (1 + tr.1.2)) else if tr.1.1 = 25 then (if 0 < mtS S (b 1) (b 2) (b 0) then 1 else 0) else if tr.1.1 = 8 then -(trV S b f tr.2.1) else if tr.1.1 = 26 then 1 - trV S b f tr.2.1 else twV tr.1.1 (trV S b f tr.2.1) (trV S b f tr.2.2)
theorem trA.up : ∀ (f : Nat) (v : Nat) (tr : Tr f), trA A f v tr → (∀ z c, A z = some (.inr (7, c)) → A' z = A z) → trA A' f v tr := by
  intro f
  induction f with
  | zero => intro v tr h _; exact h
  | succ f ih =>
    intro v tr h u
    obtain ⟨ra, rb, h1, h2, h3⟩ := h
    refine ⟨ra, rb, (u _ _ h1).trans h1, fun z => ?_, fun z => ?_⟩
    · obtain ⟨a, e1, e2⟩ := h2 z; exact ⟨a, e1, ih _ _ e2 u⟩
    · obtain ⟨a, e1, e2⟩ := h3 z; exact ⟨a, e1, ih _ _ e2 u⟩
set_option maxHeartbeats 4000000 in
theorem c_X8_ofTwo (hst : l.stackTraces = false) {v kd : Nat} {rn ra rb : Value} (hA : A v = some (.inr (7, [.int (nI kd), rn, ra, rb]))) (hk2 : 9 ≤ kd ∧ kd < 29 ∧ ¬ kd = 25 ∧ ¬ kd = 26) (x y : Int32) : xx_C G l yX8_ofTwo mX8_ofTwo 0 0 0 0 [.ref v, .int x, .int y] A n (xx_ro (some (.int (twV kd x y))) A n) := by
  have ek : (nI kd).toInt = kd := i_n (by omega)
  refine J_C hst (by decide +kernel) rfl rfl rfl (Nat.le_of_ble_eq_true rfl) ?_
  show xx_J _ _ _ _ _ _ _ _ 0 [(0, _), (1, _), (2, _)] [] _ _ _ _
  refine J_aload_n dX8_ofTwo_0 rfl rfl ?_
  refine J_getf dX8_ofTwo_1 fl_X8_7 hA rfl ?_
  have hsw4 : (nI kd).toInt = 9 ∨ (nI kd).toInt = 10 ∨ (nI kd).toInt = 11 ∨ (nI kd).toInt = 12 ∨ (nI kd).toInt = 13 ∨ (nI kd).toInt = 14 ∨ (nI kd).toInt = 15 ∨ (nI kd).toInt = 16 ∨ (nI kd).toInt = 17 ∨ (nI kd).toInt = 18 ∨ (nI kd).toInt = 19 ∨ (nI kd).toInt = 20 ∨ (nI kd).toInt = 21 ∨ (nI kd).toInt = 22 ∨ (nI kd).toInt = 23 ∨ (nI kd).toInt = 24 ∨ (nI kd).toInt = 25 ∨ (nI kd).toInt = 26 ∨ (nI kd).toInt = 27 ∨ ((nI kd).toInt < 9 ∨ 27 < (nI kd).toInt) := by omega
  rcases hsw4 with hs4 | hs4 | hs4 | hs4 | hs4 | hs4 | hs4 | hs4 | hs4 | hs4 | hs4 | hs4 | hs4 | hs4 | hs4 | hs4 | hs4 | hs4 | hs4 | hs4
  · refine J_tableIn (tgt := 96) dX8_ofTwo_4 (by omega) (by omega) (by rw [hs4]; rfl) rfl ?_
    have e9 : kd = 9 := by omega
    refine J_iload_n dX8_ofTwo_96 rfl rfl ?_
    refine J_iload_n dX8_ofTwo_97 rfl rfl ?_
    refine J_iadd dX8_ofTwo_98 ?_
    refine J_ireturn dX8_ofTwo_99 rfl rfl (by decide) (by decide) ?_
    subst e9
    refine ⟨congrArg (fun v => Sum.inl (some (Value.int v))) ?_, rfl, rfl⟩
    first | rfl | (unfold twV; first | (exact (if_pos (by first | assumption | exact Int32.not_le.mp (by assumption) | (apply Classical.byContradiction; assumption))).symm) | (exact (if_neg (by first | assumption | exact Int32.not_lt.mpr (by assumption))).symm) | (rw [if_neg (by assumption)]; first | exact (if_pos (by assumption)).symm | exact (if_neg (by assumption)).symm))
  · refine J_tableIn (tgt := 100) dX8_ofTwo_4 (by omega) (by omega) (by rw [hs4]; rfl) rfl ?_
    have e9 : kd = 10 := by omega
    refine J_iload_n dX8_ofTwo_100 rfl rfl ?_
    refine J_iload_n dX8_ofTwo_101 rfl rfl ?_
    refine J_isub dX8_ofTwo_102 ?_
    refine J_ireturn dX8_ofTwo_103 rfl rfl (by decide) (by decide) ?_
    subst e9
    refine ⟨congrArg (fun v => Sum.inl (some (Value.int v))) ?_, rfl, rfl⟩
    first | rfl | (unfold twV; first | (exact (if_pos (by first | assumption | exact Int32.not_le.mp (by assumption) | (apply Classical.byContradiction; assumption))).symm) | (exact (if_neg (by first | assumption | exact Int32.not_lt.mpr (by assumption))).symm) | (rw [if_neg (by assumption)]; first | exact (if_pos (by assumption)).symm | exact (if_neg (by assumption)).symm))
  · refine J_tableIn (tgt := 104) dX8_ofTwo_4 (by omega) (by omega) (by rw [hs4]; rfl) rfl ?_
    have e9 : kd = 11 := by omega
    refine J_iload_n dX8_ofTwo_104 rfl rfl ?_
    refine J_iload_n dX8_ofTwo_105 rfl rfl ?_
    refine J_imul dX8_ofTwo_106 ?_
    refine J_ireturn dX8_ofTwo_107 rfl rfl (by decide) (by decide) ?_
    subst e9
    refine ⟨congrArg (fun v => Sum.inl (some (Value.int v))) ?_, rfl, rfl⟩
    first | rfl | (unfold twV; first | (exact (if_pos (by first | assumption | exact Int32.not_le.mp (by assumption) | (apply Classical.byContradiction; assumption))).symm) | (exact (if_neg (by first | assumption | exact Int32.not_lt.mpr (by assumption))).symm) | (rw [if_neg (by assumption)]; first | exact (if_pos (by assumption)).symm | exact (if_neg (by assumption)).symm))
  · refine J_tableIn (tgt := 108) dX8_ofTwo_4 (by omega) (by omega) (by rw [hs4]; rfl) rfl ?_
    have e9 : kd = 12 := by omega
    refine J_iload_n dX8_ofTwo_108 rfl rfl ?_
    refine J_if_ne (tgt := 116) dX8_ofTwo_109 rfl (fun h109 => ?_) (fun h109 => ?_)
    · refine J_iload_n dX8_ofTwo_116 rfl rfl ?_
      refine J_iconst (v := -1) dX8_ofTwo_117 (by decide) ?_
      refine J_icmp_ne (tgt := 126) dX8_ofTwo_118 rfl (fun h118 => ?_) (fun h118 => ?_)
      · refine J_iload_n dX8_ofTwo_126 rfl rfl ?_
        refine J_iload_n dX8_ofTwo_127 rfl rfl ?_
        refine J_idiv dX8_ofTwo_128 (by assumption) ?_
        refine J_ireturn dX8_ofTwo_129 rfl rfl (by decide) (by decide) ?_
        subst e9
        refine ⟨congrArg (fun v => Sum.inl (some (Value.int v))) ?_, rfl, rfl⟩
        first | rfl | (unfold twV; first | (exact (if_pos (by first | assumption | exact Int32.not_le.mp (by assumption) | (apply Classical.byContradiction; assumption))).symm) | (exact (if_neg (by first | assumption | exact Int32.not_lt.mpr (by assumption))).symm) | (rw [if_neg (by assumption)]; first | exact (if_pos (by assumption)).symm | exact (if_neg (by assumption)).symm))
      · refine J_iload_n dX8_ofTwo_121 rfl rfl ?_
        refine J_ineg dX8_ofTwo_122 ?_
        refine J_goto (tgt := 129) dX8_ofTwo_123 rfl ?_
        refine J_ireturn dX8_ofTwo_129 rfl rfl (by decide) (by decide) ?_
        subst e9
        refine ⟨congrArg (fun v => Sum.inl (some (Value.int v))) ?_, rfl, rfl⟩
        first | rfl | (unfold twV; first | (exact (if_pos (by first | assumption | exact Int32.not_le.mp (by assumption) | (apply Classical.byContradiction; assumption))).symm) | (exact (if_neg (by first | assumption | exact Int32.not_lt.mpr (by assumption))).symm) | (rw [if_neg (by assumption)]; first | exact (if_pos (by assumption)).symm | exact (if_neg (by assumption)).symm))
    · refine J_iconst (v := 0) dX8_ofTwo_112 (by decide) ?_
      refine J_goto (tgt := 129) dX8_ofTwo_113 rfl ?_
      refine J_ireturn dX8_ofTwo_129 rfl rfl (by decide) (by decide) ?_
      subst e9
      refine ⟨congrArg (fun v => Sum.inl (some (Value.int v))) ?_, rfl, rfl⟩
      first | rfl | (unfold twV; first | (exact (if_pos (by first | assumption | exact Int32.not_le.mp (by assumption) | (apply Classical.byContradiction; assumption))).symm) | (exact (if_neg (by first | assumption | exact Int32.not_lt.mpr (by assumption))).symm) | (rw [if_neg (by assumption)]; first | exact (if_pos (by assumption)).symm | exact (if_neg (by assumption)).symm))
  · refine J_tableIn (tgt := 130) dX8_ofTwo_4 (by omega) (by omega) (by rw [hs4]; rfl) rfl ?_
    have e9 : kd = 13 := by omega
    refine J_iload_n dX8_ofTwo_130 rfl rfl ?_
    refine J_iload_n dX8_ofTwo_131 rfl rfl ?_
    refine J_icmp_ge (tgt := 139) dX8_ofTwo_132 rfl (fun h132 => ?_) (fun h132 => ?_)
    · refine J_iload_n dX8_ofTwo_139 rfl rfl ?_
      refine J_ireturn dX8_ofTwo_140 rfl rfl (by decide) (by decide) ?_
      subst e9
      refine ⟨congrArg (fun v => Sum.inl (some (Value.int v))) ?_, rfl, rfl⟩
      first | rfl | (unfold twV; first | (exact (if_pos (by first | assumption | exact Int32.not_le.mp (by assumption) | (apply Classical.byContradiction; assumption))).symm) | (exact (if_neg (by first | assumption | exact Int32.not_lt.mpr (by assumption))).symm) | (rw [if_neg (by assumption)]; first | exact (if_pos (by assumption)).symm | exact (if_neg (by assumption)).symm))
    · refine J_iload_n dX8_ofTwo_135 rfl rfl ?_
      refine J_goto (tgt := 140) dX8_ofTwo_136 rfl ?_
      refine J_ireturn dX8_ofTwo_140 rfl rfl (by decide) (by decide) ?_
      subst e9
      refine ⟨congrArg (fun v => Sum.inl (some (Value.int v))) ?_, rfl, rfl⟩
      first | rfl | (unfold twV; first | (exact (if_pos (by first | assumption | exact Int32.not_le.mp (by assumption) | (apply Classical.byContradiction; assumption))).symm) | (exact (if_neg (by first | assumption | exact Int32.not_lt.mpr (by assumption))).symm) | (rw [if_neg (by assumption)]; first | exact (if_pos (by assumption)).symm | exact (if_neg (by assumption)).symm))
  · refine J_tableIn (tgt := 141) dX8_ofTwo_4 (by omega) (by omega) (by rw [hs4]; rfl) rfl ?_
    have e9 : kd = 14 := by omega
    refine J_iload_n dX8_ofTwo_141 rfl rfl ?_
    refine J_iload_n dX8_ofTwo_142 rfl rfl ?_
    refine J_icmp_ge (tgt := 150) dX8_ofTwo_143 rfl (fun h143 => ?_) (fun h143 => ?_)
    · refine J_iload_n dX8_ofTwo_150 rfl rfl ?_
      refine J_ireturn dX8_ofTwo_151 rfl rfl (by decide) (by decide) ?_
      subst e9
      refine ⟨congrArg (fun v => Sum.inl (some (Value.int v))) ?_, rfl, rfl⟩
      first | rfl | (unfold twV; first | (exact (if_pos (by first | assumption | exact Int32.not_le.mp (by assumption) | (apply Classical.byContradiction; assumption))).symm) | (exact (if_neg (by first | assumption | exact Int32.not_lt.mpr (by assumption))).symm) | (rw [if_neg (by assumption)]; first | exact (if_pos (by assumption)).symm | exact (if_neg (by assumption)).symm))
    · refine J_iload_n dX8_ofTwo_146 rfl rfl ?_
      refine J_goto (tgt := 151) dX8_ofTwo_147 rfl ?_
      refine J_ireturn dX8_ofTwo_151 rfl rfl (by decide) (by decide) ?_
      subst e9
      refine ⟨congrArg (fun v => Sum.inl (some (Value.int v))) ?_, rfl, rfl⟩
      first | rfl | (unfold twV; first | (exact (if_pos (by first | assumption | exact Int32.not_le.mp (by assumption) | (apply Classical.byContradiction; assumption))).symm) | (exact (if_neg (by first | assumption | exact Int32.not_lt.mpr (by assumption))).symm) | (rw [if_neg (by assumption)]; first | exact (if_pos (by assumption)).symm | exact (if_neg (by assumption)).symm))
  · refine J_tableIn (tgt := 220) dX8_ofTwo_4 (by omega) (by omega) (by rw [hs4]; rfl) rfl ?_
    have e9 : kd = 15 := by omega
    refine J_iload_n dX8_ofTwo_220 rfl rfl ?_
    refine J_iload_n dX8_ofTwo_221 rfl rfl ?_
    refine J_iadd dX8_ofTwo_222 ?_
    refine J_if_le (tgt := 230) dX8_ofTwo_223 rfl (fun h223 => ?_) (fun h223 => ?_)
    · refine J_iconst (v := 0) dX8_ofTwo_230 (by decide) ?_
      refine J_ireturn dX8_ofTwo_231 rfl rfl (by decide) (by decide) ?_
      subst e9
      refine ⟨congrArg (fun v => Sum.inl (some (Value.int v))) ?_, rfl, rfl⟩
      first | rfl | (unfold twV; first | (exact (if_pos (by first | assumption | exact Int32.not_le.mp (by assumption) | (apply Classical.byContradiction; assumption))).symm) | (exact (if_neg (by first | assumption | exact Int32.not_lt.mpr (by assumption))).symm) | (rw [if_neg (by assumption)]; first | exact (if_pos (by assumption)).symm | exact (if_neg (by assumption)).symm))
    · refine J_iconst (v := 1) dX8_ofTwo_226 (by decide) ?_
      refine J_goto (tgt := 231) dX8_ofTwo_227 rfl ?_
      refine J_ireturn dX8_ofTwo_231 rfl rfl (by decide) (by decide) ?_
      subst e9
      refine ⟨congrArg (fun v => Sum.inl (some (Value.int v))) ?_, rfl, rfl⟩
      first | rfl | (unfold twV; first | (exact (if_pos (by first | assumption | exact Int32.not_le.mp (by assumption) | (apply Classical.byContradiction; assumption))).symm) | (exact (if_neg (by first | assumption | exact Int32.not_lt.mpr (by assumption))).symm) | (rw [if_neg (by assumption)]; first | exact (if_pos (by assumption)).symm | exact (if_neg (by assumption)).symm))
  · refine J_tableIn (tgt := 220) dX8_ofTwo_4 (by omega) (by omega) (by rw [hs4]; rfl) rfl ?_
    have e9 : kd = 16 := by omega
    refine J_iload_n dX8_ofTwo_220 rfl rfl ?_
    refine J_iload_n dX8_ofTwo_221 rfl rfl ?_
    refine J_iadd dX8_ofTwo_222 ?_
    refine J_if_le (tgt := 230) dX8_ofTwo_223 rfl (fun h223 => ?_) (fun h223 => ?_)
    · refine J_iconst (v := 0) dX8_ofTwo_230 (by decide) ?_
      refine J_ireturn dX8_ofTwo_231 rfl rfl (by decide) (by decide) ?_
      subst e9
      refine ⟨congrArg (fun v => Sum.inl (some (Value.int v))) ?_, rfl, rfl⟩
      first | rfl | (unfold twV; first | (exact (if_pos (by first | assumption | exact Int32.not_le.mp (by assumption) | (apply Classical.byContradiction; assumption))).symm) | (exact (if_neg (by first | assumption | exact Int32.not_lt.mpr (by assumption))).symm) | (rw [if_neg (by assumption)]; first | exact (if_pos (by assumption)).symm | exact (if_neg (by assumption)).symm))
    · refine J_iconst (v := 1) dX8_ofTwo_226 (by decide) ?_
      refine J_goto (tgt := 231) dX8_ofTwo_227 rfl ?_
      refine J_ireturn dX8_ofTwo_231 rfl rfl (by decide) (by decide) ?_
      subst e9
      refine ⟨congrArg (fun v => Sum.inl (some (Value.int v))) ?_, rfl, rfl⟩
      first | rfl | (unfold twV; first | (exact (if_pos (by first | assumption | exact Int32.not_le.mp (by assumption) | (apply Classical.byContradiction; assumption))).symm) | (exact (if_neg (by first | assumption | exact Int32.not_lt.mpr (by assumption))).symm) | (rw [if_neg (by assumption)]; first | exact (if_pos (by assumption)).symm | exact (if_neg (by assumption)).symm))
  · refine J_tableIn (tgt := 220) dX8_ofTwo_4 (by omega) (by omega) (by rw [hs4]; rfl) rfl ?_
    have e9 : kd = 17 := by omega
    refine J_iload_n dX8_ofTwo_220 rfl rfl ?_
    refine J_iload_n dX8_ofTwo_221 rfl rfl ?_
    refine J_iadd dX8_ofTwo_222 ?_
    refine J_if_le (tgt := 230) dX8_ofTwo_223 rfl (fun h223 => ?_) (fun h223 => ?_)
    · refine J_iconst (v := 0) dX8_ofTwo_230 (by decide) ?_
      refine J_ireturn dX8_ofTwo_231 rfl rfl (by decide) (by decide) ?_
      subst e9
      refine ⟨congrArg (fun v => Sum.inl (some (Value.int v))) ?_, rfl, rfl⟩
      first | rfl | (unfold twV; first | (exact (if_pos (by first | assumption | exact Int32.not_le.mp (by assumption) | (apply Classical.byContradiction; assumption))).symm) | (exact (if_neg (by first | assumption | exact Int32.not_lt.mpr (by assumption))).symm) | (rw [if_neg (by assumption)]; first | exact (if_pos (by assumption)).symm | exact (if_neg (by assumption)).symm))
    · refine J_iconst (v := 1) dX8_ofTwo_226 (by decide) ?_
      refine J_goto (tgt := 231) dX8_ofTwo_227 rfl ?_
      refine J_ireturn dX8_ofTwo_231 rfl rfl (by decide) (by decide) ?_
      subst e9
      refine ⟨congrArg (fun v => Sum.inl (some (Value.int v))) ?_, rfl, rfl⟩
      first | rfl | (unfold twV; first | (exact (if_pos (by first | assumption | exact Int32.not_le.mp (by assumption) | (apply Classical.byContradiction; assumption))).symm) | (exact (if_neg (by first | assumption | exact Int32.not_lt.mpr (by assumption))).symm) | (rw [if_neg (by assumption)]; first | exact (if_pos (by assumption)).symm | exact (if_neg (by assumption)).symm))
  · refine J_tableIn (tgt := 220) dX8_ofTwo_4 (by omega) (by omega) (by rw [hs4]; rfl) rfl ?_
    have e9 : kd = 18 := by omega
    refine J_iload_n dX8_ofTwo_220 rfl rfl ?_
    refine J_iload_n dX8_ofTwo_221 rfl rfl ?_
    refine J_iadd dX8_ofTwo_222 ?_
    refine J_if_le (tgt := 230) dX8_ofTwo_223 rfl (fun h223 => ?_) (fun h223 => ?_)
    · refine J_iconst (v := 0) dX8_ofTwo_230 (by decide) ?_
      refine J_ireturn dX8_ofTwo_231 rfl rfl (by decide) (by decide) ?_
      subst e9
      refine ⟨congrArg (fun v => Sum.inl (some (Value.int v))) ?_, rfl, rfl⟩
      first | rfl | (unfold twV; first | (exact (if_pos (by first | assumption | exact Int32.not_le.mp (by assumption) | (apply Classical.byContradiction; assumption))).symm) | (exact (if_neg (by first | assumption | exact Int32.not_lt.mpr (by assumption))).symm) | (rw [if_neg (by assumption)]; first | exact (if_pos (by assumption)).symm | exact (if_neg (by assumption)).symm))
    · refine J_iconst (v := 1) dX8_ofTwo_226 (by decide) ?_
      refine J_goto (tgt := 231) dX8_ofTwo_227 rfl ?_
      refine J_ireturn dX8_ofTwo_231 rfl rfl (by decide) (by decide) ?_
      subst e9
      refine ⟨congrArg (fun v => Sum.inl (some (Value.int v))) ?_, rfl, rfl⟩
      first | rfl | (unfold twV; first | (exact (if_pos (by first | assumption | exact Int32.not_le.mp (by assumption) | (apply Classical.byContradiction; assumption))).symm) | (exact (if_neg (by first | assumption | exact Int32.not_lt.mpr (by assumption))).symm) | (rw [if_neg (by assumption)]; first | exact (if_pos (by assumption)).symm | exact (if_neg (by assumption)).symm))
  · refine J_tableIn (tgt := 220) dX8_ofTwo_4 (by omega) (by omega) (by rw [hs4]; rfl) rfl ?_
    have e9 : kd = 19 := by omega
    refine J_iload_n dX8_ofTwo_220 rfl rfl ?_
    refine J_iload_n dX8_ofTwo_221 rfl rfl ?_
    refine J_iadd dX8_ofTwo_222 ?_
    refine J_if_le (tgt := 230) dX8_ofTwo_223 rfl (fun h223 => ?_) (fun h223 => ?_)
    · refine J_iconst (v := 0) dX8_ofTwo_230 (by decide) ?_
      refine J_ireturn dX8_ofTwo_231 rfl rfl (by decide) (by decide) ?_
      subst e9
      refine ⟨congrArg (fun v => Sum.inl (some (Value.int v))) ?_, rfl, rfl⟩
      first | rfl | (unfold twV; first | (exact (if_pos (by first | assumption | exact Int32.not_le.mp (by assumption) | (apply Classical.byContradiction; assumption))).symm) | (exact (if_neg (by first | assumption | exact Int32.not_lt.mpr (by assumption))).symm) | (rw [if_neg (by assumption)]; first | exact (if_pos (by assumption)).symm | exact (if_neg (by assumption)).symm))
    · refine J_iconst (v := 1) dX8_ofTwo_226 (by decide) ?_
      refine J_goto (tgt := 231) dX8_ofTwo_227 rfl ?_
      refine J_ireturn dX8_ofTwo_231 rfl rfl (by decide) (by decide) ?_
      subst e9
      refine ⟨congrArg (fun v => Sum.inl (some (Value.int v))) ?_, rfl, rfl⟩
      first | rfl | (unfold twV; first | (exact (if_pos (by first | assumption | exact Int32.not_le.mp (by assumption) | (apply Classical.byContradiction; assumption))).symm) | (exact (if_neg (by first | assumption | exact Int32.not_lt.mpr (by assumption))).symm) | (rw [if_neg (by assumption)]; first | exact (if_pos (by assumption)).symm | exact (if_neg (by assumption)).symm))
  · refine J_tableIn (tgt := 152) dX8_ofTwo_4 (by omega) (by omega) (by rw [hs4]; rfl) rfl ?_
    have e9 : kd = 20 := by omega
    refine J_iload_n dX8_ofTwo_152 rfl rfl ?_
    refine J_iload_n dX8_ofTwo_153 rfl rfl ?_
    refine J_icmp_ge (tgt := 161) dX8_ofTwo_154 rfl (fun h154 => ?_) (fun h154 => ?_)
    · refine J_iconst (v := 0) dX8_ofTwo_161 (by decide) ?_
      refine J_ireturn dX8_ofTwo_162 rfl rfl (by decide) (by decide) ?_
      subst e9
      refine ⟨congrArg (fun v => Sum.inl (some (Value.int v))) ?_, rfl, rfl⟩
      first | rfl | (unfold twV; first | (exact (if_pos (by first | assumption | exact Int32.not_le.mp (by assumption) | (apply Classical.byContradiction; assumption))).symm) | (exact (if_neg (by first | assumption | exact Int32.not_lt.mpr (by assumption))).symm) | (rw [if_neg (by assumption)]; first | exact (if_pos (by assumption)).symm | exact (if_neg (by assumption)).symm))
    · refine J_iconst (v := 1) dX8_ofTwo_157 (by decide) ?_
      refine J_goto (tgt := 162) dX8_ofTwo_158 rfl ?_
      refine J_ireturn dX8_ofTwo_162 rfl rfl (by decide) (by decide) ?_
      subst e9
      refine ⟨congrArg (fun v => Sum.inl (some (Value.int v))) ?_, rfl, rfl⟩
      first | rfl | (unfold twV; first | (exact (if_pos (by first | assumption | exact Int32.not_le.mp (by assumption) | (apply Classical.byContradiction; assumption))).symm) | (exact (if_neg (by first | assumption | exact Int32.not_lt.mpr (by assumption))).symm) | (rw [if_neg (by assumption)]; first | exact (if_pos (by assumption)).symm | exact (if_neg (by assumption)).symm))
  · refine J_tableIn (tgt := 163) dX8_ofTwo_4 (by omega) (by omega) (by rw [hs4]; rfl) rfl ?_
    have e9 : kd = 21 := by omega
    refine J_iload_n dX8_ofTwo_163 rfl rfl ?_
    refine J_iload_n dX8_ofTwo_164 rfl rfl ?_
    refine J_icmp_le (tgt := 172) dX8_ofTwo_165 rfl (fun h165 => ?_) (fun h165 => ?_)
    · refine J_iconst (v := 0) dX8_ofTwo_172 (by decide) ?_
      refine J_ireturn dX8_ofTwo_173 rfl rfl (by decide) (by decide) ?_
      subst e9
      refine ⟨congrArg (fun v => Sum.inl (some (Value.int v))) ?_, rfl, rfl⟩
      first | rfl | (unfold twV; first | (exact (if_pos (by first | assumption | exact Int32.not_le.mp (by assumption) | (apply Classical.byContradiction; assumption))).symm) | (exact (if_neg (by first | assumption | exact Int32.not_lt.mpr (by assumption))).symm) | (rw [if_neg (by assumption)]; first | exact (if_pos (by assumption)).symm | exact (if_neg (by assumption)).symm))
    · refine J_iconst (v := 1) dX8_ofTwo_168 (by decide) ?_
      refine J_goto (tgt := 173) dX8_ofTwo_169 rfl ?_
      refine J_ireturn dX8_ofTwo_173 rfl rfl (by decide) (by decide) ?_
      subst e9
      refine ⟨congrArg (fun v => Sum.inl (some (Value.int v))) ?_, rfl, rfl⟩
      first | rfl | (unfold twV; first | (exact (if_pos (by first | assumption | exact Int32.not_le.mp (by assumption) | (apply Classical.byContradiction; assumption))).symm) | (exact (if_neg (by first | assumption | exact Int32.not_lt.mpr (by assumption))).symm) | (rw [if_neg (by assumption)]; first | exact (if_pos (by assumption)).symm | exact (if_neg (by assumption)).symm))
  · refine J_tableIn (tgt := 174) dX8_ofTwo_4 (by omega) (by omega) (by rw [hs4]; rfl) rfl ?_
    have e9 : kd = 22 := by omega
    refine J_iload_n dX8_ofTwo_174 rfl rfl ?_
    refine J_iload_n dX8_ofTwo_175 rfl rfl ?_
    refine J_icmp_ne (tgt := 183) dX8_ofTwo_176 rfl (fun h176 => ?_) (fun h176 => ?_)
    · refine J_iconst (v := 0) dX8_ofTwo_183 (by decide) ?_
      refine J_ireturn dX8_ofTwo_184 rfl rfl (by decide) (by decide) ?_
      subst e9
      refine ⟨congrArg (fun v => Sum.inl (some (Value.int v))) ?_, rfl, rfl⟩
      first | rfl | (unfold twV; first | (exact (if_pos (by first | assumption | exact Int32.not_le.mp (by assumption) | (apply Classical.byContradiction; assumption))).symm) | (exact (if_neg (by first | assumption | exact Int32.not_lt.mpr (by assumption))).symm) | (rw [if_neg (by assumption)]; first | exact (if_pos (by assumption)).symm | exact (if_neg (by assumption)).symm))
    · refine J_iconst (v := 1) dX8_ofTwo_179 (by decide) ?_
      refine J_goto (tgt := 184) dX8_ofTwo_180 rfl ?_
      refine J_ireturn dX8_ofTwo_184 rfl rfl (by decide) (by decide) ?_
      subst e9
      refine ⟨congrArg (fun v => Sum.inl (some (Value.int v))) ?_, rfl, rfl⟩
      first | rfl | (unfold twV; first | (exact (if_pos (by first | assumption | exact Int32.not_le.mp (by assumption) | (apply Classical.byContradiction; assumption))).symm) | (exact (if_neg (by first | assumption | exact Int32.not_lt.mpr (by assumption))).symm) | (rw [if_neg (by assumption)]; first | exact (if_pos (by assumption)).symm | exact (if_neg (by assumption)).symm))
  · refine J_tableIn (tgt := 185) dX8_ofTwo_4 (by omega) (by omega) (by rw [hs4]; rfl) rfl ?_
    have e9 : kd = 23 := by omega
    refine J_iload_n dX8_ofTwo_185 rfl rfl ?_
    refine J_iload_n dX8_ofTwo_186 rfl rfl ?_
    refine J_icmp_le (tgt := 194) dX8_ofTwo_187 rfl (fun h187 => ?_) (fun h187 => ?_)
    · refine J_iconst (v := 1) dX8_ofTwo_194 (by decide) ?_
      refine J_ireturn dX8_ofTwo_195 rfl rfl (by decide) (by decide) ?_
      subst e9
      refine ⟨congrArg (fun v => Sum.inl (some (Value.int v))) ?_, rfl, rfl⟩
      first | rfl | (unfold twV; first | (exact (if_pos (by first | assumption | exact Int32.not_le.mp (by assumption) | (apply Classical.byContradiction; assumption))).symm) | (exact (if_neg (by first | assumption | exact Int32.not_lt.mpr (by assumption))).symm) | (rw [if_neg (by assumption)]; first | exact (if_pos (by assumption)).symm | exact (if_neg (by assumption)).symm))
    · refine J_iconst (v := 0) dX8_ofTwo_190 (by decide) ?_
      refine J_goto (tgt := 195) dX8_ofTwo_191 rfl ?_
      refine J_ireturn dX8_ofTwo_195 rfl rfl (by decide) (by decide) ?_
      subst e9
      refine ⟨congrArg (fun v => Sum.inl (some (Value.int v))) ?_, rfl, rfl⟩
      first | rfl | (unfold twV; first | (exact (if_pos (by first | assumption | exact Int32.not_le.mp (by assumption) | (apply Classical.byContradiction; assumption))).symm) | (exact (if_neg (by first | assumption | exact Int32.not_lt.mpr (by assumption))).symm) | (rw [if_neg (by assumption)]; first | exact (if_pos (by assumption)).symm | exact (if_neg (by assumption)).symm))
  · refine J_tableIn (tgt := 196) dX8_ofTwo_4 (by omega) (by omega) (by rw [hs4]; rfl) rfl ?_
    have e9 : kd = 24 := by omega
    refine J_iload_n dX8_ofTwo_196 rfl rfl ?_
    refine J_iload_n dX8_ofTwo_197 rfl rfl ?_
    refine J_icmp_ge (tgt := 205) dX8_ofTwo_198 rfl (fun h198 => ?_) (fun h198 => ?_)
    · refine J_iconst (v := 1) dX8_ofTwo_205 (by decide) ?_
      refine J_ireturn dX8_ofTwo_206 rfl rfl (by decide) (by decide) ?_
      subst e9
      refine ⟨congrArg (fun v => Sum.inl (some (Value.int v))) ?_, rfl, rfl⟩
      first | rfl | (unfold twV; first | (exact (if_pos (by first | assumption | exact Int32.not_le.mp (by assumption) | (apply Classical.byContradiction; assumption))).symm) | (exact (if_neg (by first | assumption | exact Int32.not_lt.mpr (by assumption))).symm) | (rw [if_neg (by assumption)]; first | exact (if_pos (by assumption)).symm | exact (if_neg (by assumption)).symm))
    · refine J_iconst (v := 0) dX8_ofTwo_201 (by decide) ?_
      refine J_goto (tgt := 206) dX8_ofTwo_202 rfl ?_
      refine J_ireturn dX8_ofTwo_206 rfl rfl (by decide) (by decide) ?_
      subst e9
      refine ⟨congrArg (fun v => Sum.inl (some (Value.int v))) ?_, rfl, rfl⟩
      first | rfl | (unfold twV; first | (exact (if_pos (by first | assumption | exact Int32.not_le.mp (by assumption) | (apply Classical.byContradiction; assumption))).symm) | (exact (if_neg (by first | assumption | exact Int32.not_lt.mpr (by assumption))).symm) | (rw [if_neg (by assumption)]; first | exact (if_pos (by assumption)).symm | exact (if_neg (by assumption)).symm))
  · refine J_tableIn (tgt := 220) dX8_ofTwo_4 (by omega) (by omega) (by rw [hs4]; rfl) rfl ?_
    have e9 : kd = 25 := by omega
    refine J_iload_n dX8_ofTwo_220 rfl rfl ?_
    refine J_iload_n dX8_ofTwo_221 rfl rfl ?_
    refine J_iadd dX8_ofTwo_222 ?_
    refine J_if_le (tgt := 230) dX8_ofTwo_223 rfl (fun h223 => ?_) (fun h223 => ?_)
    · refine J_iconst (v := 0) dX8_ofTwo_230 (by decide) ?_
      refine J_ireturn dX8_ofTwo_231 rfl rfl (by decide) (by decide) ?_
      subst e9
      refine ⟨congrArg (fun v => Sum.inl (some (Value.int v))) ?_, rfl, rfl⟩
      first | rfl | (unfold twV; first | (exact (if_pos (by first | assumption | exact Int32.not_le.mp (by assumption) | (apply Classical.byContradiction; assumption))).symm) | (exact (if_neg (by first | assumption | exact Int32.not_lt.mpr (by assumption))).symm) | (rw [if_neg (by assumption)]; first | exact (if_pos (by assumption)).symm | exact (if_neg (by assumption)).symm))
    · refine J_iconst (v := 1) dX8_ofTwo_226 (by decide) ?_
      refine J_goto (tgt := 231) dX8_ofTwo_227 rfl ?_
      refine J_ireturn dX8_ofTwo_231 rfl rfl (by decide) (by decide) ?_
      subst e9
      refine ⟨congrArg (fun v => Sum.inl (some (Value.int v))) ?_, rfl, rfl⟩
      first | rfl | (unfold twV; first | (exact (if_pos (by first | assumption | exact Int32.not_le.mp (by assumption) | (apply Classical.byContradiction; assumption))).symm) | (exact (if_neg (by first | assumption | exact Int32.not_lt.mpr (by assumption))).symm) | (rw [if_neg (by assumption)]; first | exact (if_pos (by assumption)).symm | exact (if_neg (by assumption)).symm))
  · refine J_tableIn (tgt := 220) dX8_ofTwo_4 (by omega) (by omega) (by rw [hs4]; rfl) rfl ?_
    have e9 : kd = 26 := by omega
    refine J_iload_n dX8_ofTwo_220 rfl rfl ?_
    refine J_iload_n dX8_ofTwo_221 rfl rfl ?_
    refine J_iadd dX8_ofTwo_222 ?_
    refine J_if_le (tgt := 230) dX8_ofTwo_223 rfl (fun h223 => ?_) (fun h223 => ?_)
    · refine J_iconst (v := 0) dX8_ofTwo_230 (by decide) ?_
      refine J_ireturn dX8_ofTwo_231 rfl rfl (by decide) (by decide) ?_
      subst e9
      refine ⟨congrArg (fun v => Sum.inl (some (Value.int v))) ?_, rfl, rfl⟩
      first | rfl | (unfold twV; first | (exact (if_pos (by first | assumption | exact Int32.not_le.mp (by assumption) | (apply Classical.byContradiction; assumption))).symm) | (exact (if_neg (by first | assumption | exact Int32.not_lt.mpr (by assumption))).symm) | (rw [if_neg (by assumption)]; first | exact (if_pos (by assumption)).symm | exact (if_neg (by assumption)).symm))
    · refine J_iconst (v := 1) dX8_ofTwo_226 (by decide) ?_
      refine J_goto (tgt := 231) dX8_ofTwo_227 rfl ?_
      refine J_ireturn dX8_ofTwo_231 rfl rfl (by decide) (by decide) ?_
      subst e9
      refine ⟨congrArg (fun v => Sum.inl (some (Value.int v))) ?_, rfl, rfl⟩
      first | rfl | (unfold twV; first | (exact (if_pos (by first | assumption | exact Int32.not_le.mp (by assumption) | (apply Classical.byContradiction; assumption))).symm) | (exact (if_neg (by first | assumption | exact Int32.not_lt.mpr (by assumption))).symm) | (rw [if_neg (by assumption)]; first | exact (if_pos (by assumption)).symm | exact (if_neg (by assumption)).symm))
  · refine J_tableIn (tgt := 207) dX8_ofTwo_4 (by omega) (by omega) (by rw [hs4]; rfl) rfl ?_
    have e9 : kd = 27 := by omega
    refine J_iload_n dX8_ofTwo_207 rfl rfl ?_
    refine J_iload_n dX8_ofTwo_208 rfl rfl ?_
    refine J_iadd dX8_ofTwo_209 ?_
    refine J_iconst (v := 2) dX8_ofTwo_210 (by decide) ?_
    refine J_icmp_ne (tgt := 218) dX8_ofTwo_211 rfl (fun h211 => ?_) (fun h211 => ?_)
    · refine J_iconst (v := 0) dX8_ofTwo_218 (by decide) ?_
      refine J_ireturn dX8_ofTwo_219 rfl rfl (by decide) (by decide) ?_
      subst e9
      refine ⟨congrArg (fun v => Sum.inl (some (Value.int v))) ?_, rfl, rfl⟩
      first | rfl | (unfold twV; first | (exact (if_pos (by first | assumption | exact Int32.not_le.mp (by assumption) | (apply Classical.byContradiction; assumption))).symm) | (exact (if_neg (by first | assumption | exact Int32.not_lt.mpr (by assumption))).symm) | (rw [if_neg (by assumption)]; first | exact (if_pos (by assumption)).symm | exact (if_neg (by assumption)).symm))
    · refine J_iconst (v := 1) dX8_ofTwo_214 (by decide) ?_
      refine J_goto (tgt := 219) dX8_ofTwo_215 rfl ?_
      refine J_ireturn dX8_ofTwo_219 rfl rfl (by decide) (by decide) ?_
      subst e9
      refine ⟨congrArg (fun v => Sum.inl (some (Value.int v))) ?_, rfl, rfl⟩
      first | rfl | (unfold twV; first | (exact (if_pos (by first | assumption | exact Int32.not_le.mp (by assumption) | (apply Classical.byContradiction; assumption))).symm) | (exact (if_neg (by first | assumption | exact Int32.not_lt.mpr (by assumption))).symm) | (rw [if_neg (by assumption)]; first | exact (if_pos (by assumption)).symm | exact (if_neg (by assumption)).symm))
  · refine J_tableOut (tgt := 220) dX8_ofTwo_4 hs4 rfl ?_
    have e9 : kd = 28 := by omega
    refine J_iload_n dX8_ofTwo_220 rfl rfl ?_
    refine J_iload_n dX8_ofTwo_221 rfl rfl ?_
    refine J_iadd dX8_ofTwo_222 ?_
    refine J_if_le (tgt := 230) dX8_ofTwo_223 rfl (fun h223 => ?_) (fun h223 => ?_)
    · refine J_iconst (v := 0) dX8_ofTwo_230 (by decide) ?_
      refine J_ireturn dX8_ofTwo_231 rfl rfl (by decide) (by decide) ?_
      subst e9
      refine ⟨congrArg (fun v => Sum.inl (some (Value.int v))) ?_, rfl, rfl⟩
      first | rfl | (unfold twV; first | (exact (if_pos (by first | assumption | exact Int32.not_le.mp (by assumption) | (apply Classical.byContradiction; assumption))).symm) | (exact (if_neg (by first | assumption | exact Int32.not_lt.mpr (by assumption))).symm) | (rw [if_neg (by assumption)]; first | exact (if_pos (by assumption)).symm | exact (if_neg (by assumption)).symm))
    · refine J_iconst (v := 1) dX8_ofTwo_226 (by decide) ?_
      refine J_goto (tgt := 231) dX8_ofTwo_227 rfl ?_
      refine J_ireturn dX8_ofTwo_231 rfl rfl (by decide) (by decide) ?_
      subst e9
      refine ⟨congrArg (fun v => Sum.inl (some (Value.int v))) ?_, rfl, rfl⟩
      first | rfl | (unfold twV; first | (exact (if_pos (by first | assumption | exact Int32.not_le.mp (by assumption) | (apply Classical.byContradiction; assumption))).symm) | (exact (if_neg (by first | assumption | exact Int32.not_lt.mpr (by assumption))).symm) | (rw [if_neg (by assumption)]; first | exact (if_pos (by assumption)).symm | exact (if_neg (by assumption)).symm))
theorem trA.cell : ∀ (f : Nat) (v : Nat) (tr : Tr f), trA A f v tr → ∃ c, A v = some (.inr (7, c)) := by
  intro f v tr h
  cases f with
  | zero => exact h.elim
  | succ f => obtain ⟨ra, rb, h1, -⟩ := h; exact ⟨_, h1⟩
theorem trV_s {S : sS} {b : Nat → Int32} {f kd nu : Nat} {ta tb : Tr f} : trV S b (f + 1) ((kd, nu), (ta, tb)) = if kd = 0 then nI nu else if kd = 1 then b 0 else if kd < 8 then ofS S (nI kd) (b (1 + nu)) else if kd = 25 then (if 0 < mtS S (b 1) (b 2) (b 0) then 1 else 0) else if kd = 8 then -(trV S b f ta) else if kd = 26 then 1 - trV S b f ta else twV kd (trV S b f ta) (trV S b f tb) := rfl
def TofC (G : xx_G) (l : Launch) (h : Nat) (S : sS) (w n : Nat) (b : Nat → Int32) (A : xx_H) (f : Nat) : Prop := ∀ (v : Nat) (tr : Tr f), trA A f v tr → trK f tr → xx_C G l yX8_of mX8_of (f + 3) (100 + 30 * f) 0 0 [.ref v, .ref h, .ref w] A n (xx_ro (some (.int (trV S b f tr))) A n)
set_option maxRecDepth 100000 in
set_option maxHeartbeats 4000000 in
theorem tof_s (hst : l.stackTraces = false) {h w : Nat} {S : sS} {b : Nat → Int32} (hS : simW h S A) (hnb : S.2.2 1 < 1000) (hnr : S.2.2 3 < 1000) (hw : A w = some (.inl (0, 5, .inl b))) (hb : ∀ q, q < 2 → ∃ r, b (1 + q) = nI r ∧ r < 12) {f : Nat} (IH : TofC G l h S w n b A f) : TofC G l h S w n b A (f + 1) := by
  intro v tr hT hK
  obtain ⟨⟨kd, nu⟩, ta, tb⟩ := tr
  obtain ⟨ra, rb, hA, hca, hcb⟩ := hT
  obtain ⟨hk1, hk2, hk3, hk4, hk5, -⟩ := hK
  have hA : A v = some (.inr (7, [.int (nI kd), .int (nI nu), ra, rb])) := hA
  have hk1 : kd < 29 := hk1
  have hk3 : ¬ kd = 0 → nu < 2 := hk3
  have hca : hasA kd → ∃ a, ra = .ref a ∧ trA A f a ta := hca
  have hcb : hasB kd → ∃ b, rb = .ref b ∧ trA A f b tb := hcb
  have hk4 : hasA kd → trK f ta := hk4
  have hk5 : hasB kd → trK f tb := hk5
  have ek : (nI kd).toInt = kd := i_n (by omega)
  have ho := hS.1
  refine J_C hst (by decide +kernel) rfl rfl rfl (Nat.le_of_ble_eq_true rfl) ?_
  show xx_J _ _ _ _ _ _ _ _ 0 [(0, _), (1, _), (2, _)] [] _ _ _ _
  refine J_aload_n dX8_of_0 rfl rfl ?_
  refine J_getf dX8_of_1 fl_X8_7 hA rfl ?_
  refine J_if_ne (tgt := 12) dX8_of_4 rfl (fun h4 => ?_) (fun h4 => ?_)
  · have k4 : ¬ kd = 0 := fun z => h4 (by rw [z]; rfl)
    refine J_aload_n dX8_of_12 rfl rfl ?_
    refine J_getf dX8_of_13 fl_X8_7 hA rfl ?_
    refine J_iconst (v := 1) dX8_of_16 (by decide) ?_
    refine J_icmp_ne (tgt := 24) dX8_of_17 rfl (fun h17 => ?_) (fun h17 => ?_)
    · have k17 : ¬ kd = 1 := fun z => h17 (by rw [z]; rfl)
      refine J_aload_n dX8_of_24 rfl rfl ?_
      refine J_getf dX8_of_25 fl_X8_7 hA rfl ?_
      refine J_bipush (v := 8) dX8_of_28 (by decide) ?_
      refine J_icmp_ge (tgt := 50) dX8_of_30 rfl (fun h30 => ?_) (fun h30 => ?_)
      · have k30 : ¬ kd < 8 := by simp only [i_le, i_lt, i_8, ek] at h30; omega
        refine J_aload_n dX8_of_50 rfl rfl ?_
        refine J_getf dX8_of_51 fl_X8_7 hA rfl ?_
        refine J_bipush (v := 25) dX8_of_54 (by decide) ?_
        refine J_icmp_ne (tgt := 81) dX8_of_56 rfl (fun h56 => ?_) (fun h56 => ?_)
        · have k56 : ¬ kd = 25 := fun z => h56 (by rw [z]; rfl)
          have hha : hasA kd := ⟨by omega, k56⟩
          obtain ⟨a, ea, ta9⟩ := hca hha
          subst ea
          obtain ⟨fa9, ca⟩ := trA.cell _ _ _ ta9
          refine J_aload_n dX8_of_81 rfl rfl ?_
          refine J_getf dX8_of_82 fl_X8_26 hA rfl ?_
          refine J_aload_n dX8_of_85 rfl rfl ?_
          refine J_aload_n dX8_of_86 rfl rfl ?_
          refine J_callVr (As := [_, _]) dX8_of_87 ml_X8_30 cal_X8_of im_X8_of se_X8_of (ca) rfl rfl rfl (Nat.le_of_ble_eq_true rfl) ⟨by omega, by show 8 + (4 + 11) + _ ≤ _; omega⟩ ⟨by omega, by omega⟩ (IH a ta ta9 (hk4 hha)) ?_
          refine J_istore_n (L' := [(3, _), (0, _), (1, _), (2, _)]) dX8_of_90 rfl (by decide) rfl ?_
          refine J_aload_n dX8_of_91 rfl rfl ?_
          refine J_getf dX8_of_92 fl_X8_7 hA rfl ?_
          refine J_bipush (v := 8) dX8_of_95 (by decide) ?_
          refine J_icmp_ne (tgt := 103) dX8_of_97 rfl (fun h97 => ?_) (fun h97 => ?_)
          · have k97 : ¬ kd = 8 := fun z => h97 (by rw [z]; rfl)
            refine J_aload_n dX8_of_103 rfl rfl ?_
            refine J_getf dX8_of_104 fl_X8_7 hA rfl ?_
            refine J_bipush (v := 26) dX8_of_107 (by decide) ?_
            refine J_icmp_ne (tgt := 118) dX8_of_109 rfl (fun h109 => ?_) (fun h109 => ?_)
            · have k109 : ¬ kd = 26 := fun z => h109 (by rw [z]; rfl)
              have hhb : hasB kd := ⟨by omega, k56, k109⟩
              obtain ⟨b9, eb, tb9⟩ := hcb hhb
              subst eb
              obtain ⟨fb9, cb⟩ := trA.cell _ _ _ tb9
              refine J_aload_n dX8_of_118 rfl rfl ?_
              refine J_iload_n dX8_of_119 rfl rfl ?_
              refine J_aload_n dX8_of_120 rfl rfl ?_
              refine J_getf dX8_of_121 fl_X8_33 hA rfl ?_
              refine J_aload_n dX8_of_124 rfl rfl ?_
              refine J_aload_n dX8_of_125 rfl rfl ?_
              refine J_callVr (As := [_, _]) dX8_of_126 ml_X8_30 cal_X8_of im_X8_of se_X8_of (cb) rfl rfl rfl (Nat.le_of_ble_eq_true rfl) ⟨by omega, by show 8 + (4 + 11) + _ ≤ _; omega⟩ ⟨by omega, by omega⟩ (IH b9 tb tb9 (hk5 hhb)) ?_
              refine J_callVr (As := [_, _]) dX8_of_129 ml_X8_36 cal_X8_ofTwo im_X8_ofTwo se_X8_ofTwo (hA) rfl rfl rfl (Nat.le_of_ble_eq_true rfl) ⟨by omega, by show 8 + (3 + 11) + _ ≤ _; omega⟩ ⟨by omega, by omega⟩ (c_X8_ofTwo hst hA (by omega) _ _) ?_
              refine J_ireturn dX8_of_132 rfl rfl (by omega) (by omega) ?_
              refine ⟨congrArg (fun v => Sum.inl (some (Value.int v))) ?_, rfl, rfl⟩
              rw [trV_s]
              first | (rw [if_pos k4]; done) | (rw [if_neg k4, if_pos k17]; done) | (rw [if_neg k4, if_neg k17, if_pos k30]; done) | (rw [if_neg k4, if_neg k17, if_neg (by omega), if_pos k56]; first | exact (if_pos (Int32.not_le.mp h72)).symm | exact (if_neg (Int32.not_lt.mpr h72)).symm) | (rw [if_neg k4, if_neg k17, if_neg (by omega), if_neg k56, if_pos k97]; done) | (rw [if_neg k4, if_neg k17, if_neg (by omega), if_neg k56, if_neg k97, if_pos k109]; done) | (rw [if_neg k4, if_neg k17, if_neg (by omega), if_neg k56, if_neg k97, if_neg k109]; done)
            · have k109 : kd = 26 := (nI_eq (by omega) (by decide)).mp (show nI kd = nI 26 from h109)
              refine J_iconst (v := 1) dX8_of_112 (by decide) ?_
              refine J_iload_n dX8_of_113 rfl rfl ?_
              refine J_isub dX8_of_114 ?_
              refine J_goto (tgt := 132) dX8_of_115 rfl ?_
              refine J_ireturn dX8_of_132 rfl rfl (by omega) (by omega) ?_
              refine ⟨congrArg (fun v => Sum.inl (some (Value.int v))) ?_, rfl, rfl⟩
              rw [trV_s]
              first | (rw [if_pos k4]; done) | (rw [if_neg k4, if_pos k17]; done) | (rw [if_neg k4, if_neg k17, if_pos k30]; done) | (rw [if_neg k4, if_neg k17, if_neg (by omega), if_pos k56]; first | exact (if_pos (Int32.not_le.mp h72)).symm | exact (if_neg (Int32.not_lt.mpr h72)).symm) | (rw [if_neg k4, if_neg k17, if_neg (by omega), if_neg k56, if_pos k97]; done) | (rw [if_neg k4, if_neg k17, if_neg (by omega), if_neg k56, if_neg k97, if_pos k109]; done) | (rw [if_neg k4, if_neg k17, if_neg (by omega), if_neg k56, if_neg k97, if_neg k109]; done)
          · have k97 : kd = 8 := (nI_eq (by omega) (by decide)).mp (show nI kd = nI 8 from h97)
            refine J_iload_n dX8_of_100 rfl rfl ?_
            refine J_ineg dX8_of_101 ?_
            refine J_ireturn dX8_of_102 rfl rfl (by omega) (by omega) ?_
            refine ⟨congrArg (fun v => Sum.inl (some (Value.int v))) ?_, rfl, rfl⟩
            rw [trV_s]
            first | (rw [if_pos k4]; done) | (rw [if_neg k4, if_pos k17]; done) | (rw [if_neg k4, if_neg k17, if_pos k30]; done) | (rw [if_neg k4, if_neg k17, if_neg (by omega), if_pos k56]; first | exact (if_pos (Int32.not_le.mp h72)).symm | exact (if_neg (Int32.not_lt.mpr h72)).symm) | (rw [if_neg k4, if_neg k17, if_neg (by omega), if_neg k56, if_pos k97]; done) | (rw [if_neg k4, if_neg k17, if_neg (by omega), if_neg k56, if_neg k97, if_pos k109]; done) | (rw [if_neg k4, if_neg k17, if_neg (by omega), if_neg k56, if_neg k97, if_neg k109]; done)
        · have k56 : kd = 25 := (nI_eq (by omega) (by decide)).mp (show nI kd = nI 25 from h56)
          refine J_aload_n dX8_of_59 rfl rfl ?_
          refine J_aload_n dX8_of_60 rfl rfl ?_
          refine J_iconst (v := 1) dX8_of_61 (by decide) ?_
          refine J_ialdN 1 dX8_of_62 hw rfl (by decide) (by first | decide | omega) ?_
          refine J_aload_n dX8_of_63 rfl rfl ?_
          refine J_iconst (v := 2) dX8_of_64 (by decide) ?_
          refine J_ialdN 2 dX8_of_65 hw rfl (by decide) (by first | decide | omega) ?_
          refine J_aload_n dX8_of_66 rfl rfl ?_
          refine J_iconst (v := 0) dX8_of_67 (by decide) ?_
          refine J_ialdN 0 dX8_of_68 hw rfl (by decide) (by first | decide | omega) ?_
          refine J_callVr (As := [_, _, _]) dX8_of_69 ml_X8_22 cal_X7_met im_X7_met se_X7_met (ho) rfl rfl rfl (Nat.le_of_ble_eq_true rfl) ⟨by omega, by show 8 + (9 + 11) + _ ≤ _; omega⟩ ⟨by omega, by omega⟩ (c_X7_met hst hS hnb hnr _ _ _) ?_
          refine J_if_le (tgt := 79) dX8_of_72 rfl (fun h72 => ?_) (fun h72 => ?_)
          · refine J_iconst (v := 0) dX8_of_79 (by decide) ?_
            refine J_ireturn dX8_of_80 rfl rfl (by omega) (by omega) ?_
            refine ⟨congrArg (fun v => Sum.inl (some (Value.int v))) ?_, rfl, rfl⟩
            rw [trV_s]
            first | (rw [if_pos k4]; done) | (rw [if_neg k4, if_pos k17]; done) | (rw [if_neg k4, if_neg k17, if_pos k30]; done) | (rw [if_neg k4, if_neg k17, if_neg (by omega), if_pos k56]; first | exact (if_pos (Int32.not_le.mp h72)).symm | exact (if_neg (Int32.not_lt.mpr h72)).symm) | (rw [if_neg k4, if_neg k17, if_neg (by omega), if_neg k56, if_pos k97]; done) | (rw [if_neg k4, if_neg k17, if_neg (by omega), if_neg k56, if_neg k97, if_pos k109]; done) | (rw [if_neg k4, if_neg k17, if_neg (by omega), if_neg k56, if_neg k97, if_neg k109]; done)
          · refine J_iconst (v := 1) dX8_of_75 (by decide) ?_
            refine J_goto (tgt := 80) dX8_of_76 rfl ?_
            refine J_ireturn dX8_of_80 rfl rfl (by omega) (by omega) ?_
            refine ⟨congrArg (fun v => Sum.inl (some (Value.int v))) ?_, rfl, rfl⟩
            rw [trV_s]
            first | (rw [if_pos k4]; done) | (rw [if_neg k4, if_pos k17]; done) | (rw [if_neg k4, if_neg k17, if_pos k30]; done) | (rw [if_neg k4, if_neg k17, if_neg (by omega), if_pos k56]; first | exact (if_pos (Int32.not_le.mp h72)).symm | exact (if_neg (Int32.not_lt.mpr h72)).symm) | (rw [if_neg k4, if_neg k17, if_neg (by omega), if_neg k56, if_pos k97]; done) | (rw [if_neg k4, if_neg k17, if_neg (by omega), if_neg k56, if_neg k97, if_pos k109]; done) | (rw [if_neg k4, if_neg k17, if_neg (by omega), if_neg k56, if_neg k97, if_neg k109]; done)
      · have k30 : kd < 8 := by simp only [i_le, i_lt, i_8, ek] at h30; omega
        refine J_aload_n dX8_of_33 rfl rfl ?_
        refine J_aload_n dX8_of_34 rfl rfl ?_
        refine J_getf dX8_of_35 fl_X8_7 hA rfl ?_
        refine J_aload_n dX8_of_38 rfl rfl ?_
        refine J_iconst (v := 1) dX8_of_39 (by decide) ?_
        refine J_aload_n dX8_of_40 rfl rfl ?_
        refine J_getf dX8_of_41 fl_X8_13 hA rfl ?_
        refine J_iadd dX8_of_44 ?_
        obtain ⟨r1, hr1, hr2⟩ := hb nu (hk3 k4)
        refine J_ialdN (1 + nu) dX8_of_45 hw (nI_add 1 nu) (by omega) (by decide) ?_
        refine J_callVr (As := [_, _]) dX8_of_46 ml_X8_16 cal_X7_of im_X7_of se_X7_of (ho) rfl rfl rfl (Nat.le_of_ble_eq_true rfl) ⟨by omega, by show 8 + (3 + 11) + _ ≤ _; omega⟩ ⟨by omega, by omega⟩ (c_X7_of hst hS hnb hnr (nI kd) hr1 hr2 (by omega)) ?_
        refine J_ireturn dX8_of_49 rfl rfl (by omega) (by omega) ?_
        refine ⟨congrArg (fun v => Sum.inl (some (Value.int v))) ?_, rfl, rfl⟩
        rw [trV_s]
        first | (rw [if_pos k4]; done) | (rw [if_neg k4, if_pos k17]; done) | (rw [if_neg k4, if_neg k17, if_pos k30]; done) | (rw [if_neg k4, if_neg k17, if_neg (by omega), if_pos k56]; first | exact (if_pos (Int32.not_le.mp h72)).symm | exact (if_neg (Int32.not_lt.mpr h72)).symm) | (rw [if_neg k4, if_neg k17, if_neg (by omega), if_neg k56, if_pos k97]; done) | (rw [if_neg k4, if_neg k17, if_neg (by omega), if_neg k56, if_neg k97, if_pos k109]; done) | (rw [if_neg k4, if_neg k17, if_neg (by omega), if_neg k56, if_neg k97, if_neg k109]; done)
    · have k17 : kd = 1 := (nI_eq (by omega) (by decide)).mp (show nI kd = nI 1 from h17)
      refine J_aload_n dX8_of_20 rfl rfl ?_
      refine J_iconst (v := 0) dX8_of_21 (by decide) ?_
      refine J_ialdN 0 dX8_of_22 hw rfl (by decide) (by first | decide | omega) ?_
      refine J_ireturn dX8_of_23 rfl rfl (by omega) (by omega) ?_
      refine ⟨congrArg (fun v => Sum.inl (some (Value.int v))) ?_, rfl, rfl⟩
      rw [trV_s]
      first | (rw [if_pos k4]; done) | (rw [if_neg k4, if_pos k17]; done) | (rw [if_neg k4, if_neg k17, if_pos k30]; done) | (rw [if_neg k4, if_neg k17, if_neg (by omega), if_pos k56]; first | exact (if_pos (Int32.not_le.mp h72)).symm | exact (if_neg (Int32.not_lt.mpr h72)).symm) | (rw [if_neg k4, if_neg k17, if_neg (by omega), if_neg k56, if_pos k97]; done) | (rw [if_neg k4, if_neg k17, if_neg (by omega), if_neg k56, if_neg k97, if_pos k109]; done) | (rw [if_neg k4, if_neg k17, if_neg (by omega), if_neg k56, if_neg k97, if_neg k109]; done)
  · have k4 : kd = 0 := (nI_eq (by omega) (by decide)).mp (show nI kd = nI 0 from h4)
    refine J_aload_n dX8_of_7 rfl rfl ?_
    refine J_getf dX8_of_8 fl_X8_13 hA rfl ?_
    refine J_ireturn dX8_of_11 rfl rfl (by omega) (by omega) ?_
    refine ⟨congrArg (fun v => Sum.inl (some (Value.int v))) ?_, rfl, rfl⟩
    rw [trV_s]
    first | (rw [if_pos k4]; done) | (rw [if_neg k4, if_pos k17]; done) | (rw [if_neg k4, if_neg k17, if_pos k30]; done) | (rw [if_neg k4, if_neg k17, if_neg (by omega), if_pos k56]; first | exact (if_pos (Int32.not_le.mp h72)).symm | exact (if_neg (Int32.not_lt.mpr h72)).symm) | (rw [if_neg k4, if_neg k17, if_neg (by omega), if_neg k56, if_pos k97]; done) | (rw [if_neg k4, if_neg k17, if_neg (by omega), if_neg k56, if_neg k97, if_pos k109]; done) | (rw [if_neg k4, if_neg k17, if_neg (by omega), if_neg k56, if_neg k97, if_neg k109]; done)
theorem tof_all (hst : l.stackTraces = false) {h w : Nat} {S : sS} {b : Nat → Int32} (hS : simW h S A) (hnb : S.2.2 1 < 1000) (hnr : S.2.2 3 < 1000) (hw : A w = some (.inl (0, 5, .inl b))) (hb : ∀ q, q < 2 → ∃ r, b (1 + q) = nI r ∧ r < 12) : ∀ f, TofC G l h S w n b A f := by
  intro f
  induction f with
  | zero => intro v tr hT _; exact hT.elim
  | succ f ih => exact tof_s hst hS hnb hnr hw hb ih
end XTR
