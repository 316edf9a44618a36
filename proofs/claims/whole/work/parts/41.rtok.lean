/-! THE REFERENCE: tokens -/
section XSB
variable {G : xx_G} {l : Launch} {A A' : xx_H} {n : Nat} {bm bp bs bn ba : Nat} {vL nl : Nat → Int64} {M M' M1 P S : xS} {T : xS} {len i : Nat}
abbrev isLt (x : Int32) : Prop := 97 ≤ x ∧ x ≤ 122
/-- a byte as the reference keeps it -/
def rb (x : Int32) : Int32 := if x < 0 then x + 256 else x
def rB (T : xS) (len i : Nat) : Int32 := if i < len then rb (T.2 1 i) else -1
/-- the tape of the reference is that of T -/
def tpR (M T : xS) (len : Nat) : Prop := M.1 2 = nI len ∧ len ≤ 2000 ∧ ∀ q, q < len → M.2 1 q = rb (T.2 1 q) ∧ -128 ≤ T.2 1 q ∧ T.2 1 q ≤ 127
theorem rb_i {x : Int32} (h : -128 ≤ x) (h2 : x ≤ 127) : (rb x).toInt = if x.toInt < 0 then x.toInt + 256 else x.toInt := by
  have a1 : (-128 : Int32).toInt = -128 := rfl
  have a2 : (127 : Int32).toInt = 127 := rfl
  rw [i_le] at h h2
  unfold rb
  by_cases c : x < 0
  · rw [if_pos c]
    rw [i_lt, i_0] at c
    rw [if_pos c, Int32.toInt_add]
    have a3 : (256 : Int32).toInt = 256 := rfl
    rw [a3]
    exact Int.bmod_eq_of_le (by omega) (by omega)
  · rw [if_neg c]
    rw [i_lt, i_0] at c
    rw [if_neg c]
theorem rB_c {c : Int32} (hM : tpR M T len) (hc : 0 < c) (hc2 : c ≤ 127) (i : Nat) : rB T len i = c ↔ bat T len i = c := by
  unfold rB bat
  have a2 : (127 : Int32).toInt = 127 := rfl
  rw [i_lt, i_0] at hc
  rw [i_le, a2] at hc2
  by_cases h : i < len
  · rw [if_pos h, if_pos h]
    obtain ⟨-, b1, b2⟩ := hM.2.2 i h
    have z := rb_i b1 b2
    rw [i_le] at b1 b2
    have a1 : (-128 : Int32).toInt = -128 := rfl
    rw [i_eq, i_eq, z]
    split <;> omega
  · rw [if_neg h, if_neg h]
    rw [i_eq, i_eq, i_0, i_m1]
    omega
theorem rB_r {c d : Int32} (hM : tpR M T len) (hc : 0 < c) (hd : d ≤ 127) (i : Nat) : (c ≤ rB T len i ∧ rB T len i ≤ d) ↔ (c ≤ bat T len i ∧ bat T len i ≤ d) := by
  unfold rB bat
  have a2 : (127 : Int32).toInt = 127 := rfl
  rw [i_lt, i_0] at hc
  rw [i_le, a2] at hd
  by_cases h : i < len
  · rw [if_pos h, if_pos h]
    obtain ⟨-, b1, b2⟩ := hM.2.2 i h
    have z := rb_i b1 b2
    rw [i_le] at b1 b2
    have a1 : (-128 : Int32).toInt = -128 := rfl
    simp only [i_le, z]
    split <;> omega
  · rw [if_neg h, if_neg h]
    simp only [i_le, i_0, i_m1]
    omega
theorem rB_L (hM : tpR M T len) (i : Nat) : isLt (rB T len i) ↔ isLt (bat T len i) := rB_r hM (by decide) (by decide) i
theorem rB_D (hM : tpR M T len) (i : Nat) : isD (rB T len i) ↔ isD (bat T len i) := rB_r hM (by decide) (by decide) i
theorem rB_m1 (hM : tpR M T len) (i : Nat) : rB T len i = -1 ↔ ¬ i < len := by
  unfold rB
  by_cases h : i < len
  · rw [if_pos h]
    obtain ⟨-, b1, b2⟩ := hM.2.2 i h
    have z := rb_i b1 b2
    rw [i_le] at b1 b2
    have a1 : (-128 : Int32).toInt = -128 := rfl
    rw [i_eq, z, i_m1]
    split <;> (constructor <;> intro w <;> first | omega | exact absurd h w)
  · rw [if_neg h]; exact ⟨fun _ => h, fun _ => rfl⟩
theorem bat_ni (h : ¬ i < len) : bat T len i = 0 := if_neg h
theorem rB_ni (h : ¬ i < len) : rB T len i = -1 := if_neg h
theorem LD_x {x : Int32} (h : isLt x) : ¬ isD x := by
  obtain ⟨h1, h2⟩ := h
  rintro ⟨h3, h4⟩
  rw [i_le] at h1 h4
  have a1 : (97 : Int32).toInt = 97 := rfl
  have a2 : (57 : Int32).toInt = 57 := rfl
  omega
theorem LD_c {x : Int32} {c : Int32} (hc : ¬ isLt c) (hd : ¬ isD c) (h : isLt x ∨ isD x) : ¬ x = c := fun e => by
  rw [e] at h
  exact h.elim hc hd
theorem c_X9_byteOf (hst : l.stackTraces = false) (hM : xx_w bm (layM bp vL bn ba bm M) A) (htp : tpR M T len) {i : Nat} {x : Int32} (hx : x = nI i) (hi : i < 2 ^ 31) : xx_C G l yX9_byteOf mX9_byteOf 0 0 0 0 [.ref bm, .int x] A n (xx_ro (some (.int (rB T len i))) A n) := by
  have h2k := htp.2.1
  have elen : (M.1 2).toInt = len := by rw [htp.1]; exact i_n (by have := htp.2.1; omega)
  have ex : x.toInt = i := by rw [hx]; exact i_n hi
  refine J_C hst (by decide +kernel) rfl rfl rfl (Nat.le_of_ble_eq_true rfl) ?_
  show xx_J _ _ _ _ _ _ _ _ 0 [(0, _), (1, _)] [] _ _ _ _
  refine J_iload_n dX9_byteOf_0 rfl rfl ?_
  refine J_aload_n dX9_byteOf_1 rfl rfl ?_
  refine J_getf dX9_byteOf_2 fl_X9_259 (hM.at 0 rfl) rfl ?_
  refine J_icmp_ge (tgt := 17) dX9_byteOf_5 rfl (fun h5 => ?_) (fun h5 => ?_)
  · have hil : ¬ i < len := fun z => absurd h5 (Int32.not_le.mpr (by rw [i_lt]; omega))
    refine J_iconst (v := -1) dX9_byteOf_17 (by decide) ?_
    refine J_ireturn dX9_byteOf_18 rfl rfl (by decide) (by decide) ?_
    first | exact ⟨by unfold rB; rw [if_pos hil, (htp.2.2 i hil).1], rfl, rfl⟩ | exact ⟨by unfold rB; rw [if_neg hil], rfl, rfl⟩
  · have h5b : x < M.1 2 := Int32.not_le.mp h5
    have hil : i < len := by rw [i_lt] at h5b; omega
    refine J_aload_n dX9_byteOf_8 rfl rfl ?_
    refine J_getf dX9_byteOf_9 fl_X9_9 (hM.at 0 rfl) rfl ?_
    refine J_iload_n dX9_byteOf_12 rfl rfl ?_
    refine J_ialdN i dX9_byteOf_13 (hM.at 1 rfl) hx (by rw [i_lt] at h5b; omega) (by decide) ?_
    refine J_goto (tgt := 18) dX9_byteOf_14 rfl ?_
    refine J_ireturn dX9_byteOf_18 rfl rfl (by decide) (by decide) ?_
    first | exact ⟨by unfold rB; rw [if_pos hil, (htp.2.2 i hil).1], rfl, rfl⟩ | exact ⟨by unfold rB; rw [if_neg hil], rfl, rfl⟩
theorem c_X9_isSmall (hst : l.stackTraces = false) (x : Int32) : xx_C G l yX9_isSmall mX9_isSmall 0 0 0 0 [.int x] A n (xx_ro (some (.int (xx_b (97 ≤ x ∧ x ≤ 122)))) A n) := by
  refine J_C hst (by decide +kernel) rfl rfl rfl (Nat.le_of_ble_eq_true rfl) ?_
  show xx_J _ _ _ _ _ _ _ _ 0 [(0, _)] [] _ _ _ _
  refine J_iload_n dX9_isSmall_0 rfl rfl ?_
  refine J_bipush (v := 97) dX9_isSmall_1 (by decide) ?_
  refine J_icmp_lt (tgt := 16) dX9_isSmall_3 rfl (fun h3 => ?_) (fun h3 => ?_)
  · refine J_iconst (v := 0) dX9_isSmall_16 (by decide) ?_
    refine J_ireturn dX9_isSmall_17 rfl rfl (by decide) (by decide) ?_
    exact ⟨by unfold xx_b; split <;> first | rfl | (exfalso; simp only [i_lt, i_le] at *; omega) | (exfalso; simp only [Int32.not_le, Int32.not_lt] at *; grind), rfl, rfl⟩
  · refine J_iload_n dX9_isSmall_6 rfl rfl ?_
    refine J_bipush (v := 122) dX9_isSmall_7 (by decide) ?_
    refine J_icmp_gt (tgt := 16) dX9_isSmall_9 rfl (fun h9 => ?_) (fun h9 => ?_)
    · refine J_iconst (v := 0) dX9_isSmall_16 (by decide) ?_
      refine J_ireturn dX9_isSmall_17 rfl rfl (by decide) (by decide) ?_
      exact ⟨by unfold xx_b; split <;> first | rfl | (exfalso; simp only [i_lt, i_le] at *; omega) | (exfalso; simp only [Int32.not_le, Int32.not_lt] at *; grind), rfl, rfl⟩
    · refine J_iconst (v := 1) dX9_isSmall_12 (by decide) ?_
      refine J_goto (tgt := 17) dX9_isSmall_13 rfl ?_
      refine J_ireturn dX9_isSmall_17 rfl rfl (by decide) (by decide) ?_
      exact ⟨by unfold xx_b; split <;> first | rfl | (exfalso; simp only [i_lt, i_le] at *; omega) | (exfalso; simp only [Int32.not_le, Int32.not_lt] at *; grind), rfl, rfl⟩
theorem c_X9_isDigit (hst : l.stackTraces = false) (x : Int32) : xx_C G l yX9_isDigit mX9_isDigit 0 0 0 0 [.int x] A n (xx_ro (some (.int (xx_b (48 ≤ x ∧ x ≤ 57)))) A n) := by
  refine J_C hst (by decide +kernel) rfl rfl rfl (Nat.le_of_ble_eq_true rfl) ?_
  show xx_J _ _ _ _ _ _ _ _ 0 [(0, _)] [] _ _ _ _
  refine J_iload_n dX9_isDigit_0 rfl rfl ?_
  refine J_bipush (v := 48) dX9_isDigit_1 (by decide) ?_
  refine J_icmp_lt (tgt := 16) dX9_isDigit_3 rfl (fun h3 => ?_) (fun h3 => ?_)
  · refine J_iconst (v := 0) dX9_isDigit_16 (by decide) ?_
    refine J_ireturn dX9_isDigit_17 rfl rfl (by decide) (by decide) ?_
    exact ⟨by unfold xx_b; split <;> first | rfl | (exfalso; simp only [i_lt, i_le] at *; omega) | (exfalso; simp only [Int32.not_le, Int32.not_lt] at *; grind), rfl, rfl⟩
  · refine J_iload_n dX9_isDigit_6 rfl rfl ?_
    refine J_bipush (v := 57) dX9_isDigit_7 (by decide) ?_
    refine J_icmp_gt (tgt := 16) dX9_isDigit_9 rfl (fun h9 => ?_) (fun h9 => ?_)
    · refine J_iconst (v := 0) dX9_isDigit_16 (by decide) ?_
      refine J_ireturn dX9_isDigit_17 rfl rfl (by decide) (by decide) ?_
      exact ⟨by unfold xx_b; split <;> first | rfl | (exfalso; simp only [i_lt, i_le] at *; omega) | (exfalso; simp only [Int32.not_le, Int32.not_lt] at *; grind), rfl, rfl⟩
    · refine J_iconst (v := 1) dX9_isDigit_12 (by decide) ?_
      refine J_goto (tgt := 17) dX9_isDigit_13 rfl ?_
      refine J_ireturn dX9_isDigit_17 rfl rfl (by decide) (by decide) ?_
      exact ⟨by unfold xx_b; split <;> first | rfl | (exfalso; simp only [i_lt, i_le] at *; omega) | (exfalso; simp only [Int32.not_le, Int32.not_lt] at *; grind), rfl, rfl⟩
/-- what a letter or a digit counts in a word -/
def lt9 (x : Int32) : Int32 := if isLt x then x - 97 + 1 else x - 48 + 27
theorem c_X9_letter (hst : l.stackTraces = false) (x : Int32) : xx_C G l yX9_letter mX9_letter 1 20 0 0 [.int x] A n (xx_ro (some (.int (lt9 x))) A n) := by
  refine J_C hst (by decide +kernel) rfl rfl rfl (Nat.le_of_ble_eq_true rfl) ?_
  show xx_J _ _ _ _ _ _ _ _ 0 [(0, _)] [] _ _ _ _
  refine J_iload_n dX9_letter_0 rfl rfl ?_
  refine J_callSr (As := [_]) dX9_letter_1 ml_X9_265 cal_X9_isSmall sm_X9_isSmall rfl rfl (Nat.le_of_ble_eq_true rfl) ⟨by decide, by decide⟩ ⟨by decide, by decide⟩ (c_X9_isSmall hst _) ?_
  refine J_ifb_eq (tgt := 16) dX9_letter_4 rfl (fun h4 => ?_) (fun h4 => ?_)
  · refine J_iload_n dX9_letter_16 rfl rfl ?_
    refine J_bipush (v := 48) dX9_letter_17 (by decide) ?_
    refine J_isub dX9_letter_19 ?_
    refine J_bipush (v := 27) dX9_letter_20 (by decide) ?_
    refine J_iadd dX9_letter_22 ?_
    refine J_ireturn dX9_letter_23 rfl rfl (by decide) (by decide) ?_
    first | exact ⟨by unfold lt9; rw [if_pos h4], rfl, rfl⟩ | exact ⟨by unfold lt9; rw [if_neg h4], rfl, rfl⟩
  · refine J_iload_n dX9_letter_7 rfl rfl ?_
    refine J_bipush (v := 97) dX9_letter_8 (by decide) ?_
    refine J_isub dX9_letter_10 ?_
    refine J_iconst (v := 1) dX9_letter_11 (by decide) ?_
    refine J_iadd dX9_letter_12 ?_
    refine J_goto (tgt := 23) dX9_letter_13 rfl ?_
    refine J_ireturn dX9_letter_23 rfl rfl (by decide) (by decide) ?_
    first | exact ⟨by unfold lt9; rw [if_pos h4], rfl, rfl⟩ | exact ⟨by unfold lt9; rw [if_neg h4], rfl, rfl⟩
end XSB
