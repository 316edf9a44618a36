/-! THE REFERENCE: tokens -/
section XSB
variable {G : xx_G} {l : Launch} {A A' : xx_H} {n : Nat} {bm bp bs bn ba : Nat} {vL nl : Nat → Int64} {M M' M1 P S : xS} {T : xS} {len i j k q s e t d : Nat}
/-- a byte as the reference keeps it -/
def rb (x : Int32) : Int32 := if x < 0 then x + 256 else x
def rB (T : xS) (len i : Nat) : Int32 := if i < len then rb (T.2 1 i) else -1
/-- the tape of the reference is that of T -/
def tpR (M T : xS) (len : Nat) : Prop := M.1 2 = nI len ∧ len ≤ 2000 ∧ ∀ q, q < len → M.2 1 q = rb (T.2 1 q) ∧ -128 ≤ T.2 1 q ∧ T.2 1 q ≤ 127
theorem rb_i {x : Int32} (h : -128 ≤ x) (h2 : x ≤ 127) : (rb x).toInt = if x.toInt < 0 then x.toInt + 256 else x.toInt := by
  have a1 : (-128 : Int32).toInt = -128 := rfl
  have a2 : (127 : Int32).toInt = 127 := rfl
  rw [i_le] at h h2
  unfold rb
  by_cases c : x < 0
  · rw [if_pos c]
    rw [i_lt, i_0] at c
    rw [if_pos c, Int32.toInt_add]
    have a3 : (256 : Int32).toInt = 256 := rfl
    rw [a3]
    exact Int.bmod_eq_of_le (by omega) (by omega)
  · rw [if_neg c]
    rw [i_lt, i_0] at c
    rw [if_neg c]
theorem rB_c {c : Int32} (hM : tpR M T len) (hc : 0 < c) (hc2 : c ≤ 127) (i : Nat) : rB T len i = c ↔ bat T len i = c := by
  unfold rB bat
  have a2 : (127 : Int32).toInt = 127 := rfl
  rw [i_lt, i_0] at hc
  rw [i_le, a2] at hc2
  by_cases h : i < len
  · rw [if_pos h, if_pos h]
    obtain ⟨-, b1, b2⟩ := hM.2.2 i h
    have z := rb_i b1 b2
    rw [i_le] at b1 b2
    have a1 : (-128 : Int32).toInt = -128 := rfl
    rw [i_eq, i_eq, z]
    split <;> omega
  · rw [if_neg h, if_neg h]
    rw [i_eq, i_eq, i_0, i_m1]
    omega
theorem rB_r {c d : Int32} (hM : tpR M T len) (hc : 0 < c) (hd : d ≤ 127) (i : Nat) : (c ≤ rB T len i ∧ rB T len i ≤ d) ↔ (c ≤ bat T len i ∧ bat T len i ≤ d) := by
  unfold rB bat
  have a2 : (127 : Int32).toInt = 127 := rfl
  rw [i_lt, i_0] at hc
  rw [i_le, a2] at hd
  by_cases h : i < len
  · rw [if_pos h, if_pos h]
    obtain ⟨-, b1, b2⟩ := hM.2.2 i h
    have z := rb_i b1 b2
    rw [i_le] at b1 b2
    have a1 : (-128 : Int32).toInt = -128 := rfl
    simp only [i_le, z]
    split <;> omega
  · rw [if_neg h, if_neg h]
    simp only [i_le, i_0, i_m1]
    omega
theorem rB_L (hM : tpR M T len) (i : Nat) : isL (rB T len i) ↔ isL (bat T len i) := rB_r hM (by decide) (by decide) i
theorem rB_D (hM : tpR M T len) (i : Nat) : isD (rB T len i) ↔ isD (bat T len i) := rB_r hM (by decide) (by decide) i
theorem rB_m1 (hM : tpR M T len) (i : Nat) : rB T len i = -1 ↔ ¬ i < len := by
  unfold rB
  by_cases h : i < len
  · rw [if_pos h]
    obtain ⟨-, b1, b2⟩ := hM.2.2 i h
    have z := rb_i b1 b2
    rw [i_le] at b1 b2
    have a1 : (-128 : Int32).toInt = -128 := rfl
    rw [i_eq, z, i_m1]
    split <;> (constructor <;> intro w <;> first | omega | exact absurd h w)
  · rw [if_neg h]; exact ⟨fun _ => h, fun _ => rfl⟩
theorem bat_ni (h : ¬ i < len) : bat T len i = 0 := if_neg h
theorem rB_ni (h : ¬ i < len) : rB T len i = -1 := if_neg h
theorem LD_x {x : Int32} (h : isL x) : ¬ isD x := by
  obtain ⟨h1, h2⟩ := h
  rintro ⟨h3, h4⟩
  rw [i_le] at h1 h4
  have a1 : (97 : Int32).toInt = 97 := rfl
  have a2 : (57 : Int32).toInt = 57 := rfl
  omega
theorem LD_c {x : Int32} {c : Int32} (hc : ¬ isL c) (hd : ¬ isD c) (h : isL x ∨ isD x) : ¬ x = c := fun e => by
  rw [e] at h
  exact h.elim hc hd
theorem c_X9_byteOf (hst : l.stackTraces = false) (hM : xx_w bm (layM bp vL bn ba bm M) A) (htp : tpR M T len) {i : Nat} {x : Int32} (hx : x = nI i) (hi : i < 2 ^ 31) : xx_C G l yX9_byteOf mX9_byteOf 0 0 0 0 [.ref bm, .int x] A n (xx_ro (some (.int (rB T len i))) A n) := by
  have h2k := htp.2.1
  have elen : (M.1 2).toInt = len := by rw [htp.1]; exact i_n (by have := htp.2.1; omega)
  have ex : x.toInt = i := by rw [hx]; exact i_n hi
  refine J_C hst (by decide +kernel) rfl rfl rfl (Nat.le_of_ble_eq_true rfl) ?_
  show xx_J _ _ _ _ _ _ _ _ 0 [(0, _), (1, _)] [] _ _ _ _
  refine J_iload_n dX9_byteOf_0 rfl rfl ?_
  refine J_aload_n dX9_byteOf_1 rfl rfl ?_
  refine J_getf dX9_byteOf_2 fl_X9_259 (hM.at 0 rfl) rfl ?_
  refine J_icmp_ge (tgt := 17) dX9_byteOf_5 rfl (fun h5 => ?_) (fun h5 => ?_)
  · have hil : ¬ i < len := fun z => absurd h5 (Int32.not_le.mpr (by rw [i_lt]; omega))
    refine J_iconst (v := -1) dX9_byteOf_17 (by decide) ?_
    refine J_ireturn dX9_byteOf_18 rfl rfl (by decide) (by decide) ?_
    first | exact ⟨by unfold rB; rw [if_pos hil, (htp.2.2 i hil).1], rfl, rfl⟩ | exact ⟨by unfold rB; rw [if_neg hil], rfl, rfl⟩
  · have h5b : x < M.1 2 := Int32.not_le.mp h5
    have hil : i < len := by rw [i_lt] at h5b; omega
    refine J_aload_n dX9_byteOf_8 rfl rfl ?_
    refine J_getf dX9_byteOf_9 fl_X9_9 (hM.at 0 rfl) rfl ?_
    refine J_iload_n dX9_byteOf_12 rfl rfl ?_
    refine J_ialdN i dX9_byteOf_13 (hM.at 1 rfl) hx (by rw [i_lt] at h5b; omega) (by decide) ?_
    refine J_goto (tgt := 18) dX9_byteOf_14 rfl ?_
    refine J_ireturn dX9_byteOf_18 rfl rfl (by decide) (by decide) ?_
    first | exact ⟨by unfold rB; rw [if_pos hil, (htp.2.2 i hil).1], rfl, rfl⟩ | exact ⟨by unfold rB; rw [if_neg hil], rfl, rfl⟩
theorem c_X9_isSmall (hst : l.stackTraces = false) (x : Int32) : xx_C G l yX9_isSmall mX9_isSmall 0 0 0 0 [.int x] A n (xx_ro (some (.int (xx_b (97 ≤ x ∧ x ≤ 122)))) A n) := by
  refine J_C hst (by decide +kernel) rfl rfl rfl (Nat.le_of_ble_eq_true rfl) ?_
  show xx_J _ _ _ _ _ _ _ _ 0 [(0, _)] [] _ _ _ _
  refine J_iload_n dX9_isSmall_0 rfl rfl ?_
  refine J_bipush (v := 97) dX9_isSmall_1 (by decide) ?_
  refine J_icmp_lt (tgt := 16) dX9_isSmall_3 rfl (fun h3 => ?_) (fun h3 => ?_)
  · refine J_iconst (v := 0) dX9_isSmall_16 (by decide) ?_
    refine J_ireturn dX9_isSmall_17 rfl rfl (by decide) (by decide) ?_
    exact ⟨by unfold xx_b; split <;> first | rfl | (exfalso; simp only [i_lt, i_le] at *; omega) | (exfalso; simp only [Int32.not_le, Int32.not_lt] at *; grind), rfl, rfl⟩
  · refine J_iload_n dX9_isSmall_6 rfl rfl ?_
    refine J_bipush (v := 122) dX9_isSmall_7 (by decide) ?_
    refine J_icmp_gt (tgt := 16) dX9_isSmall_9 rfl (fun h9 => ?_) (fun h9 => ?_)
    · refine J_iconst (v := 0) dX9_isSmall_16 (by decide) ?_
      refine J_ireturn dX9_isSmall_17 rfl rfl (by decide) (by decide) ?_
      exact ⟨by unfold xx_b; split <;> first | rfl | (exfalso; simp only [i_lt, i_le] at *; omega) | (exfalso; simp only [Int32.not_le, Int32.not_lt] at *; grind), rfl, rfl⟩
    · refine J_iconst (v := 1) dX9_isSmall_12 (by decide) ?_
      refine J_goto (tgt := 17) dX9_isSmall_13 rfl ?_
      refine J_ireturn dX9_isSmall_17 rfl rfl (by decide) (by decide) ?_
      exact ⟨by unfold xx_b; split <;> first | rfl | (exfalso; simp only [i_lt, i_le] at *; omega) | (exfalso; simp only [Int32.not_le, Int32.not_lt] at *; grind), rfl, rfl⟩
theorem c_X9_isDigit (hst : l.stackTraces = false) (x : Int32) : xx_C G l yX9_isDigit mX9_isDigit 0 0 0 0 [.int x] A n (xx_ro (some (.int (xx_b (48 ≤ x ∧ x ≤ 57)))) A n) := by
  refine J_C hst (by decide +kernel) rfl rfl rfl (Nat.le_of_ble_eq_true rfl) ?_
  show xx_J _ _ _ _ _ _ _ _ 0 [(0, _)] [] _ _ _ _
  refine J_iload_n dX9_isDigit_0 rfl rfl ?_
  refine J_bipush (v := 48) dX9_isDigit_1 (by decide) ?_
  refine J_icmp_lt (tgt := 16) dX9_isDigit_3 rfl (fun h3 => ?_) (fun h3 => ?_)
  · refine J_iconst (v := 0) dX9_isDigit_16 (by decide) ?_
    refine J_ireturn dX9_isDigit_17 rfl rfl (by decide) (by decide) ?_
    exact ⟨by unfold xx_b; split <;> first | rfl | (exfalso; simp only [i_lt, i_le] at *; omega) | (exfalso; simp only [Int32.not_le, Int32.not_lt] at *; grind), rfl, rfl⟩
  · refine J_iload_n dX9_isDigit_6 rfl rfl ?_
    refine J_bipush (v := 57) dX9_isDigit_7 (by decide) ?_
    refine J_icmp_gt (tgt := 16) dX9_isDigit_9 rfl (fun h9 => ?_) (fun h9 => ?_)
    · refine J_iconst (v := 0) dX9_isDigit_16 (by decide) ?_
      refine J_ireturn dX9_isDigit_17 rfl rfl (by decide) (by decide) ?_
      exact ⟨by unfold xx_b; split <;> first | rfl | (exfalso; simp only [i_lt, i_le] at *; omega) | (exfalso; simp only [Int32.not_le, Int32.not_lt] at *; grind), rfl, rfl⟩
    · refine J_iconst (v := 1) dX9_isDigit_12 (by decide) ?_
      refine J_goto (tgt := 17) dX9_isDigit_13 rfl ?_
      refine J_ireturn dX9_isDigit_17 rfl rfl (by decide) (by decide) ?_
      exact ⟨by unfold xx_b; split <;> first | rfl | (exfalso; simp only [i_lt, i_le] at *; omega) | (exfalso; simp only [Int32.not_le, Int32.not_lt] at *; grind), rfl, rfl⟩
/-- what a letter or a digit counts in a word -/
def lt9 (x : Int32) : Int32 := if isL x then x - 97 + 1 else x - 48 + 27
theorem c_X9_letter (hst : l.stackTraces = false) (x : Int32) : xx_C G l yX9_letter mX9_letter 1 20 0 0 [.int x] A n (xx_ro (some (.int (lt9 x))) A n) := by
  refine J_C hst (by decide +kernel) rfl rfl rfl (Nat.le_of_ble_eq_true rfl) ?_
  show xx_J _ _ _ _ _ _ _ _ 0 [(0, _)] [] _ _ _ _
  refine J_iload_n dX9_letter_0 rfl rfl ?_
  refine J_callSr (As := [_]) dX9_letter_1 ml_X9_265 cal_X9_isSmall sm_X9_isSmall rfl rfl (Nat.le_of_ble_eq_true rfl) ⟨by decide, by decide⟩ ⟨by decide, by decide⟩ (c_X9_isSmall hst _) ?_
  refine J_ifb_eq (tgt := 16) dX9_letter_4 rfl (fun h4 => ?_) (fun h4 => ?_)
  · refine J_iload_n dX9_letter_16 rfl rfl ?_
    refine J_bipush (v := 48) dX9_letter_17 (by decide) ?_
    refine J_isub dX9_letter_19 ?_
    refine J_bipush (v := 27) dX9_letter_20 (by decide) ?_
    refine J_iadd dX9_letter_22 ?_
    refine J_ireturn dX9_letter_23 rfl rfl (by decide) (by decide) ?_
    first | exact ⟨by unfold lt9; rw [if_pos h4], rfl, rfl⟩ | exact ⟨by unfold lt9; rw [if_neg h4], rfl, rfl⟩
  · refine J_iload_n dX9_letter_7 rfl rfl ?_
    refine J_bipush (v := 97) dX9_letter_8 (by decide) ?_
    refine J_isub dX9_letter_10 ?_
    refine J_iconst (v := 1) dX9_letter_11 (by decide) ?_
    refine J_iadd dX9_letter_12 ?_
    refine J_goto (tgt := 23) dX9_letter_13 rfl ?_
    refine J_ireturn dX9_letter_23 rfl rfl (by decide) (by decide) ?_
    first | exact ⟨by unfold lt9; rw [if_pos h4], rfl, rfl⟩ | exact ⟨by unfold lt9; rw [if_neg h4], rfl, rfl⟩
theorem eot_1 (hL : ¬ isL (bat T len s)) (hD : ¬ isD (bat T len s)) (h : ¬ ((bat T len s = 60 ∨ bat T len s = 62) ∧ bat T len (s + 1) = 61)) : (if s < len then eotF T len s else s + 1) = s + 1 := by
  split
  · unfold eotF eosF
    rw [if_neg (fun z => z.elim hL hD), if_neg h]
    omega
  · rfl
theorem eot_2 (hL : ¬ isL (bat T len s)) (hD : ¬ isD (bat T len s)) (h : bat T len s = 60 ∨ bat T len s = 62) (h2 : bat T len (s + 1) = 61) : (if s < len then eotF T len s else s + 1) = s + 2 := by
  have hs : s + 1 < len := by
    by_cases c : s + 1 < len
    · exact c
    · rw [bat_ni c] at h2; exact absurd h2 (by decide)
  rw [if_pos (by omega)]
  unfold eotF eosF
  rw [if_neg (fun z => z.elim hL hD), if_pos ⟨h, h2⟩]
  omega
theorem tp_LD (htp : tpR M T len) (h : isL (bat T len i) ∨ isD (bat T len i)) : M.2 1 i = bat T len i := by
  have hi := bat_in h
  obtain ⟨a1, b1, b2⟩ := htp.2.2 i hi
  rw [a1]
  unfold bat at h ⊢
  rw [if_pos hi] at h ⊢
  unfold rb
  rw [if_neg (fun c => ?_)]
  have c0 : (0 : Int32).toInt = 0 := rfl
  have c1 : (97 : Int32).toInt = 97 := rfl
  have c2 : (48 : Int32).toInt = 48 := rfl
  rcases h with h | h
  · have := h.1; rw [i_lt] at c; rw [i_le] at this; omega
  · have := h.1; rw [i_lt] at c; rw [i_le] at this; omega
theorem etl_ge (lt : Prop) [Decidable lt] : ∀ d i, i ≤ etl T len lt d i := by
  intro d
  induction d with
  | zero => intro i; exact Nat.le_refl _
  | succ d ih =>
    intro i
    simp only [etl]
    split
    · have := ih (i + 1); omega
    · omega
theorem etl_all (lt : Prop) [Decidable lt] : ∀ d i q, i ≤ q → q < etl T len lt d i → isD (bat T len q) ∨ (lt ∧ isL (bat T len q)) := by
  intro d
  induction d with
  | zero => intro i q h1 h2; simp only [etl] at h2; omega
  | succ d ih =>
    intro i q h1 h2
    simp only [etl] at h2
    split at h2
    · rename_i hc
      by_cases e : q = i
      · rw [e]; exact hc
      · exact ih (i + 1) q (by omega) h2
    · omega
theorem c_X9_endOf (hst : l.stackTraces = false) (hM : xx_w bm (layM bp vL bn ba bm M) A) (htp : tpR M T len) {s : Nat} {x0 : Int32} (hx0 : x0 = nI s) (hs : s ≤ len) : xx_C G l yX9_endOf mX9_endOf 1 21 0 0 [.ref bm, .int x0] A n (xx_ro (some (.int (nI (if s < len then eotF T len s else s + 1)))) A n) := by
  have h2k := htp.2.1
  obtain ⟨E, hE⟩ : ∃ E, E = (if s < len then eotF T len s else s + 1) := ⟨_, rfl⟩
  rw [← hE]
  refine J_C hst (by decide +kernel) rfl rfl rfl (Nat.le_of_ble_eq_true rfl) ?_
  show xx_J _ _ _ _ _ _ _ _ 0 [(0, _), (1, _)] [] _ _ _ _
  refine J_aload_n dX9_endOf_0 rfl rfl ?_
  refine J_iload_n dX9_endOf_1 rfl rfl ?_
  refine J_callVr (As := [_]) dX9_endOf_2 ml_X9_262 cal_X9_byteOf im_X9_byteOf se_X9_byteOf (hM.at 0 rfl) rfl rfl rfl (Nat.le_of_ble_eq_true rfl) ⟨by decide, by decide⟩ ⟨by decide, by decide⟩ (c_X9_byteOf hst hM htp hx0 (by omega)) ?_
  refine J_istore_n (L' := [(2, _), (0, _), (1, _)]) dX9_endOf_5 rfl (by decide) rfl ?_
  refine J_iload_n dX9_endOf_6 rfl rfl ?_
  refine J_iconst (v := 1) dX9_endOf_7 (by decide) ?_
  refine J_iadd dX9_endOf_8 ?_
  refine J_istore_n (L' := [(3, _), (2, _), (0, _), (1, _)]) dX9_endOf_9 rfl (by decide) rfl ?_
  refine J_iload_n dX9_endOf_10 rfl rfl ?_
  refine J_callSr (As := [_]) dX9_endOf_11 ml_X9_265 cal_X9_isSmall sm_X9_isSmall rfl rfl (Nat.le_of_ble_eq_true rfl) ⟨by decide, by decide⟩ ⟨by decide, by decide⟩ (c_X9_isSmall hst _) ?_
  refine J_ifb_eq (tgt := 45) dX9_endOf_14 rfl (fun h14 => ?_) (fun h14 => ?_)
  · have hnL : ¬ isL (bat T len s) := fun z => h14 ((rB_L htp s).mpr z)
    refine J_iload_n dX9_endOf_45 rfl rfl ?_
    refine J_callSr (As := [_]) dX9_endOf_46 ml_X9_268 cal_X9_isDigit sm_X9_isDigit rfl rfl (Nat.le_of_ble_eq_true rfl) ⟨by decide, by decide⟩ ⟨by decide, by decide⟩ (c_X9_isDigit hst _) ?_
    refine J_ifb_eq (tgt := 69) dX9_endOf_49 rfl (fun h49 => ?_) (fun h49 => ?_)
    · have hnD : ¬ isD (bat T len s) := fun z => h49 ((rB_D htp s).mpr z)
      refine J_iload_n dX9_endOf_69 rfl rfl ?_
      refine J_bipush (v := 60) dX9_endOf_70 (by decide) ?_
      refine J_icmp_eq (tgt := 81) dX9_endOf_72 rfl (fun h72 => ?_) (fun h72 => ?_)
      · refine J_aload_n dX9_endOf_81 rfl rfl ?_
        refine J_iload_n dX9_endOf_82 rfl rfl ?_
        refine J_callVr (As := [_]) dX9_endOf_83 ml_X9_262 cal_X9_byteOf im_X9_byteOf se_X9_byteOf (hM.at 0 rfl) rfl rfl rfl (Nat.le_of_ble_eq_true rfl) ⟨by decide, by decide⟩ ⟨by decide, by decide⟩ (c_X9_byteOf hst hM htp (i := s + 1) (by rw [hx0]; exact nI_1 s) (by omega)) ?_
        refine J_bipush (v := 61) dX9_endOf_86 (by decide) ?_
        refine J_icmp_ne (tgt := 94) dX9_endOf_88 rfl (fun h88 => ?_) (fun h88 => ?_)
        · have hval : x0 + 1 = nI E := by rw [hE, eot_1 hnL hnD (fun z => h88 ((rB_c htp (by decide) (by decide) (s + 1)).mpr z.2)), hx0, nI_1]
          refine J_iload_n dX9_endOf_94 rfl rfl ?_
          refine J_ireturn dX9_endOf_95 rfl rfl (by decide) (by decide) ?_
          exact ⟨by rw [hval], rfl, rfl⟩
        · have hq1 : bat T len s = 60 ∨ bat T len s = 62 := by
            first
              | exact Or.inl ((rB_c htp (by decide) (by decide) s).mp h72)
              | exact Or.inr ((rB_c htp (by decide) (by decide) s).mp h78)
          have hval : x0 + 1 + 1 = nI E := by rw [hE, eot_2 hnL hnD hq1 ((rB_c htp (by decide) (by decide) (s + 1)).mp h88), hx0, nI_1, nI_1]
          refine J_iinc (v := _ + 1) (L' := [(3, _), (2, _), (0, _), (1, _)]) dX9_endOf_91 rfl rfl (by decide) rfl ?_
          refine J_iload_n dX9_endOf_94 rfl rfl ?_
          refine J_ireturn dX9_endOf_95 rfl rfl (by decide) (by decide) ?_
          exact ⟨by rw [hval], rfl, rfl⟩
      · refine J_iload_n dX9_endOf_75 rfl rfl ?_
        refine J_bipush (v := 62) dX9_endOf_76 (by decide) ?_
        refine J_icmp_ne (tgt := 94) dX9_endOf_78 rfl (fun h78 => ?_) (fun h78 => ?_)
        · have hval : x0 + 1 = nI E := by rw [hE, eot_1 hnL hnD (fun z => z.1.elim (fun w => h72 ((rB_c htp (by decide) (by decide) s).mpr w)) (fun w => h78 ((rB_c htp (by decide) (by decide) s).mpr w))), hx0, nI_1]
          refine J_iload_n dX9_endOf_94 rfl rfl ?_
          refine J_ireturn dX9_endOf_95 rfl rfl (by decide) (by decide) ?_
          exact ⟨by rw [hval], rfl, rfl⟩
        · refine J_aload_n dX9_endOf_81 rfl rfl ?_
          refine J_iload_n dX9_endOf_82 rfl rfl ?_
          refine J_callVr (As := [_]) dX9_endOf_83 ml_X9_262 cal_X9_byteOf im_X9_byteOf se_X9_byteOf (hM.at 0 rfl) rfl rfl rfl (Nat.le_of_ble_eq_true rfl) ⟨by decide, by decide⟩ ⟨by decide, by decide⟩ (c_X9_byteOf hst hM htp (i := s + 1) (by rw [hx0]; exact nI_1 s) (by omega)) ?_
          refine J_bipush (v := 61) dX9_endOf_86 (by decide) ?_
          refine J_icmp_ne (tgt := 94) dX9_endOf_88 rfl (fun h88 => ?_) (fun h88 => ?_)
          · have hval : x0 + 1 = nI E := by rw [hE, eot_1 hnL hnD (fun z => h88 ((rB_c htp (by decide) (by decide) (s + 1)).mpr z.2)), hx0, nI_1]
            refine J_iload_n dX9_endOf_94 rfl rfl ?_
            refine J_ireturn dX9_endOf_95 rfl rfl (by decide) (by decide) ?_
            exact ⟨by rw [hval], rfl, rfl⟩
          · have hq1 : bat T len s = 60 ∨ bat T len s = 62 := by
              first
                | exact Or.inl ((rB_c htp (by decide) (by decide) s).mp h72)
                | exact Or.inr ((rB_c htp (by decide) (by decide) s).mp h78)
            have hval : x0 + 1 + 1 = nI E := by rw [hE, eot_2 hnL hnD hq1 ((rB_c htp (by decide) (by decide) (s + 1)).mp h88), hx0, nI_1, nI_1]
            refine J_iinc (v := _ + 1) (L' := [(3, _), (2, _), (0, _), (1, _)]) dX9_endOf_91 rfl rfl (by decide) rfl ?_
            refine J_iload_n dX9_endOf_94 rfl rfl ?_
            refine J_ireturn dX9_endOf_95 rfl rfl (by decide) (by decide) ?_
            exact ⟨by rw [hval], rfl, rfl⟩
    · have hD : isD (bat T len s) := (rB_D htp s).mp h49
      have hsl : s < len := bat_in (Or.inr hD)
      have loopb : ∀ i, i ≤ len → ∀ (x : Int32) , (x = nI i) → (etl T len (isL (bat T len s)) (len - i) i = E) → xx_J G l mX9_endOf 1 21 0 0 (xx_ro (some (.int (nI E))) A n) 52 [(3, .int x), (2, .int (rB T len s)), (0, .ref bm), (1, .int x0)] [] A n 0 0 := by
        refine xx_dn ?_ ?_
        · intro x   hx hv
          refine J_aload_n dX9_endOf_52 rfl rfl ?_
          refine J_iload_n dX9_endOf_53 rfl rfl ?_
          refine J_callVr (As := [_]) dX9_endOf_54 ml_X9_262 cal_X9_byteOf im_X9_byteOf se_X9_byteOf (hM.at 0 rfl) rfl rfl rfl (Nat.le_of_ble_eq_true rfl) ⟨by decide, by decide⟩ ⟨by decide, by decide⟩ (c_X9_byteOf hst hM htp hx (by omega)) ?_
          refine J_callSr (As := [_]) dX9_endOf_57 ml_X9_268 cal_X9_isDigit sm_X9_isDigit rfl rfl (Nat.le_of_ble_eq_true rfl) ⟨by decide, by decide⟩ ⟨by decide, by decide⟩ (c_X9_isDigit hst _) ?_
          refine J_ifb_eq (tgt := 69) dX9_endOf_60 rfl (fun h60 => ?_) (fun h60 => ?_)
          · refine J_iload_n dX9_endOf_69 rfl rfl ?_
            refine J_bipush (v := 60) dX9_endOf_70 (by decide) ?_
            refine J_icmp_eq (tgt := 81) dX9_endOf_72 rfl (fun h72 => ?_) (fun h72 => ?_)
            · exact absurd ((rB_c htp (by decide) (by decide) s).mp h72) (LD_c (by decide) (by decide) (Or.inr hD))
            · refine J_iload_n dX9_endOf_75 rfl rfl ?_
              refine J_bipush (v := 62) dX9_endOf_76 (by decide) ?_
              refine J_icmp_ne (tgt := 94) dX9_endOf_78 rfl (fun h78 => ?_) (fun h78 => ?_)
              · skip
                refine J_iload_n dX9_endOf_94 rfl rfl ?_
                refine J_ireturn dX9_endOf_95 rfl rfl (by decide) (by decide) ?_
                exact ⟨by rw [hx, ← hv, Nat.sub_self]; rfl, rfl, rfl⟩
              · exact absurd ((rB_c htp (by decide) (by decide) s).mp h78) (LD_c (by decide) (by decide) (Or.inr hD))
          · exact absurd h60 (by rw [rB_ni (Nat.lt_irrefl len)]; decide)
        · intro i hii ih x   hx hv
          refine J_aload_n dX9_endOf_52 rfl rfl ?_
          refine J_iload_n dX9_endOf_53 rfl rfl ?_
          refine J_callVr (As := [_]) dX9_endOf_54 ml_X9_262 cal_X9_byteOf im_X9_byteOf se_X9_byteOf (hM.at 0 rfl) rfl rfl rfl (Nat.le_of_ble_eq_true rfl) ⟨by decide, by decide⟩ ⟨by decide, by decide⟩ (c_X9_byteOf hst hM htp hx (by omega)) ?_
          refine J_callSr (As := [_]) dX9_endOf_57 ml_X9_268 cal_X9_isDigit sm_X9_isDigit rfl rfl (Nat.le_of_ble_eq_true rfl) ⟨by decide, by decide⟩ ⟨by decide, by decide⟩ (c_X9_isDigit hst _) ?_
          refine J_ifb_eq (tgt := 69) dX9_endOf_60 rfl (fun h60 => ?_) (fun h60 => ?_)
          · refine J_iload_n dX9_endOf_69 rfl rfl ?_
            refine J_bipush (v := 60) dX9_endOf_70 (by decide) ?_
            refine J_icmp_eq (tgt := 81) dX9_endOf_72 rfl (fun h72 => ?_) (fun h72 => ?_)
            · exact absurd ((rB_c htp (by decide) (by decide) s).mp h72) (LD_c (by decide) (by decide) (Or.inr hD))
            · refine J_iload_n dX9_endOf_75 rfl rfl ?_
              refine J_bipush (v := 62) dX9_endOf_76 (by decide) ?_
              refine J_icmp_ne (tgt := 94) dX9_endOf_78 rfl (fun h78 => ?_) (fun h78 => ?_)
              · skip
                refine J_iload_n dX9_endOf_94 rfl rfl ?_
                refine J_ireturn dX9_endOf_95 rfl rfl (by decide) (by decide) ?_
                exact ⟨by rw [hx, ← hv, etl_s hii, if_neg (fun z => z.elim (fun d => h60 ((rB_D htp i).mpr d)) (fun d => hnL d.1))], rfl, rfl⟩
              · exact absurd ((rB_c htp (by decide) (by decide) s).mp h78) (LD_c (by decide) (by decide) (Or.inr hD))
          · refine J_iinc (v := _ + 1) (L' := [(3, _), (2, _), (0, _), (1, _)]) dX9_endOf_63 rfl rfl (by decide) rfl ?_
            refine J_goto (tgt := 52) dX9_endOf_66 rfl ?_
            refine xx_J.pick [0, 1, 2, 3] rfl ?_
            exact ih _  (by rw [hx]; exact nI_1 i) (by rw [← hv, etl_s hii, if_pos (Or.inl ((rB_D htp i).mp h60))])
      refine xx_J.pick [0, 1, 2, 3] rfl ?_
      exact loopb (s + 1) (by omega) _  (by rw [hx0]; exact nI_1 s) (by rw [hE, if_pos hsl]; unfold eotF; rw [if_pos (Or.inr hD)])
  · have hL : isL (bat T len s) := (rB_L htp s).mp h14
    have hsl : s < len := bat_in (Or.inl hL)
    have loopa : ∀ i, i ≤ len → ∀ (x : Int32) , (x = nI i) → (etl T len (isL (bat T len s)) (len - i) i = E) → xx_J G l mX9_endOf 1 21 0 0 (xx_ro (some (.int (nI E))) A n) 17 [(3, .int x), (2, .int (rB T len s)), (0, .ref bm), (1, .int x0)] [] A n 0 0 := by
      refine xx_dn ?_ ?_
      · intro x   hx hv
        refine J_aload_n dX9_endOf_17 rfl rfl ?_
        refine J_iload_n dX9_endOf_18 rfl rfl ?_
        refine J_callVr (As := [_]) dX9_endOf_19 ml_X9_262 cal_X9_byteOf im_X9_byteOf se_X9_byteOf (hM.at 0 rfl) rfl rfl rfl (Nat.le_of_ble_eq_true rfl) ⟨by decide, by decide⟩ ⟨by decide, by decide⟩ (c_X9_byteOf hst hM htp hx (by omega)) ?_
        refine J_callSr (As := [_]) dX9_endOf_22 ml_X9_265 cal_X9_isSmall sm_X9_isSmall rfl rfl (Nat.le_of_ble_eq_true rfl) ⟨by decide, by decide⟩ ⟨by decide, by decide⟩ (c_X9_isSmall hst _) ?_
        refine J_ifb_ne (tgt := 39) dX9_endOf_25 rfl (fun h25 => ?_) (fun h25 => ?_)
        · exact absurd h25 (by rw [rB_ni (Nat.lt_irrefl len)]; decide)
        · refine J_aload_n dX9_endOf_28 rfl rfl ?_
          refine J_iload_n dX9_endOf_29 rfl rfl ?_
          refine J_callVr (As := [_]) dX9_endOf_30 ml_X9_262 cal_X9_byteOf im_X9_byteOf se_X9_byteOf (hM.at 0 rfl) rfl rfl rfl (Nat.le_of_ble_eq_true rfl) ⟨by decide, by decide⟩ ⟨by decide, by decide⟩ (c_X9_byteOf hst hM htp hx (by omega)) ?_
          refine J_callSr (As := [_]) dX9_endOf_33 ml_X9_268 cal_X9_isDigit sm_X9_isDigit rfl rfl (Nat.le_of_ble_eq_true rfl) ⟨by decide, by decide⟩ ⟨by decide, by decide⟩ (c_X9_isDigit hst _) ?_
          refine J_ifb_eq (tgt := 45) dX9_endOf_36 rfl (fun h36 => ?_) (fun h36 => ?_)
          · refine J_iload_n dX9_endOf_45 rfl rfl ?_
            refine J_callSr (As := [_]) dX9_endOf_46 ml_X9_268 cal_X9_isDigit sm_X9_isDigit rfl rfl (Nat.le_of_ble_eq_true rfl) ⟨by decide, by decide⟩ ⟨by decide, by decide⟩ (c_X9_isDigit hst _) ?_
            refine J_ifb_eq (tgt := 69) dX9_endOf_49 rfl (fun h49 => ?_) (fun h49 => ?_)
            · skip
              refine J_iload_n dX9_endOf_69 rfl rfl ?_
              refine J_bipush (v := 60) dX9_endOf_70 (by decide) ?_
              refine J_icmp_eq (tgt := 81) dX9_endOf_72 rfl (fun h72 => ?_) (fun h72 => ?_)
              · exact absurd ((rB_c htp (by decide) (by decide) s).mp h72) (LD_c (by decide) (by decide) (Or.inl hL))
              · refine J_iload_n dX9_endOf_75 rfl rfl ?_
                refine J_bipush (v := 62) dX9_endOf_76 (by decide) ?_
                refine J_icmp_ne (tgt := 94) dX9_endOf_78 rfl (fun h78 => ?_) (fun h78 => ?_)
                · skip
                  refine J_iload_n dX9_endOf_94 rfl rfl ?_
                  refine J_ireturn dX9_endOf_95 rfl rfl (by decide) (by decide) ?_
                  exact ⟨by rw [hx, ← hv, Nat.sub_self]; rfl, rfl, rfl⟩
                · exact absurd ((rB_c htp (by decide) (by decide) s).mp h78) (LD_c (by decide) (by decide) (Or.inl hL))
            · exact absurd ((rB_D htp s).mp h49) (LD_x hL)
          · exact absurd h36 (by rw [rB_ni (Nat.lt_irrefl len)]; decide)
      · intro i hii ih x   hx hv
        refine J_aload_n dX9_endOf_17 rfl rfl ?_
        refine J_iload_n dX9_endOf_18 rfl rfl ?_
        refine J_callVr (As := [_]) dX9_endOf_19 ml_X9_262 cal_X9_byteOf im_X9_byteOf se_X9_byteOf (hM.at 0 rfl) rfl rfl rfl (Nat.le_of_ble_eq_true rfl) ⟨by decide, by decide⟩ ⟨by decide, by decide⟩ (c_X9_byteOf hst hM htp hx (by omega)) ?_
        refine J_callSr (As := [_]) dX9_endOf_22 ml_X9_265 cal_X9_isSmall sm_X9_isSmall rfl rfl (Nat.le_of_ble_eq_true rfl) ⟨by decide, by decide⟩ ⟨by decide, by decide⟩ (c_X9_isSmall hst _) ?_
        refine J_ifb_ne (tgt := 39) dX9_endOf_25 rfl (fun h25 => ?_) (fun h25 => ?_)
        · have hor : isD (bat T len i) ∨ (isL (bat T len s) ∧ isL (bat T len i)) := Or.inr ⟨hL, (rB_L htp i).mp h25⟩
          refine J_iinc (v := _ + 1) (L' := [(3, _), (2, _), (0, _), (1, _)]) dX9_endOf_39 rfl rfl (by decide) rfl ?_
          refine J_goto (tgt := 17) dX9_endOf_42 rfl ?_
          refine xx_J.pick [0, 1, 2, 3] rfl ?_
          exact ih _  (by rw [hx]; exact nI_1 i) (by rw [← hv, etl_s hii, if_pos hor])
        · refine J_aload_n dX9_endOf_28 rfl rfl ?_
          refine J_iload_n dX9_endOf_29 rfl rfl ?_
          refine J_callVr (As := [_]) dX9_endOf_30 ml_X9_262 cal_X9_byteOf im_X9_byteOf se_X9_byteOf (hM.at 0 rfl) rfl rfl rfl (Nat.le_of_ble_eq_true rfl) ⟨by decide, by decide⟩ ⟨by decide, by decide⟩ (c_X9_byteOf hst hM htp hx (by omega)) ?_
          refine J_callSr (As := [_]) dX9_endOf_33 ml_X9_268 cal_X9_isDigit sm_X9_isDigit rfl rfl (Nat.le_of_ble_eq_true rfl) ⟨by decide, by decide⟩ ⟨by decide, by decide⟩ (c_X9_isDigit hst _) ?_
          refine J_ifb_eq (tgt := 45) dX9_endOf_36 rfl (fun h36 => ?_) (fun h36 => ?_)
          · refine J_iload_n dX9_endOf_45 rfl rfl ?_
            refine J_callSr (As := [_]) dX9_endOf_46 ml_X9_268 cal_X9_isDigit sm_X9_isDigit rfl rfl (Nat.le_of_ble_eq_true rfl) ⟨by decide, by decide⟩ ⟨by decide, by decide⟩ (c_X9_isDigit hst _) ?_
            refine J_ifb_eq (tgt := 69) dX9_endOf_49 rfl (fun h49 => ?_) (fun h49 => ?_)
            · skip
              refine J_iload_n dX9_endOf_69 rfl rfl ?_
              refine J_bipush (v := 60) dX9_endOf_70 (by decide) ?_
              refine J_icmp_eq (tgt := 81) dX9_endOf_72 rfl (fun h72 => ?_) (fun h72 => ?_)
              · exact absurd ((rB_c htp (by decide) (by decide) s).mp h72) (LD_c (by decide) (by decide) (Or.inl hL))
              · refine J_iload_n dX9_endOf_75 rfl rfl ?_
                refine J_bipush (v := 62) dX9_endOf_76 (by decide) ?_
                refine J_icmp_ne (tgt := 94) dX9_endOf_78 rfl (fun h78 => ?_) (fun h78 => ?_)
                · skip
                  refine J_iload_n dX9_endOf_94 rfl rfl ?_
                  refine J_ireturn dX9_endOf_95 rfl rfl (by decide) (by decide) ?_
                  exact ⟨by rw [hx, ← hv, etl_s hii, if_neg (fun z => z.elim (fun d => h36 ((rB_D htp i).mpr d)) (fun d => h25 ((rB_L htp i).mpr d.2)))], rfl, rfl⟩
                · exact absurd ((rB_c htp (by decide) (by decide) s).mp h78) (LD_c (by decide) (by decide) (Or.inl hL))
            · exact absurd ((rB_D htp s).mp h49) (LD_x hL)
          · have hor : isD (bat T len i) ∨ (isL (bat T len s) ∧ isL (bat T len i)) := Or.inl ((rB_D htp i).mp h36)
            refine J_iinc (v := _ + 1) (L' := [(3, _), (2, _), (0, _), (1, _)]) dX9_endOf_39 rfl rfl (by decide) rfl ?_
            refine J_goto (tgt := 17) dX9_endOf_42 rfl ?_
            refine xx_J.pick [0, 1, 2, 3] rfl ?_
            exact ih _  (by rw [hx]; exact nI_1 i) (by rw [← hv, etl_s hii, if_pos hor])
    refine xx_J.pick [0, 1, 2, 3] rfl ?_
    exact loopa (s + 1) (by omega) _  (by rw [hx0]; exact nI_1 s) (by rw [hE, if_pos hsl]; unfold eotF; rw [if_pos (Or.inl hL)])
theorem mul10 (a x : Int32) : 10 * a + x - 48 = a * 10 + (x - 48) := by
  rw [Int32.mul_comm, Int32.sub_eq_add_neg, Int32.sub_eq_add_neg, Int32.add_assoc]
/-- a word as a number of base 37 -/
def hsh (f : Nat → Int32) : Nat → Int64
  | 0 => 0
  | d + 1 => 37 * hsh f d + (lt9 (f d)).toInt64
def tpw (T : xS) (len s : Nat) (p : Nat) : Int32 := bat T len (s + p)
def txw (i p : Nat) : Int32 := (txt i).getD p 0
/-- the first of the words from i on that counts h; 30 if there is none -/
def wdF (h : Int64) : Nat → Nat → Nat
  | 0, _ => 30
  | d + 1, i => if hsh (txw i) (txt i).length = h then i else wdF h d (i + 1)
theorem wdF_s {h : Int64} {i : Nat} (hi : i < 20) : wdF h (20 - i) i = if hsh (txw i) (txt i).length = h then i else wdF h (20 - (i + 1)) (i + 1) := by
  rw [show 20 - i = (20 - (i + 1)) + 1 by omega]
  rfl
theorem st_words : ("BeltRoundsModel", "WORDS", "[Ljava/lang/String;", Value.ref 40) ∈ xx_st := List.mem_append_right _ (List.mem_cons_of_mem _ (List.mem_cons_self ..))
theorem sa_words : (40, FieldType.object "java/lang/String", 20, fun j => Value.ref (41 + j)) ∈ xx_sa := List.mem_cons_of_mem _ (List.mem_cons_self ..)
theorem lg_eq {x y : Int64} : lg_cmp x y = 0 ↔ x = y := by
  unfold lg_cmp
  split
  · rename_i h
    exact ⟨fun z => absurd z (by decide), fun z => by rw [z] at h; exact absurd h (Int64.lt_irrefl)⟩
  · split
    · rename_i h; exact ⟨fun _ => h, fun _ => rfl⟩
    · rename_i h; exact ⟨fun z => absurd z (by decide), fun z => absurd z h⟩
theorem c_X9_numberAt (hst : l.stackTraces = false) (hM : xx_w bm (layM bp vL bn ba bm M) A) (htp : tpR M T len) {t : Nat} {x0 : Int32} (hx0 : x0 = nI t) (ht : t < 401) {s e : Nat} {x1 x2 : Int32} (hx1 : x1 = nI s) (hx2 : x2 = nI e) (hse : s ≤ e) (hel : e ≤ len) (hdg : ∀ q, s ≤ q → q < e → isD (bat T len q)) : xx_C G l yX9_numberAt mX9_numberAt 0 0 0 0 [.ref bm, .int x0, .int x1, .int x2] A n (xx_wr (some (.int (31))) n (fun A' => xx_w bm (layM bp (vp_updL vL t ((nmF T len (e - s) s 0).toInt64)) bn ba bm M) A' ∧ xx_mf bm A A')) := by
  have h2k := htp.2.1
  refine J_C hst (by decide +kernel) rfl rfl rfl (Nat.le_of_ble_eq_true rfl) ?_
  show xx_J _ _ _ _ _ _ _ _ 0 [(0, _), (1, _), (2, _), (3, _)] [] _ _ _ _
  refine J_iconst (v := 0) dX9_numberAt_0 (by decide) ?_
  refine J_istore (L' := [(4, _), (0, _), (1, _), (2, _), (3, _)]) dX9_numberAt_1 (by decide) rfl ?_
  refine J_iload_n dX9_numberAt_3 rfl rfl ?_
  refine J_istore (L' := [(5, _), (4, _), (0, _), (1, _), (2, _), (3, _)]) dX9_numberAt_4 (by decide) rfl ?_
  have loop : ∀ i, i ≤ e → ∀ (x c : Int32) , (x = nI i) → (nmF T len (e - i) i c = nmF T len (e - s) s 0) → (s ≤ i) → xx_J G l mX9_numberAt 0 0 0 0 (xx_wr (some (.int (31))) n (fun A' => xx_w bm (layM bp (vp_updL vL t ((nmF T len (e - s) s 0).toInt64)) bn ba bm M) A' ∧ xx_mf bm A A')) 6 [(5, .int x), (4, .int c), (0, .ref bm), (1, .int x0), (2, .int x1), (3, .int x2)] [] A n 0 0 := by
    refine xx_dn ?_ ?_
    · intro x c   hx hv hi2
      have h2k := htp.2.1
      have ee : x2.toInt = e := by rw [hx2]; exact i_n (by omega)
      have ex : x.toInt = e := by rw [hx]; exact i_n (by omega)
      refine J_iload dX9_numberAt_6 rfl ?_
      refine J_iload_n dX9_numberAt_8 rfl rfl ?_
      refine J_icmp_ge (tgt := 36) dX9_numberAt_9 rfl (fun h9 => ?_) (fun h9 => ?_)
      · refine J_aload_n dX9_numberAt_36 rfl rfl ?_
        refine J_getf dX9_numberAt_37 fl_X9_33 (hM.at 0 rfl) rfl ?_
        refine J_iload_n dX9_numberAt_40 rfl rfl ?_
        refine J_iload dX9_numberAt_41 rfl ?_
        refine J_i2l dX9_numberAt_43 rfl ?_
        refine J_lastN t dX9_numberAt_44 (hM.at 5 rfl) hx0 (by omega) (by decide) ?_
        refine J_genA (wM_a14 hM _) ((xx_mf.rf (bm := bm)).put (by omega) (by omega) _) (fun A21 w21 s21 o21 => ?_)
        refine J_bipush (v := 31) dX9_numberAt_45 (by decide) ?_
        refine J_ireturn dX9_numberAt_47 rfl rfl (by decide) (by decide) ?_
        refine ⟨rfl, rfl, ?_, s21⟩
        rw [← hv, Nat.sub_self]
        exact w21
      · first | (exfalso; simp only [i_lt, i_le, i_eq, i_0, i_1, i_2, i_3, i_4, i_5, i_6, i_8, i_9, i_10, i_12, i_16, i_20, i_m1, i_400, i_2000] at h9; omega) | (exfalso; simp only [s_up, a_up, va_up, i_lt, i_le, i_eq, i_0, i_1, i_2, i_3, i_4, i_5, i_6, i_8, i_9, i_10, i_12, i_16, i_20, i_m1, i_400, i_2000, ↓reduceIte, Nat.reduceEqDiff] at h9; omega)
    · intro i hii ih x c   hx hv hi2
      have h2k := htp.2.1
      have ee : x2.toInt = e := by rw [hx2]; exact i_n (by omega)
      have ex : x.toInt = i := by rw [hx]; exact i_n (by omega)
      refine J_iload dX9_numberAt_6 rfl ?_
      refine J_iload_n dX9_numberAt_8 rfl rfl ?_
      refine J_icmp_ge (tgt := 36) dX9_numberAt_9 rfl (fun h9 => ?_) (fun h9 => ?_)
      · first | (exfalso; simp only [i_lt, i_le, i_eq, i_0, i_1, i_2, i_3, i_4, i_5, i_6, i_8, i_9, i_10, i_12, i_16, i_20, i_m1, i_400, i_2000] at h9; omega) | (exfalso; simp only [s_up, a_up, va_up, i_lt, i_le, i_eq, i_0, i_1, i_2, i_3, i_4, i_5, i_6, i_8, i_9, i_10, i_12, i_16, i_20, i_m1, i_400, i_2000, ↓reduceIte, Nat.reduceEqDiff] at h9; omega)
      · refine J_bipush (v := 10) dX9_numberAt_12 (by decide) ?_
        refine J_iload dX9_numberAt_14 rfl ?_
        refine J_imul dX9_numberAt_16 ?_
        refine J_aload_n dX9_numberAt_17 rfl rfl ?_
        refine J_getf dX9_numberAt_18 fl_X9_9 (hM.at 0 rfl) rfl ?_
        refine J_iload dX9_numberAt_21 rfl ?_
        refine J_ialdN i dX9_numberAt_23 (hM.at 1 rfl) hx (by omega) (by decide) ?_
        refine J_iadd dX9_numberAt_24 ?_
        refine J_bipush (v := 48) dX9_numberAt_25 (by decide) ?_
        refine J_isub dX9_numberAt_27 ?_
        refine J_istore (L' := [(4, _), (5, _), (0, _), (1, _), (2, _), (3, _)]) dX9_numberAt_28 (by decide) rfl ?_
        refine J_iinc (v := _ + 1) (L' := [(5, _), (4, _), (0, _), (1, _), (2, _), (3, _)]) dX9_numberAt_30 rfl rfl (by decide) rfl ?_
        refine J_goto (tgt := 6) dX9_numberAt_33 rfl ?_
        refine xx_J.pick [0, 1, 2, 3, 4, 5] rfl ?_
        exact ih _ _  (by rw [hx]; exact nI_1 i) (by rw [← hv, nmF_s hii, tp_LD htp (Or.inr (hdg i hi2 hii)), mul10]) (by omega)
  refine xx_J.pick [0, 1, 2, 3, 4, 5] rfl ?_
  exact loop s (by omega) _ _  hx1 rfl (Nat.le_refl _)
theorem c_X9_nameOf (hst : l.stackTraces = false) {i : Nat} (hi : i < 59) : xx_C G l yX9_nameOf mX9_nameOf 4 91 0 0 [.ref (41 + i)] A n (xx_ro (some (.long (hsh (txw i) (txt i).length))) A n) := by
  refine J_C hst (by decide +kernel) rfl rfl rfl (Nat.le_of_ble_eq_true rfl) ?_
  show xx_J _ _ _ _ _ _ _ _ 0 [(0, _)] [] _ _ _ _
  refine J_lconst (v := 0) dX9_nameOf_0 (by decide) ?_
  refine J_lstore_n (L' := [(1, _), (0, _)]) dX9_nameOf_1 rfl (by decide) rfl ?_
  refine J_iconst (v := 0) dX9_nameOf_2 (by decide) ?_
  refine J_istore_n (L' := [(3, _), (1, _), (0, _)]) dX9_nameOf_3 rfl (by decide) rfl ?_
  have loop : ∀ p, p ≤ (txt i).length → ∀ (x : Int32) (c : Int64) , (x = nI p) → (c = hsh (txw i) p) → xx_J G l mX9_nameOf 4 91 0 0 (xx_ro (some (.long (hsh (txw i) (txt i).length))) A n) 4 [(3, .int x), (1, .long c), (0, .ref (41 + i))] [] A n 0 0 := by
    refine xx_dn ?_ ?_
    · intro x  c   hx hv
      have htl := tx_len i hi
      have ex : x.toInt = ((txt i).length : Int) := by rw [hx]; exact i_n (by omega)
      have ed : (nI (txt i).length).toInt = ((txt i).length : Int) := i_n (by omega)
      refine J_iload_n dX9_nameOf_4 rfl rfl ?_
      refine J_aload_n dX9_nameOf_5 rfl rfl ?_
      refine J_callVrS (As := []) dX9_nameOf_6 ml_X9_277 cal_J0_length_8abf5 im_J0_length_8abf5 se_J0_length_8abf5 (by omega) (so_tx hi) rfl rfl (Nat.le_of_ble_eq_true rfl) ⟨by decide, by decide⟩ ⟨by decide, by decide⟩ (c_J0_length_8abf5 hst hi) ?_
      refine J_icmp_ge (tgt := 34) dX9_nameOf_9 rfl (fun h9 => ?_) (fun h9 => ?_)
      · refine J_lload_n dX9_nameOf_34 rfl rfl ?_
        refine J_lreturn dX9_nameOf_35 rfl (by decide) (by decide) ?_
        exact ⟨by rw [hv], rfl, rfl⟩
      · first | (exfalso; simp only [i_lt, i_le, i_eq, i_0, i_1, i_2, i_3, i_4, i_5, i_6, i_8, i_9, i_10, i_12, i_16, i_20, i_m1, i_400, i_2000] at h9; omega) | (exfalso; simp only [s_up, a_up, va_up, i_lt, i_le, i_eq, i_0, i_1, i_2, i_3, i_4, i_5, i_6, i_8, i_9, i_10, i_12, i_16, i_20, i_m1, i_400, i_2000, ↓reduceIte, Nat.reduceEqDiff] at h9; omega)
    · intro p hip ih x  c   hx hv
      have hpp := hip
      have htl := tx_len i hi
      have ex : x.toInt = p := by rw [hx]; exact i_n (by omega)
      have ed : (nI (txt i).length).toInt = ((txt i).length : Int) := i_n (by omega)
      refine J_iload_n dX9_nameOf_4 rfl rfl ?_
      refine J_aload_n dX9_nameOf_5 rfl rfl ?_
      refine J_callVrS (As := []) dX9_nameOf_6 ml_X9_277 cal_J0_length_8abf5 im_J0_length_8abf5 se_J0_length_8abf5 (by omega) (so_tx hi) rfl rfl (Nat.le_of_ble_eq_true rfl) ⟨by decide, by decide⟩ ⟨by decide, by decide⟩ (c_J0_length_8abf5 hst hi) ?_
      refine J_icmp_ge (tgt := 34) dX9_nameOf_9 rfl (fun h9 => ?_) (fun h9 => ?_)
      · first | (exfalso; simp only [i_lt, i_le, i_eq, i_0, i_1, i_2, i_3, i_4, i_5, i_6, i_8, i_9, i_10, i_12, i_16, i_20, i_m1, i_400, i_2000] at h9; omega) | (exfalso; simp only [s_up, a_up, va_up, i_lt, i_le, i_eq, i_0, i_1, i_2, i_3, i_4, i_5, i_6, i_8, i_9, i_10, i_12, i_16, i_20, i_m1, i_400, i_2000, ↓reduceIte, Nat.reduceEqDiff] at h9; omega)
      · refine J_ldc2 dX9_nameOf_12 kl_X9_282 ?_
        refine J_lload_n dX9_nameOf_15 rfl rfl ?_
        refine J_lmul dX9_nameOf_16 ?_
        refine J_aload_n dX9_nameOf_17 rfl rfl ?_
        refine J_iload_n dX9_nameOf_18 rfl rfl ?_
        refine J_callVrS (As := [_]) dX9_nameOf_19 ml_X9_284 cal_J0_charAt_5068e im_J0_charAt_5068e se_J0_charAt_5068e (by omega) (so_tx hi) rfl rfl (Nat.le_of_ble_eq_true rfl) ⟨by decide, by decide⟩ ⟨by decide, by decide⟩ (c_J0_charAt_5068e hst hi hx hpp) ?_
        refine J_callSr (As := [_]) dX9_nameOf_22 ml_X9_288 cal_X9_letter sm_X9_letter rfl rfl (Nat.le_of_ble_eq_true rfl) ⟨by decide, by decide⟩ ⟨by decide, by decide⟩ (c_X9_letter hst _) ?_
        refine J_i2l dX9_nameOf_25 rfl ?_
        refine J_ladd dX9_nameOf_26 ?_
        refine J_lstore_n (L' := [(1, _), (3, _), (0, _)]) dX9_nameOf_27 rfl (by decide) rfl ?_
        refine J_iinc (v := _ + 1) (L' := [(3, _), (1, _), (0, _)]) dX9_nameOf_28 rfl rfl (by decide) rfl ?_
        refine J_goto (tgt := 4) dX9_nameOf_31 rfl ?_
        refine xx_J.pick [0, 1, 2] rfl ?_
        exact ih _ _  (by rw [hx]; exact nI_1 p) (by rw [hv]; rfl)
  refine xx_J.pick [0, 1, 2] rfl ?_
  exact loop 0 (by omega) _ _  rfl rfl
theorem c_X9_wordAt (hst : l.stackTraces = false) (hM : xx_w bm (layM bp vL bn ba bm M) A) (htp : tpR M T len) {t : Nat} {x0 : Int32} (hx0 : x0 = nI t) (ht : t < 401) {s e : Nat} {x1 x2 : Int32} (hx1 : x1 = nI s) (hx2 : x2 = nI e) (hse : s ≤ e) (hel : e ≤ len) (hdg : ∀ q, s ≤ q → q < e → isL (bat T len q) ∨ isD (bat T len q)) : xx_C G l yX9_wordAt mX9_wordAt 5 114 0 0 [.ref bm, .int x0, .int x1, .int x2] A n (xx_wr (some (.int (nI (wdF (hsh (tpw T len s) (e - s)) 20 0)))) n (fun A' => xx_w bm (layM bp (vp_updL vL t (hsh (tpw T len s) (e - s))) bn ba bm M) A' ∧ xx_mf bm A A')) := by
  have h2k := htp.2.1
  obtain ⟨H, hH⟩ : ∃ H, H = hsh (tpw T len s) (e - s) := ⟨_, rfl⟩
  refine J_C hst (by decide +kernel) rfl rfl rfl (Nat.le_of_ble_eq_true rfl) ?_
  show xx_J _ _ _ _ _ _ _ _ 0 [(0, _), (1, _), (2, _), (3, _)] [] _ _ _ _
  refine J_lconst (v := 0) dX9_wordAt_0 (by decide) ?_
  refine J_lstore (L' := [(4, _), (0, _), (1, _), (2, _), (3, _)]) dX9_wordAt_1 (by decide) rfl ?_
  refine J_iload_n dX9_wordAt_3 rfl rfl ?_
  refine J_istore (L' := [(6, _), (4, _), (0, _), (1, _), (2, _), (3, _)]) dX9_wordAt_4 (by decide) rfl ?_
  have loop : ∀ i, i ≤ (e - s) → ∀ (x : Int32) (c : Int64) , (x = nI (s + i)) → (c = hsh (tpw T len s) i) → xx_J G l mX9_wordAt 5 114 0 0 (xx_wr (some (.int (nI (wdF (hsh (tpw T len s) (e - s)) 20 0)))) n (fun A' => xx_w bm (layM bp (vp_updL vL t (hsh (tpw T len s) (e - s))) bn ba bm M) A' ∧ xx_mf bm A A')) 6 [(6, .int x), (4, .long c), (0, .ref bm), (1, .int x0), (2, .int x1), (3, .int x2)] [] A n 0 0 := by
    refine xx_dn ?_ ?_
    · intro x  c   hx hv
      have h2k := htp.2.1
      have ee : x2.toInt = e := by rw [hx2]; exact i_n (by omega)
      have ex : x.toInt = e := by rw [hx, show s + (e - s) = e by omega]; exact i_n (by omega)
      refine J_iload dX9_wordAt_6 rfl ?_
      refine J_iload_n dX9_wordAt_8 rfl rfl ?_
      refine J_icmp_ge (tgt := 38) dX9_wordAt_9 rfl (fun h9 => ?_) (fun h9 => ?_)
      · rw [hv, ← hH]
        refine J_aload_n dX9_wordAt_38 rfl rfl ?_
        refine J_getf dX9_wordAt_39 fl_X9_33 (hM.at 0 rfl) rfl ?_
        refine J_iload_n dX9_wordAt_42 rfl rfl ?_
        refine J_lload dX9_wordAt_43 rfl ?_
        refine J_lastN t dX9_wordAt_45 (hM.at 5 rfl) hx0 (by omega) (by decide) ?_
        refine J_genA (wM_a14 hM _) ((xx_mf.rf (bm := bm)).put (by omega) (by omega) _) (fun A21 w21 s21 o21 => ?_)
        refine J_iconst (v := 0) dX9_wordAt_46 (by decide) ?_
        refine J_istore (L' := [(6, _), (4, _), (0, _), (1, _), (2, _), (3, _)]) dX9_wordAt_47 (by decide) rfl ?_
        have loop2 : ∀ i, i ≤ 20 → ∀ (y : Int32), y = nI i → wdF H (20 - i) i = wdF H 20 0 → xx_J G l mX9_wordAt 5 114 0 0 (xx_wr (some (.int (nI (wdF H 20 0)))) n (fun A' => xx_w bm (layM bp (vp_updL vL t (H)) bn ba bm M) A' ∧ xx_mf bm A A')) 49 [(6, .int y), (4, .long H), (0, .ref bm), (1, .int x0), (2, .int x1), (3, .int x2)] [] A21 n 0 0 := by
          refine xx_dn ?_ ?_
          · intro y hy hw
            refine J_iload dX9_wordAt_49 rfl ?_
            refine J_gets (v := .ref 40) dX9_wordAt_51 st_words (show (40 : Nat) < 200 by decide) sl_X9_291 ?_
            refine J_alenS dX9_wordAt_54 sa_words (by decide) rfl ?_
            refine J_icmp_ge (tgt := 82) dX9_wordAt_55 rfl (fun h => ?_) (fun h => absurd (by rw [hy]; exact nI_le (Nat.le_refl 20) (by omega)) h)
            refine J_bipush (v := 30) dX9_wordAt_82 (by decide) ?_
            refine J_ireturn dX9_wordAt_84 rfl rfl (by decide) (by decide) ?_
            refine ⟨?_, rfl, ?_, s21⟩
            · rw [← hw, Nat.sub_self]; rfl
            · exact w21
          · intro i hii ih y hy hw
            refine J_iload dX9_wordAt_49 rfl ?_
            refine J_gets (v := .ref 40) dX9_wordAt_51 st_words (show (40 : Nat) < 200 by decide) sl_X9_291 ?_
            refine J_alenS dX9_wordAt_54 sa_words (by decide) rfl ?_
            refine J_icmp_ge (tgt := 82) dX9_wordAt_55 rfl (fun h => absurd (by rw [hy] at h; exact h) (nI_ge hii (by omega))) (fun h => ?_)
            refine J_gets (v := .ref 40) dX9_wordAt_58 st_words (show (40 : Nat) < 200 by decide) sl_X9_291 ?_
            refine J_iload dX9_wordAt_61 rfl ?_
            refine J_aldS (v := .ref (41 + i)) dX9_wordAt_63 sa_words (by decide) (by rw [hy]; exact vp_in_nI hii (by omega)) (by rw [hy, nI_clamp (by omega)]) (show 41 + i < 200 by omega) ?_
            refine J_callSr (As := [_]) dX9_wordAt_64 ml_X9_295 cal_X9_nameOf sm_X9_nameOf rfl rfl (Nat.le_of_ble_eq_true rfl) ⟨by decide, by decide⟩ ⟨by decide, by decide⟩ (c_X9_nameOf hst (i := i) (by omega)) ?_
            refine J_lload dX9_wordAt_67 rfl ?_
            refine J_lcmp dX9_wordAt_69 ?_
            refine J_if_ne (tgt := 76) dX9_wordAt_70 rfl (fun h70 => ?_) (fun h70 => ?_)
            · refine J_iinc (v := _ + 1) (L' := [(6, _), (4, _), (0, _), (1, _), (2, _), (3, _)]) dX9_wordAt_76 rfl rfl (by decide) rfl ?_
              refine J_goto (tgt := 49) dX9_wordAt_79 rfl ?_
              exact ih _ (by rw [hy]; exact nI_1 i) (by rw [← hw, wdF_s hii, if_neg (fun z => h70 (lg_eq.mpr z))])
            · refine J_iload dX9_wordAt_73 rfl ?_
              refine J_ireturn dX9_wordAt_75 rfl rfl (by decide) (by decide) ?_
              refine ⟨?_, rfl, ?_, s21⟩
              · rw [← hw, wdF_s hii, if_pos (lg_eq.mp h70), hy]
              · exact w21
        refine xx_J.pick [0, 1, 2, 3, 4, 5] rfl ?_
        exact loop2 0 (by omega) _ rfl rfl
      · first | (exfalso; simp only [i_lt, i_le, i_eq, i_0, i_1, i_2, i_3, i_4, i_5, i_6, i_8, i_9, i_10, i_12, i_16, i_20, i_m1, i_400, i_2000] at h9; omega) | (exfalso; simp only [s_up, a_up, va_up, i_lt, i_le, i_eq, i_0, i_1, i_2, i_3, i_4, i_5, i_6, i_8, i_9, i_10, i_12, i_16, i_20, i_m1, i_400, i_2000, ↓reduceIte, Nat.reduceEqDiff] at h9; omega)
    · intro i hii ih x  c   hx hv
      have h2k := htp.2.1
      have ee : x2.toInt = e := by rw [hx2]; exact i_n (by omega)
      have ex : x.toInt = ((s + i : Nat) : Int) := by rw [hx]; exact i_n (by omega)
      refine J_iload dX9_wordAt_6 rfl ?_
      refine J_iload_n dX9_wordAt_8 rfl rfl ?_
      refine J_icmp_ge (tgt := 38) dX9_wordAt_9 rfl (fun h9 => ?_) (fun h9 => ?_)
      · first | (exfalso; simp only [i_lt, i_le, i_eq, i_0, i_1, i_2, i_3, i_4, i_5, i_6, i_8, i_9, i_10, i_12, i_16, i_20, i_m1, i_400, i_2000] at h9; omega) | (exfalso; simp only [s_up, a_up, va_up, i_lt, i_le, i_eq, i_0, i_1, i_2, i_3, i_4, i_5, i_6, i_8, i_9, i_10, i_12, i_16, i_20, i_m1, i_400, i_2000, ↓reduceIte, Nat.reduceEqDiff] at h9; omega)
      · refine J_ldc2 dX9_wordAt_12 kl_X9_282 ?_
        refine J_lload dX9_wordAt_15 rfl ?_
        refine J_lmul dX9_wordAt_17 ?_
        refine J_aload_n dX9_wordAt_18 rfl rfl ?_
        refine J_getf dX9_wordAt_19 fl_X9_9 (hM.at 0 rfl) rfl ?_
        refine J_iload dX9_wordAt_22 rfl ?_
        refine J_ialdN (s + i) dX9_wordAt_24 (hM.at 1 rfl) hx (by omega) (by decide) ?_
        refine J_callSr (As := [_]) dX9_wordAt_25 ml_X9_288 cal_X9_letter sm_X9_letter rfl rfl (Nat.le_of_ble_eq_true rfl) ⟨by decide, by decide⟩ ⟨by decide, by decide⟩ (c_X9_letter hst _) ?_
        refine J_i2l dX9_wordAt_28 rfl ?_
        refine J_ladd dX9_wordAt_29 ?_
        refine J_lstore (L' := [(4, _), (6, _), (0, _), (1, _), (2, _), (3, _)]) dX9_wordAt_30 (by decide) rfl ?_
        refine J_iinc (v := _ + 1) (L' := [(6, _), (4, _), (0, _), (1, _), (2, _), (3, _)]) dX9_wordAt_32 rfl rfl (by decide) rfl ?_
        refine J_goto (tgt := 6) dX9_wordAt_35 rfl ?_
        refine xx_J.pick [0, 1, 2, 3, 4, 5] rfl ?_
        exact ih _ _  (by rw [hx]; exact nI_1 (s + i)) (by rw [hv, tp_LD htp (hdg (s + i) (by omega) (by omega))]; rfl)
  refine xx_J.pick [0, 1, 2, 3, 4, 5] rfl ?_
  exact loop 0 (by omega) _ _  (by rw [hx1]; rfl) rfl
def kdT : List Nat := [0, 1, 2, 3, 4, 5, 6, 7, 8, 9, 10, 11, 12, 13, 14, 15, 16, 17, 18, 19, 40, 41, 91, 93, 59, 44, 43, 45, 42, 47, 60, 62, 61, 316, 318, 30, 31, 33, 32]
/-- the reference's kind of a sign -/
def kdR (g : Nat) : Nat := kdT.getD g 32
theorem swt_no {dflt : Nat} : ∀ d i, (∀ j, i ≤ j → j < i + d → ¬ spelt T len s e (20 + j)) → swtF T len s e dflt d i = dflt := by
  intro d
  induction d with
  | zero => intro i _; rfl
  | succ d ih =>
    intro i h
    simp only [swtF]
    rw [if_neg (h i (Nat.le_refl _) (by omega))]
    exact ih (i + 1) (fun j h1 h2 => h j (by omega) (by omega))
theorem swt_hit {dflt k : Nat} : ∀ d i, i ≤ k → k < i + d → spelt T len s e (20 + k) → (∀ j, i ≤ j → j < k → ¬ spelt T len s e (20 + j)) → swtF T len s e dflt d i = k := by
  intro d
  induction d with
  | zero => intro i h1 h2; omega
  | succ d ih =>
    intro i h1 h2 h3 h4
    simp only [swtF]
    by_cases c : i = k
    · rw [c, if_pos h3]
    · rw [if_neg (h4 i (Nat.le_refl _) (by omega))]
      exact ih (i + 1) (by omega) (by omega) h3 (fun j h5 h6 => h4 j (by omega) h6)
theorem spF_i (k : Nat) : ∀ m p, spF T len s k m p = true ↔ ∀ q, p ≤ q → q < p + m → bat T len (s + q) = (txt k).getD q 0 := by
  intro m
  induction m with
  | zero => intro p; exact ⟨fun _ q h1 h2 => by omega, fun _ => rfl⟩
  | succ m ih =>
    intro p
    simp only [spF, Bool.and_eq_true, decide_eq_true_iff]
    rw [ih (p + 1)]
    constructor
    · rintro ⟨h1, h2⟩ q h3 h4
      by_cases c : q = p
      · rw [c]; exact h1
      · exact h2 q (by omega) (by omega)
    · intro h
      exact ⟨h p (Nat.le_refl _) (by omega), fun q h3 h4 => h q (by omega) (by omega)⟩
theorem spelt_i (k : Nat) : spelt T len s e k ↔ (txt k).length = e - s ∧ ∀ q, q < e - s → bat T len (s + q) = (txt k).getD q 0 := by
  unfold spelt
  rw [spF_i]
  constructor
  · rintro ⟨h1, h2⟩
    exact ⟨h1, fun q hq => h2 q (by omega) (by omega)⟩
  · rintro ⟨h1, h2⟩
    exact ⟨h1, fun q _ hq => h2 q (by omega)⟩
theorem txs_1 : ∀ j, j < 39 → (txt (20 + j)).length = 1 → (20 ≤ j ∧ j < 33) ∧ (txt (20 + j)).getD 0 0 = nI (kdR j) := by decide +kernel
theorem txs_2 : ∀ j, j < 33 → (txt (20 + j)).length = 2 → (txt (20 + j)).getD 0 0 ≠ 60 ∧ (txt (20 + j)).getD 0 0 ≠ 62 := by decide +kernel
theorem txs_w : ∀ j, j < 39 → 20 ≤ j → (txt (20 + j)).length = 0 ∨ ¬ (isL ((txt (20 + j)).getD 0 0) ∨ isD ((txt (20 + j)).getD 0 0)) := by decide +kernel
theorem txs_e : ∀ j, j < 20 → txt (20 + j) = txt j := by decide +kernel
theorem txs_l : ∀ j, j < 20 → ∀ p, p < (txt j).length → isL (txw j p) ∧ (txt j).length ≤ 8 := by decide +kernel
theorem txs_n : ∀ a, a < 39 → ∀ b, b < 39 → (txt (20 + a)).length = 1 → (txt (20 + b)).length = 1 → kdR a = kdR b → a = b := by decide +kernel
/-- a sign of one byte -/
theorem sym_1 {k : Nat} (hk : k < 39) (h1 : (txt (20 + k)).length = 1) (hb : bat T len s = nI (kdR k)) : swtF T len s (s + 1) 38 39 0 = k := by
  refine swt_hit 39 0 (Nat.zero_le _) (by omega) ?_ ?_
  · rw [spelt_i]
    refine ⟨by omega, fun q hq => ?_⟩
    rw [show q = 0 by omega, (txs_1 k hk h1).2]; exact hb
  · intro j _ hj hs
    rw [spelt_i] at hs
    have l1 : (txt (20 + j)).length = 1 := by have := hs.1; omega
    have b1 := hs.2 0 (by omega)
    have b2 := (txs_1 j (by omega) l1).2
    rw [b2] at b1
    have hkk : ∀ q, q < 39 → kdR q < 2 ^ 31 := by decide +kernel
    have e1 : nI (kdR j) = nI (kdR k) := b1.symm.trans hb
    rw [i_eq, i_n (hkk j (by omega)), i_n (hkk k hk)] at e1
    have := txs_n j (by omega) k hk l1 h1 (by omega)
    omega
theorem sym_0 (hb : ∀ k, k < 39 → (txt (20 + k)).length = 1 → ¬ bat T len s = nI (kdR k)) : swtF T len s (s + 1) 38 39 0 = 38 := by
  refine swt_no 39 0 fun j _ hj hs => ?_
  rw [spelt_i] at hs
  have l1 : (txt (20 + j)).length = 1 := by have := hs.1; omega
  have b1 := hs.2 0 (by omega)
  exact hb j (by omega) l1 (b1.trans (txs_1 j (by omega) l1).2)
theorem sym_2 {k : Nat} (hk : k = 33 ∧ bat T len s = 60 ∨ k = 34 ∧ bat T len s = 62) (h61 : bat T len (s + 1) = 61) : swtF T len s (s + 2) 38 39 0 = k := by
  have z2 : ∀ j, j < 33 → ¬ spelt T len s (s + 2) (20 + j) := fun j hj hs => by
    rw [spelt_i] at hs
    have l1 : (txt (20 + j)).length = 2 := by have := hs.1; omega
    have b1 : bat T len s = _ := hs.2 0 (by omega)
    have := txs_2 j hj l1
    rw [← b1] at this
    rcases hk with h | h
    · exact this.1 h.2
    · exact this.2 h.2
  rcases hk with ⟨rfl, hb⟩ | ⟨rfl, hb⟩
  · refine swt_hit 39 0 (Nat.zero_le _) (by omega) ?_ (fun j _ hj => z2 j hj)
    rw [spelt_i]
    refine ⟨by rw [show s + 2 - s = 2 by omega]; decide +kernel, fun q hq => ?_⟩
    rcases (show q = 0 ∨ q = 1 by omega) with rfl | rfl
    · exact hb.trans (by decide +kernel)
    · exact h61.trans (by decide +kernel)
  · refine swt_hit 39 0 (Nat.zero_le _) (by omega) ?_ (fun j _ hj => ?_)
    · rw [spelt_i]
      refine ⟨by rw [show s + 2 - s = 2 by omega]; decide +kernel, fun q hq => ?_⟩
      rcases (show q = 0 ∨ q = 1 by omega) with rfl | rfl
      · exact hb.trans (by decide +kernel)
      · exact h61.trans (by decide +kernel)
    · by_cases c : j = 33
      · subst c
        intro hs
        rw [spelt_i] at hs
        have b1 : bat T len s = _ := hs.2 0 (by omega)
        rw [hb] at b1
        exact absurd b1 (by decide +kernel)
      · exact z2 j (by omega)
def hN (f : Nat → Nat) : Nat → Nat
  | 0 => 0
  | d + 1 => 37 * hN f d + f d
theorem hN_lt {f : Nat → Nat} : ∀ d, (∀ p, p < d → f p < 37) → hN f d < 37 ^ d := by
  intro d
  induction d with
  | zero => intro _; exact Nat.one_pos
  | succ d ih =>
    intro h
    have a1 := ih (fun p hp => h p (by omega))
    have a2 := h d (by omega)
    show 37 * hN f d + f d < 37 ^ (d + 1)
    rw [Nat.pow_succ]
    omega
theorem hN_inj {f g : Nat → Nat} : ∀ d k, (∀ p, p < d → 1 ≤ f p ∧ f p < 37) → (∀ p, p < k → 1 ≤ g p ∧ g p < 37) → hN f d = hN g k → d = k ∧ ∀ p, p < d → f p = g p := by
  intro d
  induction d with
  | zero =>
    intro k _ hg h
    cases k with
    | zero => exact ⟨rfl, fun p hp => by omega⟩
    | succ k => have := hg k (by omega); simp only [hN] at h; omega
  | succ d ih =>
    intro k hf hg h
    cases k with
    | zero => have := hf d (by omega); simp only [hN] at h; omega
    | succ k =>
      have a1 := hf d (by omega)
      have a2 := hg k (by omega)
      simp only [hN] at h
      obtain ⟨b1, b2⟩ := ih k (fun p hp => hf p (by omega)) (fun p hp => hg p (by omega)) (by omega)
      refine ⟨by omega, fun p hp => ?_⟩
      by_cases c : p = d
      · rw [c]; subst b1; omega
      · exact b2 p (by omega)
def dg (x : Int32) : Nat := (lt9 x).toNatClampNeg
theorem dg_t : ∀ m, m < 123 → (97 ≤ m ∨ (48 ≤ m ∧ m ≤ 57)) → lt9 (nI m) = nI (dg (nI m)) ∧ 1 ≤ dg (nI m) ∧ dg (nI m) < 37 ∧ dg (nI m) = (if 97 ≤ m then m - 96 else m - 21) ∧ (lt9 (nI m)).toInt64 = Int64.ofNat (dg (nI m)) := by decide +kernel
theorem LD_n {x : Int32} (h : isL x ∨ isD x) : ∃ m, m < 123 ∧ (97 ≤ m ∨ (48 ≤ m ∧ m ≤ 57)) ∧ x = nI m := by
  have c1 : (97 : Int32).toInt = 97 := rfl
  have c2 : (48 : Int32).toInt = 48 := rfl
  have c3 : (122 : Int32).toInt = 122 := rfl
  have c4 : (57 : Int32).toInt = 57 := rfl
  have h2 : (97 ≤ x.toInt ∧ x.toInt ≤ 122) ∨ (48 ≤ x.toInt ∧ x.toInt ≤ 57) := by
    rcases h with ⟨a, b⟩ | ⟨a, b⟩
    · rw [i_le] at a b; exact Or.inl ⟨by omega, by omega⟩
    · rw [i_le] at a b; exact Or.inr ⟨by omega, by omega⟩
  refine ⟨x.toInt.toNat, by omega, by omega, ?_⟩
  rw [i_eq, i_n (by omega)]
  omega
theorem dg_ok {x : Int32} (h : isL x ∨ isD x) : 1 ≤ dg x ∧ dg x < 37 ∧ (lt9 x).toInt64 = Int64.ofNat (dg x) := by
  obtain ⟨m, h1, h2, rfl⟩ := LD_n h
  obtain ⟨-, a, b, -, c⟩ := dg_t m h1 h2
  exact ⟨a, b, c⟩
theorem dg_inj {x y : Int32} (h : isL x ∨ isD x) (h' : isL y ∨ isD y) (he : dg x = dg y) : x = y := by
  obtain ⟨m, h1, h2, rfl⟩ := LD_n h
  obtain ⟨k, h3, h4, rfl⟩ := LD_n h'
  have a := (dg_t m h1 h2).2.2.2.1
  have b := (dg_t k h3 h4).2.2.2.1
  rw [a, b] at he
  have : m = k := by split at he <;> split at he <;> omega
  rw [this]
theorem hsh_N {f : Nat → Int32} : ∀ d, (∀ p, p < d → isL (f p) ∨ isD (f p)) → hsh f d = Int64.ofNat (hN (fun p => dg (f p)) d) := by
  intro d
  induction d with
  | zero => intro _; rfl
  | succ d ih =>
    intro h
    show 37 * hsh f d + (lt9 (f d)).toInt64 = Int64.ofNat (37 * hN (fun p => dg (f p)) d + dg (f d))
    rw [ih (fun p hp => h p (by omega)), (dg_ok (h d (by omega))).2.2, Int64.ofNat_add, Int64.ofNat_mul]
    rfl
theorem p37 : ∀ d, d < 11 → 37 ^ d < 9223372036854775808 := by decide +kernel
theorem i64_inj {x y : Nat} (hx : x < 9223372036854775808) (hy : y < 9223372036854775808) (h : Int64.ofNat x = Int64.ofNat y) : x = y := by
  have h2 := congrArg Int64.toInt h
  rw [Int64.toInt_ofNat_of_lt (by exact hx), Int64.toInt_ofNat_of_lt (by exact hy)] at h2
  omega
theorem hsh_in1 {f g : Nat → Int32} {d k : Nat} (hd : d ≤ 10) (hk : k ≤ 10) (hf : ∀ p, p < d → isL (f p) ∨ isD (f p)) (hg : ∀ p, p < k → isL (g p) ∨ isD (g p)) (h : hsh f d = hsh g k) : d = k ∧ ∀ p, p < d → f p = g p := by
  rw [hsh_N d hf, hsh_N k hg] at h
  have a1 := hN_lt d (fun p hp => (dg_ok (hf p hp)).2.1)
  have a2 := hN_lt k (fun p hp => (dg_ok (hg p hp)).2.1)
  have h2 := i64_inj (Nat.lt_trans a1 (p37 d (by omega))) (Nat.lt_trans a2 (p37 k (by omega))) h
  obtain ⟨c1, c2⟩ := hN_inj d k (fun p hp => ⟨(dg_ok (hf p hp)).1, (dg_ok (hf p hp)).2.1⟩) (fun p hp => ⟨(dg_ok (hg p hp)).1, (dg_ok (hg p hp)).2.1⟩) h2
  exact ⟨c1, fun p hp => dg_inj (hf p hp) (hg p (by omega)) (c2 p hp)⟩
theorem hsh_cg {f g : Nat → Int32} : ∀ d, (∀ p, p < d → f p = g p) → hsh f d = hsh g d := by
  intro d
  induction d with
  | zero => intro _; rfl
  | succ d ih =>
    intro h
    simp only [hsh]
    rw [ih (fun p hp => h p (by omega)), h d (by omega)]
/-- two words of at most ten bytes that count the same are the same -/
theorem hsh_inj {f g : Nat → Int32} {d k : Nat} (hd : d ≤ 10) (hk : k ≤ 10) (hf : ∀ p, p < d → isL (f p) ∨ isD (f p)) (hg : ∀ p, p < k → isL (g p) ∨ isD (g p)) : hsh f d = hsh g k ↔ d = k ∧ ∀ p, p < d → f p = g p :=
  ⟨hsh_in1 hd hk hf hg, fun h => by rw [← h.1]; exact hsh_cg d h.2⟩
theorem word_i (h10 : e - s ≤ 10) (hw : ∀ q, s ≤ q → q < e → isL (bat T len q) ∨ isD (bat T len q)) (hi : i < 20) : hsh (txw i) (txt i).length = hsh (tpw T len s) (e - s) ↔ spelt T len s e (20 + i) := by
  have h8 : (txt i).length ≤ 8 := by
    by_cases c : 0 < (txt i).length
    · exact (txs_l i hi 0 c).2
    · omega
  rw [hsh_inj (g := tpw T len s) (by omega) h10 (fun p hp => Or.inl (txs_l i hi p hp).1) (fun p hp => hw (s + p) (by omega) (by omega)), spelt_i, txs_e i hi]
  constructor
  · rintro ⟨h1, h2⟩
    exact ⟨h1, fun q hq => (h2 q (by omega)).symm⟩
  · rintro ⟨h1, h2⟩
    exact ⟨h1, fun q hq => (h2 q (by omega)).symm⟩
theorem word_k (h10 : e - s ≤ 10) (hse : s < e) (hw : ∀ q, s ≤ q → q < e → isL (bat T len q) ∨ isD (bat T len q)) : (swtF T len s e 35 39 0 < 20 ∨ swtF T len s e 35 39 0 = 35) ∧ kdR (swtF T len s e 35 39 0) = wdF (hsh (tpw T len s) (e - s)) 20 0 := by
  have key : ∀ d i, i + d = 20 → (swtF T len s e 35 (d + 19) i < 20 ∨ swtF T len s e 35 (d + 19) i = 35) ∧ kdR (swtF T len s e 35 (d + 19) i) = wdF (hsh (tpw T len s) (e - s)) d i := by
    intro d
    induction d with
    | zero =>
      intro i hi
      have e0 : swtF T len s e 35 (0 + 19) i = 35 := by
        refine swt_no (0 + 19) i (fun j h1 h2 hs => ?_)
        rw [spelt_i] at hs
        have b := hs.2 0 (by omega)
        rcases txs_w j (by omega) (by omega) with z | z
        · have := hs.1; omega
        · rw [← b] at z
          exact z (hw s (Nat.le_refl _) hse)
      rw [e0]
      exact ⟨Or.inr rfl, rfl⟩
    | succ d ih =>
      intro i hi
      rw [show d + 1 + 19 = (d + 19) + 1 by omega]
      simp only [swtF, wdF]
      by_cases c : spelt T len s e (20 + i)
      · rw [if_pos c, if_pos ((word_i h10 hw (by omega)).mpr c)]
        exact ⟨Or.inl (by omega), (by decide : ∀ q, q < 20 → kdR q = q) i (by omega)⟩
      · rw [if_neg c, if_neg (fun z => c ((word_i h10 hw (by omega)).mp z))]
        exact ih (i + 1) (by omega)
  exact key 20 0 rfl
set_option maxHeartbeats 2000000 in
theorem c_X9_kindOf (hst : l.stackTraces = false) (hM : xx_w bm (layM bp vL bn ba bm M) A) (htp : tpR M T len) {t : Nat} {x0 : Int32} (hx0 : x0 = nI t) (ht : t < 401) {s e : Nat} {x1 x2 : Int32} (hx1 : x1 = nI s) (hx2 : x2 = nI e) (hs : s ≤ len) (he : e = if s < len then eotF T len s else s + 1) : xx_C G l yX9_kindOf mX9_kindOf 6 140 0 0 [.ref bm, .int x0, .int x1, .int x2] A n (xx_wr (some (.int (nI (kdR (sgF T len s e))))) n (fun A' => ∃ vL', (∀ q, ¬ q = t → vL' q = vL q) ∧ (sgF T len s e = 36 → vL' t = (nmF T len (e - s) s 0).toInt64) ∧ (sgF T len s e < 20 ∨ sgF T len s e = 35 → vL' t = hsh (tpw T len s) (e - s)) ∧ xx_w bm (layM bp vL' bn ba bm M) A' ∧ xx_mf bm A A')) := by
  have h2k := htp.2.1
  have hse : s ≤ e := by
    rw [he]
    split
    · exact (eotF_le hs).2
    · omega
  have hes : x2 - x1 = nI (e - s) := by rw [hx1, hx2, pk_sub hse]
  have hle : e ≤ len + 1 := by
    rw [he]
    split
    · have := (eotF_le (T := T) hs).1; omega
    · omega
  refine J_C hst (by decide +kernel) rfl rfl rfl (Nat.le_of_ble_eq_true rfl) ?_
  show xx_J _ _ _ _ _ _ _ _ 0 [(0, _), (1, _), (2, _), (3, _)] [] _ _ _ _
  refine J_aload_n dX9_kindOf_0 rfl rfl ?_
  refine J_iload_n dX9_kindOf_1 rfl rfl ?_
  refine J_callVr (As := [_]) dX9_kindOf_2 ml_X9_262 cal_X9_byteOf im_X9_byteOf se_X9_byteOf (hM.at 0 rfl) rfl rfl rfl (Nat.le_of_ble_eq_true rfl) ⟨by decide, by decide⟩ ⟨by decide, by decide⟩ (c_X9_byteOf hst hM htp hx1 (by omega)) ?_
  refine J_istore (L' := [(4, _), (0, _), (1, _), (2, _), (3, _)]) dX9_kindOf_5 (by decide) rfl ?_
  refine J_iload dX9_kindOf_7 rfl ?_
  refine J_iconst (v := -1) dX9_kindOf_9 (by decide) ?_
  refine J_icmp_ne (tgt := 16) dX9_kindOf_10 rfl (fun h10 => ?_) (fun h10 => ?_)
  · have hsl : s < len := by
      by_cases c : s < len
      · exact c
      · exact absurd (rB_ni c) h10
    refine J_iload dX9_kindOf_16 rfl ?_
    refine J_callSr (As := [_]) dX9_kindOf_18 ml_X9_268 cal_X9_isDigit sm_X9_isDigit rfl rfl (Nat.le_of_ble_eq_true rfl) ⟨by decide, by decide⟩ ⟨by decide, by decide⟩ (c_X9_isDigit hst _) ?_
    refine J_ifb_eq (tgt := 45) dX9_kindOf_21 rfl (fun h21 => ?_) (fun h21 => ?_)
    · have hnD : ¬ isD (bat T len s) := fun z => h21 ((rB_D htp s).mpr z)
      refine J_iload dX9_kindOf_45 rfl ?_
      refine J_callSr (As := [_]) dX9_kindOf_47 ml_X9_265 cal_X9_isSmall sm_X9_isSmall rfl rfl (Nat.le_of_ble_eq_true rfl) ⟨by decide, by decide⟩ ⟨by decide, by decide⟩ (c_X9_isSmall hst _) ?_
      refine J_ifb_eq (tgt := 74) dX9_kindOf_50 rfl (fun h50 => ?_) (fun h50 => ?_)
      · have hnL : ¬ isL (bat T len s) := fun z => h50 ((rB_L htp s).mpr z)
        have eos : e = min (s + (if (bat T len s = 60 ∨ bat T len s = 62) ∧ bat T len (s + 1) = 61 then 2 else 1)) len := by
          rw [he, if_pos hsl]; unfold eotF eosF; rw [if_neg (fun z => z.elim hnL hnD)]
        have hsy : sgF T len s e = swtF T len s e 38 39 0 := by unfold sgF; rw [if_pos hsl, if_neg hnD, if_neg hnL]
        refine J_iload_n dX9_kindOf_74 rfl rfl ?_
        refine J_iload_n dX9_kindOf_75 rfl rfl ?_
        refine J_isub dX9_kindOf_76 ?_
        refine J_iconst (v := 2) dX9_kindOf_77 (by decide) ?_
        rw [hes]
        refine J_icmp_ne (tgt := 88) dX9_kindOf_78 rfl (fun h78 => ?_) (fun h78 => ?_)
        · have e2 : e = s + 1 := by
            have hq2 : ¬ e - s = 2 := fun z => h78 (by rw [z]; rfl)
            by_cases c : (bat T len s = 60 ∨ bat T len s = 62) ∧ bat T len (s + 1) = 61
            · rw [if_pos c] at eos
              have hs1 : s + 1 < len := by
                by_cases c2 : s + 1 < len
                · exact c2
                · have := c.2; rw [bat_ni c2] at this; exact absurd this (by decide)
              omega
            · rw [if_neg c] at eos; omega
          have hsy0 : sgF T len s e = swtF T len s (s + 1) 38 39 0 := by rw [hsy, e2]
          refine J_iload dX9_kindOf_88 rfl ?_
          refine J_bipush (v := 40) dX9_kindOf_90 (by decide) ?_
          refine J_icmp_eq (tgt := 179) dX9_kindOf_92 rfl (fun h92 => ?_) (fun h92 => ?_)
          · have hsg : sgF T len s e = 20 := hsy0.trans (sym_1 (k := 20) (by decide) (by decide +kernel) ((rB_c htp (by decide) (by decide) s).mp h92))
            have hval : rB T len s = nI (kdR (sgF T len s e)) := by rw [hsg, h92]; rfl
            refine J_iload dX9_kindOf_179 rfl ?_
            refine J_goto (tgt := 186) dX9_kindOf_181 rfl ?_
            refine J_ireturn dX9_kindOf_186 rfl rfl (by decide) (by decide) ?_
            refine ⟨by rw [← hval], rfl, vL, fun _ _ => rfl, fun z => ?_, fun z => ?_, hM, (xx_mf.rf (bm := bm))⟩
            · rw [hsg] at z; exact absurd z (by decide)
            · rw [hsg] at z; exact absurd z (by decide)
          · refine J_iload dX9_kindOf_95 rfl ?_
            refine J_bipush (v := 41) dX9_kindOf_97 (by decide) ?_
            refine J_icmp_eq (tgt := 179) dX9_kindOf_99 rfl (fun h99 => ?_) (fun h99 => ?_)
            · have hsg : sgF T len s e = 21 := hsy0.trans (sym_1 (k := 21) (by decide) (by decide +kernel) ((rB_c htp (by decide) (by decide) s).mp h99))
              have hval : rB T len s = nI (kdR (sgF T len s e)) := by rw [hsg, h99]; rfl
              refine J_iload dX9_kindOf_179 rfl ?_
              refine J_goto (tgt := 186) dX9_kindOf_181 rfl ?_
              refine J_ireturn dX9_kindOf_186 rfl rfl (by decide) (by decide) ?_
              refine ⟨by rw [← hval], rfl, vL, fun _ _ => rfl, fun z => ?_, fun z => ?_, hM, (xx_mf.rf (bm := bm))⟩
              · rw [hsg] at z; exact absurd z (by decide)
              · rw [hsg] at z; exact absurd z (by decide)
            · refine J_iload dX9_kindOf_102 rfl ?_
              refine J_bipush (v := 91) dX9_kindOf_104 (by decide) ?_
              refine J_icmp_eq (tgt := 179) dX9_kindOf_106 rfl (fun h106 => ?_) (fun h106 => ?_)
              · have hsg : sgF T len s e = 22 := hsy0.trans (sym_1 (k := 22) (by decide) (by decide +kernel) ((rB_c htp (by decide) (by decide) s).mp h106))
                have hval : rB T len s = nI (kdR (sgF T len s e)) := by rw [hsg, h106]; rfl
                refine J_iload dX9_kindOf_179 rfl ?_
                refine J_goto (tgt := 186) dX9_kindOf_181 rfl ?_
                refine J_ireturn dX9_kindOf_186 rfl rfl (by decide) (by decide) ?_
                refine ⟨by rw [← hval], rfl, vL, fun _ _ => rfl, fun z => ?_, fun z => ?_, hM, (xx_mf.rf (bm := bm))⟩
                · rw [hsg] at z; exact absurd z (by decide)
                · rw [hsg] at z; exact absurd z (by decide)
              · refine J_iload dX9_kindOf_109 rfl ?_
                refine J_bipush (v := 93) dX9_kindOf_111 (by decide) ?_
                refine J_icmp_eq (tgt := 179) dX9_kindOf_113 rfl (fun h113 => ?_) (fun h113 => ?_)
                · have hsg : sgF T len s e = 23 := hsy0.trans (sym_1 (k := 23) (by decide) (by decide +kernel) ((rB_c htp (by decide) (by decide) s).mp h113))
                  have hval : rB T len s = nI (kdR (sgF T len s e)) := by rw [hsg, h113]; rfl
                  refine J_iload dX9_kindOf_179 rfl ?_
                  refine J_goto (tgt := 186) dX9_kindOf_181 rfl ?_
                  refine J_ireturn dX9_kindOf_186 rfl rfl (by decide) (by decide) ?_
                  refine ⟨by rw [← hval], rfl, vL, fun _ _ => rfl, fun z => ?_, fun z => ?_, hM, (xx_mf.rf (bm := bm))⟩
                  · rw [hsg] at z; exact absurd z (by decide)
                  · rw [hsg] at z; exact absurd z (by decide)
                · refine J_iload dX9_kindOf_116 rfl ?_
                  refine J_bipush (v := 59) dX9_kindOf_118 (by decide) ?_
                  refine J_icmp_eq (tgt := 179) dX9_kindOf_120 rfl (fun h120 => ?_) (fun h120 => ?_)
                  · have hsg : sgF T len s e = 24 := hsy0.trans (sym_1 (k := 24) (by decide) (by decide +kernel) ((rB_c htp (by decide) (by decide) s).mp h120))
                    have hval : rB T len s = nI (kdR (sgF T len s e)) := by rw [hsg, h120]; rfl
                    refine J_iload dX9_kindOf_179 rfl ?_
                    refine J_goto (tgt := 186) dX9_kindOf_181 rfl ?_
                    refine J_ireturn dX9_kindOf_186 rfl rfl (by decide) (by decide) ?_
                    refine ⟨by rw [← hval], rfl, vL, fun _ _ => rfl, fun z => ?_, fun z => ?_, hM, (xx_mf.rf (bm := bm))⟩
                    · rw [hsg] at z; exact absurd z (by decide)
                    · rw [hsg] at z; exact absurd z (by decide)
                  · refine J_iload dX9_kindOf_123 rfl ?_
                    refine J_bipush (v := 44) dX9_kindOf_125 (by decide) ?_
                    refine J_icmp_eq (tgt := 179) dX9_kindOf_127 rfl (fun h127 => ?_) (fun h127 => ?_)
                    · have hsg : sgF T len s e = 25 := hsy0.trans (sym_1 (k := 25) (by decide) (by decide +kernel) ((rB_c htp (by decide) (by decide) s).mp h127))
                      have hval : rB T len s = nI (kdR (sgF T len s e)) := by rw [hsg, h127]; rfl
                      refine J_iload dX9_kindOf_179 rfl ?_
                      refine J_goto (tgt := 186) dX9_kindOf_181 rfl ?_
                      refine J_ireturn dX9_kindOf_186 rfl rfl (by decide) (by decide) ?_
                      refine ⟨by rw [← hval], rfl, vL, fun _ _ => rfl, fun z => ?_, fun z => ?_, hM, (xx_mf.rf (bm := bm))⟩
                      · rw [hsg] at z; exact absurd z (by decide)
                      · rw [hsg] at z; exact absurd z (by decide)
                    · refine J_iload dX9_kindOf_130 rfl ?_
                      refine J_bipush (v := 43) dX9_kindOf_132 (by decide) ?_
                      refine J_icmp_eq (tgt := 179) dX9_kindOf_134 rfl (fun h134 => ?_) (fun h134 => ?_)
                      · have hsg : sgF T len s e = 26 := hsy0.trans (sym_1 (k := 26) (by decide) (by decide +kernel) ((rB_c htp (by decide) (by decide) s).mp h134))
                        have hval : rB T len s = nI (kdR (sgF T len s e)) := by rw [hsg, h134]; rfl
                        refine J_iload dX9_kindOf_179 rfl ?_
                        refine J_goto (tgt := 186) dX9_kindOf_181 rfl ?_
                        refine J_ireturn dX9_kindOf_186 rfl rfl (by decide) (by decide) ?_
                        refine ⟨by rw [← hval], rfl, vL, fun _ _ => rfl, fun z => ?_, fun z => ?_, hM, (xx_mf.rf (bm := bm))⟩
                        · rw [hsg] at z; exact absurd z (by decide)
                        · rw [hsg] at z; exact absurd z (by decide)
                      · refine J_iload dX9_kindOf_137 rfl ?_
                        refine J_bipush (v := 45) dX9_kindOf_139 (by decide) ?_
                        refine J_icmp_eq (tgt := 179) dX9_kindOf_141 rfl (fun h141 => ?_) (fun h141 => ?_)
                        · have hsg : sgF T len s e = 27 := hsy0.trans (sym_1 (k := 27) (by decide) (by decide +kernel) ((rB_c htp (by decide) (by decide) s).mp h141))
                          have hval : rB T len s = nI (kdR (sgF T len s e)) := by rw [hsg, h141]; rfl
                          refine J_iload dX9_kindOf_179 rfl ?_
                          refine J_goto (tgt := 186) dX9_kindOf_181 rfl ?_
                          refine J_ireturn dX9_kindOf_186 rfl rfl (by decide) (by decide) ?_
                          refine ⟨by rw [← hval], rfl, vL, fun _ _ => rfl, fun z => ?_, fun z => ?_, hM, (xx_mf.rf (bm := bm))⟩
                          · rw [hsg] at z; exact absurd z (by decide)
                          · rw [hsg] at z; exact absurd z (by decide)
                        · refine J_iload dX9_kindOf_144 rfl ?_
                          refine J_bipush (v := 42) dX9_kindOf_146 (by decide) ?_
                          refine J_icmp_eq (tgt := 179) dX9_kindOf_148 rfl (fun h148 => ?_) (fun h148 => ?_)
                          · have hsg : sgF T len s e = 28 := hsy0.trans (sym_1 (k := 28) (by decide) (by decide +kernel) ((rB_c htp (by decide) (by decide) s).mp h148))
                            have hval : rB T len s = nI (kdR (sgF T len s e)) := by rw [hsg, h148]; rfl
                            refine J_iload dX9_kindOf_179 rfl ?_
                            refine J_goto (tgt := 186) dX9_kindOf_181 rfl ?_
                            refine J_ireturn dX9_kindOf_186 rfl rfl (by decide) (by decide) ?_
                            refine ⟨by rw [← hval], rfl, vL, fun _ _ => rfl, fun z => ?_, fun z => ?_, hM, (xx_mf.rf (bm := bm))⟩
                            · rw [hsg] at z; exact absurd z (by decide)
                            · rw [hsg] at z; exact absurd z (by decide)
                          · refine J_iload dX9_kindOf_151 rfl ?_
                            refine J_bipush (v := 47) dX9_kindOf_153 (by decide) ?_
                            refine J_icmp_eq (tgt := 179) dX9_kindOf_155 rfl (fun h155 => ?_) (fun h155 => ?_)
                            · have hsg : sgF T len s e = 29 := hsy0.trans (sym_1 (k := 29) (by decide) (by decide +kernel) ((rB_c htp (by decide) (by decide) s).mp h155))
                              have hval : rB T len s = nI (kdR (sgF T len s e)) := by rw [hsg, h155]; rfl
                              refine J_iload dX9_kindOf_179 rfl ?_
                              refine J_goto (tgt := 186) dX9_kindOf_181 rfl ?_
                              refine J_ireturn dX9_kindOf_186 rfl rfl (by decide) (by decide) ?_
                              refine ⟨by rw [← hval], rfl, vL, fun _ _ => rfl, fun z => ?_, fun z => ?_, hM, (xx_mf.rf (bm := bm))⟩
                              · rw [hsg] at z; exact absurd z (by decide)
                              · rw [hsg] at z; exact absurd z (by decide)
                            · refine J_iload dX9_kindOf_158 rfl ?_
                              refine J_bipush (v := 60) dX9_kindOf_160 (by decide) ?_
                              refine J_icmp_eq (tgt := 179) dX9_kindOf_162 rfl (fun h162 => ?_) (fun h162 => ?_)
                              · have hsg : sgF T len s e = 30 := hsy0.trans (sym_1 (k := 30) (by decide) (by decide +kernel) ((rB_c htp (by decide) (by decide) s).mp h162))
                                have hval : rB T len s = nI (kdR (sgF T len s e)) := by rw [hsg, h162]; rfl
                                refine J_iload dX9_kindOf_179 rfl ?_
                                refine J_goto (tgt := 186) dX9_kindOf_181 rfl ?_
                                refine J_ireturn dX9_kindOf_186 rfl rfl (by decide) (by decide) ?_
                                refine ⟨by rw [← hval], rfl, vL, fun _ _ => rfl, fun z => ?_, fun z => ?_, hM, (xx_mf.rf (bm := bm))⟩
                                · rw [hsg] at z; exact absurd z (by decide)
                                · rw [hsg] at z; exact absurd z (by decide)
                              · refine J_iload dX9_kindOf_165 rfl ?_
                                refine J_bipush (v := 62) dX9_kindOf_167 (by decide) ?_
                                refine J_icmp_eq (tgt := 179) dX9_kindOf_169 rfl (fun h169 => ?_) (fun h169 => ?_)
                                · have hsg : sgF T len s e = 31 := hsy0.trans (sym_1 (k := 31) (by decide) (by decide +kernel) ((rB_c htp (by decide) (by decide) s).mp h169))
                                  have hval : rB T len s = nI (kdR (sgF T len s e)) := by rw [hsg, h169]; rfl
                                  refine J_iload dX9_kindOf_179 rfl ?_
                                  refine J_goto (tgt := 186) dX9_kindOf_181 rfl ?_
                                  refine J_ireturn dX9_kindOf_186 rfl rfl (by decide) (by decide) ?_
                                  refine ⟨by rw [← hval], rfl, vL, fun _ _ => rfl, fun z => ?_, fun z => ?_, hM, (xx_mf.rf (bm := bm))⟩
                                  · rw [hsg] at z; exact absurd z (by decide)
                                  · rw [hsg] at z; exact absurd z (by decide)
                                · refine J_iload dX9_kindOf_172 rfl ?_
                                  refine J_bipush (v := 61) dX9_kindOf_174 (by decide) ?_
                                  refine J_icmp_ne (tgt := 184) dX9_kindOf_176 rfl (fun h176 => ?_) (fun h176 => ?_)
                                  · have hsg : sgF T len s e = 38 := hsy0.trans (sym_0 (fun k hk h1 => by
                                      have h2 := (txs_1 k hk h1).1
                                      have h3 : k = 20 ∨ k = 21 ∨ k = 22 ∨ k = 23 ∨ k = 24 ∨ k = 25 ∨ k = 26 ∨ k = 27 ∨ k = 28 ∨ k = 29 ∨ k = 30 ∨ k = 31 ∨ k = 32 := by omega
                                      rcases h3 with rfl | rfl | rfl | rfl | rfl | rfl | rfl | rfl | rfl | rfl | rfl | rfl | rfl
                                      · exact fun z => h92 ((rB_c htp (by decide) (by decide) s).mpr z)
                                      · exact fun z => h99 ((rB_c htp (by decide) (by decide) s).mpr z)
                                      · exact fun z => h106 ((rB_c htp (by decide) (by decide) s).mpr z)
                                      · exact fun z => h113 ((rB_c htp (by decide) (by decide) s).mpr z)
                                      · exact fun z => h120 ((rB_c htp (by decide) (by decide) s).mpr z)
                                      · exact fun z => h127 ((rB_c htp (by decide) (by decide) s).mpr z)
                                      · exact fun z => h134 ((rB_c htp (by decide) (by decide) s).mpr z)
                                      · exact fun z => h141 ((rB_c htp (by decide) (by decide) s).mpr z)
                                      · exact fun z => h148 ((rB_c htp (by decide) (by decide) s).mpr z)
                                      · exact fun z => h155 ((rB_c htp (by decide) (by decide) s).mpr z)
                                      · exact fun z => h162 ((rB_c htp (by decide) (by decide) s).mpr z)
                                      · exact fun z => h169 ((rB_c htp (by decide) (by decide) s).mpr z)
                                      · exact fun z => h176 ((rB_c htp (by decide) (by decide) s).mpr z)))
                                    refine J_bipush (v := 32) dX9_kindOf_184 (by decide) ?_
                                    refine J_ireturn dX9_kindOf_186 rfl rfl (by decide) (by decide) ?_
                                    refine ⟨by rw [hsg]; rfl, rfl, vL, fun _ _ => rfl, fun z => ?_, fun z => ?_, hM, (xx_mf.rf (bm := bm))⟩
                                    · rw [hsg] at z; exact absurd z (by decide)
                                    · rw [hsg] at z; exact absurd z (by decide)
                                  · have hsg : sgF T len s e = 32 := hsy0.trans (sym_1 (k := 32) (by decide) (by decide +kernel) ((rB_c htp (by decide) (by decide) s).mp h176))
                                    have hval : rB T len s = nI (kdR (sgF T len s e)) := by rw [hsg, h176]; rfl
                                    refine J_iload dX9_kindOf_179 rfl ?_
                                    refine J_goto (tgt := 186) dX9_kindOf_181 rfl ?_
                                    refine J_ireturn dX9_kindOf_186 rfl rfl (by decide) (by decide) ?_
                                    refine ⟨by rw [← hval], rfl, vL, fun _ _ => rfl, fun z => ?_, fun z => ?_, hM, (xx_mf.rf (bm := bm))⟩
                                    · rw [hsg] at z; exact absurd z (by decide)
                                    · rw [hsg] at z; exact absurd z (by decide)
        · have hq2 : e - s = 2 := by rw [i_eq, i_n (by omega), i_2] at h78; omega
          have hq3 : (bat T len s = 60 ∨ bat T len s = 62) ∧ bat T len (s + 1) = 61 := by
            by_cases c : (bat T len s = 60 ∨ bat T len s = 62) ∧ bat T len (s + 1) = 61
            · exact c
            · rw [if_neg c] at eos; omega
          have e2 : e = s + 2 := by omega
          obtain ⟨k, hk, hkv⟩ : ∃ k, (k = 33 ∧ bat T len s = 60 ∨ k = 34 ∧ bat T len s = 62) ∧ 256 + rB T len s = nI (kdR k) := by
            rcases hq3.1 with z | z
            · exact ⟨33, Or.inl ⟨rfl, z⟩, by rw [(rB_c htp (by decide) (by decide) s).mpr z]; rfl⟩
            · exact ⟨34, Or.inr ⟨rfl, z⟩, by rw [(rB_c htp (by decide) (by decide) s).mpr z]; rfl⟩
          have hsg : sgF T len s e = k := by rw [hsy, e2]; exact sym_2 hk hq3.2
          have hk2 : k = 33 ∨ k = 34 := hk.elim (fun z => Or.inl z.1) (fun z => Or.inr z.1)
          refine J_sipush (v := 256) dX9_kindOf_81 (by decide) ?_
          refine J_iload dX9_kindOf_84 rfl ?_
          refine J_iadd dX9_kindOf_86 ?_
          refine J_ireturn dX9_kindOf_87 rfl rfl (by decide) (by decide) ?_
          refine ⟨by rw [hsg, hkv], rfl, vL, fun _ _ => rfl, fun z => ?_, fun z => ?_, hM, (xx_mf.rf (bm := bm))⟩
          · rw [hsg] at z; omega
          · rw [hsg] at z; omega
      · have hL : isL (bat T len s) := (rB_L htp s).mp h50
        have ee2 : e = etl T len (isL (bat T len s)) (len - (s + 1)) (s + 1) := by rw [he, if_pos hsl]; unfold eotF; rw [if_pos (Or.inl hL)]
        have hel : e ≤ len := by rw [he, if_pos hsl]; exact (eotF_le (by omega)).1
        have hse1 : s < e := by rw [ee2]; exact etl_ge _ _ _
        have hwd : ∀ q, s ≤ q → q < e → isL (bat T len q) ∨ isD (bat T len q) := fun q h1 h2 => by
          by_cases c : q = s
          · rw [c]; exact Or.inl hL
          · rw [ee2] at h2
            rcases etl_all _ _ _ q (by omega) h2 with z | z
            · exact Or.inr z
            · exact Or.inl z.2
        refine J_iload_n dX9_kindOf_53 rfl rfl ?_
        refine J_iload_n dX9_kindOf_54 rfl rfl ?_
        refine J_isub dX9_kindOf_55 ?_
        refine J_bipush (v := 10) dX9_kindOf_56 (by decide) ?_
        rw [hes]
        refine J_icmp_le (tgt := 66) dX9_kindOf_58 rfl (fun h58 => ?_) (fun h58 => ?_)
        · have h10b : e - s ≤ 10 := (i_le10 (by omega)).mp h58
          have hsg : sgF T len s e = swtF T len s e 35 39 0 := by unfold sgF; rw [if_pos hsl, if_neg hnD, if_pos hL, if_pos h10b]
          have hwk := word_k h10b hse1 hwd
          refine J_aload_n dX9_kindOf_66 rfl rfl ?_
          refine J_iload_n dX9_kindOf_67 rfl rfl ?_
          refine J_iload_n dX9_kindOf_68 rfl rfl ?_
          refine J_iload_n dX9_kindOf_69 rfl rfl ?_
          refine J_callVw (As := [_, _, _]) dX9_kindOf_70 ml_X9_274 cal_X9_wordAt im_X9_wordAt se_X9_wordAt (hM.at 0 rfl) rfl rfl rfl (Nat.le_of_ble_eq_true rfl) ⟨by decide, by decide⟩ ⟨by decide, by decide⟩ (c_X9_wordAt hst hM htp hx0 ht hx1 hx2 hse hel hwd) (fun A1 hQ1 => ?_)
          skip
          refine J_ireturn dX9_kindOf_73 rfl rfl (by decide) (by decide) ?_
          refine ⟨by rw [hsg, hwk.2], rfl, _, fun q hq => if_neg hq, fun z => ?_, fun _ => if_pos rfl, hQ1.1, ((xx_mf.rf (bm := bm)).trans hQ1.2)⟩
          have z2 := hwk.1
          rw [← hsg, z] at z2
          exact absurd z2 (by decide)
        · have hsg : sgF T len s e = 38 := by unfold sgF; rw [if_pos hsl, if_neg hnD, if_pos hL, if_neg (fun z => h58 ((i_le10 (by omega)).mpr z))]
          refine J_bipush (v := 32) dX9_kindOf_61 (by decide) ?_
          refine J_goto (tgt := 73) dX9_kindOf_63 rfl ?_
          refine J_ireturn dX9_kindOf_73 rfl rfl (by decide) (by decide) ?_
          refine ⟨by rw [hsg]; rfl, rfl, vL, fun _ _ => rfl, fun z => ?_, fun z => ?_, hM, (xx_mf.rf (bm := bm))⟩
          · rw [hsg] at z; exact absurd z (by decide)
          · rw [hsg] at z; exact absurd z (by decide)
    · have hD : isD (bat T len s) := (rB_D htp s).mp h21
      have ee2 : e = etl T len (isL (bat T len s)) (len - (s + 1)) (s + 1) := by rw [he, if_pos hsl]; unfold eotF; rw [if_pos (Or.inr hD)]
      have hel : e ≤ len := by rw [he, if_pos hsl]; exact (eotF_le (by omega)).1
      have hdg : ∀ q, s ≤ q → q < e → isD (bat T len q) := fun q h1 h2 => by
        by_cases c : q = s
        · rw [c]; exact hD
        · rw [ee2] at h2
          rcases etl_all _ _ _ q (by omega) h2 with z | z
          · exact z
          · exact absurd hD (LD_x z.1)
      refine J_iload_n dX9_kindOf_24 rfl rfl ?_
      refine J_iload_n dX9_kindOf_25 rfl rfl ?_
      refine J_isub dX9_kindOf_26 ?_
      refine J_bipush (v := 6) dX9_kindOf_27 (by decide) ?_
      rw [hes]
      refine J_icmp_le (tgt := 37) dX9_kindOf_29 rfl (fun h29 => ?_) (fun h29 => ?_)
      · have hsg : sgF T len s e = 36 := by unfold sgF; rw [if_pos hsl, if_pos hD, if_pos ((i_le6 (by omega)).mp h29)]
        refine J_aload_n dX9_kindOf_37 rfl rfl ?_
        refine J_iload_n dX9_kindOf_38 rfl rfl ?_
        refine J_iload_n dX9_kindOf_39 rfl rfl ?_
        refine J_iload_n dX9_kindOf_40 rfl rfl ?_
        refine J_callVw (As := [_, _, _]) dX9_kindOf_41 ml_X9_271 cal_X9_numberAt im_X9_numberAt se_X9_numberAt (hM.at 0 rfl) rfl rfl rfl (Nat.le_of_ble_eq_true rfl) ⟨by decide, by decide⟩ ⟨by decide, by decide⟩ (c_X9_numberAt hst hM htp hx0 ht hx1 hx2 hse hel hdg) (fun A2 hQ2 => ?_)
        skip
        refine J_ireturn dX9_kindOf_44 rfl rfl (by decide) (by decide) ?_
        refine ⟨by rw [hsg]; rfl, rfl, _, fun q hq => if_neg hq, fun _ => if_pos rfl, fun z => ?_, hQ2.1, ((xx_mf.rf (bm := bm)).trans hQ2.2)⟩
        rw [hsg] at z; exact absurd z (by decide)
      · have hsg : sgF T len s e = 38 := by unfold sgF; rw [if_pos hsl, if_pos hD, if_neg (fun z => h29 ((i_le6 (by omega)).mpr z))]
        refine J_bipush (v := 32) dX9_kindOf_32 (by decide) ?_
        refine J_goto (tgt := 44) dX9_kindOf_34 rfl ?_
        refine J_ireturn dX9_kindOf_44 rfl rfl (by decide) (by decide) ?_
        refine ⟨by rw [hsg]; rfl, rfl, vL, fun _ _ => rfl, fun z => ?_, fun z => ?_, hM, (xx_mf.rf (bm := bm))⟩
        · rw [hsg] at z; exact absurd z (by decide)
        · rw [hsg] at z; exact absurd z (by decide)
  · have hsg : sgF T len s e = 37 := if_neg ((rB_m1 htp s).mp h10)
    refine J_bipush (v := 33) dX9_kindOf_13 (by decide) ?_
    refine J_ireturn dX9_kindOf_15 rfl rfl (by decide) (by decide) ?_
    refine ⟨by rw [hsg]; rfl, rfl, vL, fun _ _ => rfl, fun z => ?_, fun z => ?_, hM, (xx_mf.rf (bm := bm))⟩
    · rw [hsg] at z; exact absurd z (by decide)
    · rw [hsg] at z; exact absurd z (by decide)
end XSB
