/-! RULES -/
section XRU
def layR (b : Nat) (F : xS) : List (Nat × va_E) := [(0, .inr (3, [.int (F.1 0), .ref (b + 1), .ref (b + 2), .int (F.1 3), .ref (b + 3), .ref (b + 4), .int (F.1 6), .ref (b + 5)])), (1, .inl (0, 16, .inl (F.2 1))), (2, .inl (0, 16, .inl (F.2 2))), (3, .inl (0, 400, .inl (F.2 3))), (4, .inl (0, 400, .inl (F.2 4))), (5, .inl (0, 400, .inl (F.2 5)))]
theorem wR_s0_0 {b : Nat} {F : xS} {A : xx_H} (h : xx_w b (layR b F) A) (x : Int32) : xx_w b (layR b (s_up F 0 x)) (xx_up A (b + 0) (.inr (3, [Value.int (F.1 0), .ref (b + 1), .ref (b + 2), .int (F.1 3), .ref (b + 3), .ref (b + 4), .int (F.1 6), .ref (b + 5)].set 0 (.int x)))) := h.put 0 _ rfl rfl
theorem wR_s0_3 {b : Nat} {F : xS} {A : xx_H} (h : xx_w b (layR b F) A) (x : Int32) : xx_w b (layR b (s_up F 3 x)) (xx_up A (b + 0) (.inr (3, [Value.int (F.1 0), .ref (b + 1), .ref (b + 2), .int (F.1 3), .ref (b + 3), .ref (b + 4), .int (F.1 6), .ref (b + 5)].set 3 (.int x)))) := h.put 0 _ rfl rfl
theorem wR_s0_6 {b : Nat} {F : xS} {A : xx_H} (h : xx_w b (layR b F) A) (x : Int32) : xx_w b (layR b (s_up F 6 x)) (xx_up A (b + 0) (.inr (3, [Value.int (F.1 0), .ref (b + 1), .ref (b + 2), .int (F.1 3), .ref (b + 3), .ref (b + 4), .int (F.1 6), .ref (b + 5)].set 6 (.int x)))) := h.put 0 _ rfl rfl
theorem wR_a1 {b : Nat} {F : xS} {A : xx_H} (h : xx_w b (layR b F) A) (f : Nat → Int32) : xx_w b (layR b (a_up F 1 f)) (xx_up A (b + 1) (.inl (0, 16, .inl f))) := h.put 1 _ rfl rfl
theorem wR_a2 {b : Nat} {F : xS} {A : xx_H} (h : xx_w b (layR b F) A) (f : Nat → Int32) : xx_w b (layR b (a_up F 2 f)) (xx_up A (b + 2) (.inl (0, 16, .inl f))) := h.put 2 _ rfl rfl
theorem wR_a3 {b : Nat} {F : xS} {A : xx_H} (h : xx_w b (layR b F) A) (f : Nat → Int32) : xx_w b (layR b (a_up F 3 f)) (xx_up A (b + 3) (.inl (0, 400, .inl f))) := h.put 3 _ rfl rfl
theorem wR_a4 {b : Nat} {F : xS} {A : xx_H} (h : xx_w b (layR b F) A) (f : Nat → Int32) : xx_w b (layR b (a_up F 4 f)) (xx_up A (b + 4) (.inl (0, 400, .inl f))) := h.put 4 _ rfl rfl
theorem wR_a5 {b : Nat} {F : xS} {A : xx_H} (h : xx_w b (layR b F) A) (f : Nat → Int32) : xx_w b (layR b (a_up F 5 f)) (xx_up A (b + 5) (.inl (0, 400, .inl f))) := h.put 5 _ rfl rfl
variable {G : xx_G} {l : Launch} {b n : Nat} {A : xx_H} {F : xS} {br : Nat} {R : xS}
/-- two numbers joined -/
def opJ (op a b : Int32) : Int32 := match op.toInt with
  | 8 => a + b
  | 9 => a - b
  | 10 => a * b
  | 11 => if b = 0 then 0 else a / b
  | 12 => if b < a then b else a
  | 13 => if a < b then b else a
  | 14 => if a < b then 1 else 0
  | 15 => if b < a then 1 else 0
  | 16 => if a = b then 1 else 0
  | 17 => if a ≤ b then 1 else 0
  | 18 => if b ≤ a then 1 else 0
  | 19 => a &&& b
  | 20 => a ||| b
  | _ => 0
theorem c_X3_join (hst : l.stackTraces = false) (op a b : Int32) : xx_C G l yX3_join mX3_join 1 21 0 0 [.int op, .int a, .int b] A n (xx_ro (some (.int (opJ op a b))) A n) := by
  refine J_C hst (by decide +kernel) rfl rfl rfl (Nat.le_of_ble_eq_true rfl) ?_
  show xx_J _ _ _ _ _ _ _ _ 0 [(0, _), (1, _), (2, _)] [] _ _ _ _
  refine J_iload_n dX3_join_0 rfl rfl ?_
  have hsw1 : (op).toInt = 8 ∨ (op).toInt = 9 ∨ (op).toInt = 10 ∨ (op).toInt = 11 ∨ (op).toInt = 12 ∨ (op).toInt = 13 ∨ (op).toInt = 14 ∨ (op).toInt = 15 ∨ (op).toInt = 16 ∨ (op).toInt = 17 ∨ (op).toInt = 18 ∨ (op).toInt = 19 ∨ (op).toInt = 20 ∨ ((op).toInt < 8 ∨ 20 < (op).toInt) := by omega
  rcases hsw1 with hs1 | hs1 | hs1 | hs1 | hs1 | hs1 | hs1 | hs1 | hs1 | hs1 | hs1 | hs1 | hs1 | hs1
  · refine J_tableIn (tgt := 68) dX3_join_1 (by omega) (by omega) (by rw [hs1]; rfl) rfl ?_
    refine J_iload_n dX3_join_68 rfl rfl ?_
    refine J_iload_n dX3_join_69 rfl rfl ?_
    refine J_iadd dX3_join_70 ?_
    refine J_ireturn dX3_join_71 rfl rfl (by decide) (by decide) ?_
    refine ⟨congrArg (fun v => Sum.inl (some (Value.int v))) ?_, rfl, rfl⟩
    unfold opJ
    first | (simp only [hs1]; done) | (simp only [hs1]; rfl) | (simp only [hs1]; split <;> first | rfl | (exfalso; simp only [i_lt, i_le, i_eq] at *; omega)) | (split <;> first | rfl | (exfalso; omega))
  · refine J_tableIn (tgt := 72) dX3_join_1 (by omega) (by omega) (by rw [hs1]; rfl) rfl ?_
    refine J_iload_n dX3_join_72 rfl rfl ?_
    refine J_iload_n dX3_join_73 rfl rfl ?_
    refine J_isub dX3_join_74 ?_
    refine J_ireturn dX3_join_75 rfl rfl (by decide) (by decide) ?_
    refine ⟨congrArg (fun v => Sum.inl (some (Value.int v))) ?_, rfl, rfl⟩
    unfold opJ
    first | (simp only [hs1]; done) | (simp only [hs1]; rfl) | (simp only [hs1]; split <;> first | rfl | (exfalso; simp only [i_lt, i_le, i_eq] at *; omega)) | (split <;> first | rfl | (exfalso; omega))
  · refine J_tableIn (tgt := 76) dX3_join_1 (by omega) (by omega) (by rw [hs1]; rfl) rfl ?_
    refine J_iload_n dX3_join_76 rfl rfl ?_
    refine J_iload_n dX3_join_77 rfl rfl ?_
    refine J_imul dX3_join_78 ?_
    refine J_ireturn dX3_join_79 rfl rfl (by decide) (by decide) ?_
    refine ⟨congrArg (fun v => Sum.inl (some (Value.int v))) ?_, rfl, rfl⟩
    unfold opJ
    first | (simp only [hs1]; done) | (simp only [hs1]; rfl) | (simp only [hs1]; split <;> first | rfl | (exfalso; simp only [i_lt, i_le, i_eq] at *; omega)) | (split <;> first | rfl | (exfalso; omega))
  · refine J_tableIn (tgt := 80) dX3_join_1 (by omega) (by omega) (by rw [hs1]; rfl) rfl ?_
    refine J_iload_n dX3_join_80 rfl rfl ?_
    refine J_if_ne (tgt := 88) dX3_join_81 rfl (fun h81 => ?_) (fun h81 => ?_)
    · refine J_iload_n dX3_join_88 rfl rfl ?_
      refine J_iload_n dX3_join_89 rfl rfl ?_
      refine J_idiv dX3_join_90 h81 ?_
      refine J_ireturn dX3_join_91 rfl rfl (by decide) (by decide) ?_
      refine ⟨congrArg (fun v => Sum.inl (some (Value.int v))) ?_, rfl, rfl⟩
      unfold opJ
      first | (simp only [hs1]; done) | (simp only [hs1]; rfl) | (simp only [hs1]; split <;> first | rfl | (exfalso; simp only [i_lt, i_le, i_eq] at *; omega)) | (split <;> first | rfl | (exfalso; omega))
    · refine J_iconst (v := 0) dX3_join_84 (by decide) ?_
      refine J_goto (tgt := 91) dX3_join_85 rfl ?_
      refine J_ireturn dX3_join_91 rfl rfl (by decide) (by decide) ?_
      refine ⟨congrArg (fun v => Sum.inl (some (Value.int v))) ?_, rfl, rfl⟩
      unfold opJ
      first | (simp only [hs1]; done) | (simp only [hs1]; rfl) | (simp only [hs1]; split <;> first | rfl | (exfalso; simp only [i_lt, i_le, i_eq] at *; omega)) | (split <;> first | rfl | (exfalso; omega))
  · refine J_tableIn (tgt := 92) dX3_join_1 (by omega) (by omega) (by rw [hs1]; rfl) rfl ?_
    refine J_iload_n dX3_join_92 rfl rfl ?_
    refine J_iload_n dX3_join_93 rfl rfl ?_
    refine J_min dX3_join_94 ml_X3_86 ⟨by decide, Nat.le_of_ble_eq_true rfl⟩ ⟨by decide, by decide⟩ ?_
    refine J_ireturn dX3_join_97 rfl rfl (by decide) (by decide) ?_
    refine ⟨congrArg (fun v => Sum.inl (some (Value.int v))) ?_, rfl, rfl⟩
    unfold opJ
    first | (simp only [hs1]; done) | (simp only [hs1]; rfl) | (simp only [hs1]; split <;> first | rfl | (exfalso; simp only [i_lt, i_le, i_eq] at *; omega)) | (split <;> first | rfl | (exfalso; omega))
  · refine J_tableIn (tgt := 98) dX3_join_1 (by omega) (by omega) (by rw [hs1]; rfl) rfl ?_
    refine J_iload_n dX3_join_98 rfl rfl ?_
    refine J_iload_n dX3_join_99 rfl rfl ?_
    refine J_max dX3_join_100 ml_X3_91 ⟨by decide, Nat.le_of_ble_eq_true rfl⟩ ⟨by decide, by decide⟩ ?_
    refine J_ireturn dX3_join_103 rfl rfl (by decide) (by decide) ?_
    refine ⟨congrArg (fun v => Sum.inl (some (Value.int v))) ?_, rfl, rfl⟩
    unfold opJ
    first | (simp only [hs1]; done) | (simp only [hs1]; rfl) | (simp only [hs1]; split <;> first | rfl | (exfalso; simp only [i_lt, i_le, i_eq] at *; omega)) | (split <;> first | rfl | (exfalso; omega))
  · refine J_tableIn (tgt := 104) dX3_join_1 (by omega) (by omega) (by rw [hs1]; rfl) rfl ?_
    refine J_iload_n dX3_join_104 rfl rfl ?_
    refine J_iload_n dX3_join_105 rfl rfl ?_
    refine J_icmp_ge (tgt := 113) dX3_join_106 rfl (fun h106 => ?_) (fun h106 => ?_)
    · refine J_iconst (v := 0) dX3_join_113 (by decide) ?_
      refine J_ireturn dX3_join_114 rfl rfl (by decide) (by decide) ?_
      refine ⟨congrArg (fun v => Sum.inl (some (Value.int v))) ?_, rfl, rfl⟩
      unfold opJ
      first | (simp only [hs1]; done) | (simp only [hs1]; rfl) | (simp only [hs1]; split <;> first | rfl | (exfalso; simp only [i_lt, i_le, i_eq] at *; omega)) | (split <;> first | rfl | (exfalso; omega))
    · refine J_iconst (v := 1) dX3_join_109 (by decide) ?_
      refine J_goto (tgt := 114) dX3_join_110 rfl ?_
      refine J_ireturn dX3_join_114 rfl rfl (by decide) (by decide) ?_
      refine ⟨congrArg (fun v => Sum.inl (some (Value.int v))) ?_, rfl, rfl⟩
      unfold opJ
      first | (simp only [hs1]; done) | (simp only [hs1]; rfl) | (simp only [hs1]; split <;> first | rfl | (exfalso; simp only [i_lt, i_le, i_eq] at *; omega)) | (split <;> first | rfl | (exfalso; omega))
  · refine J_tableIn (tgt := 115) dX3_join_1 (by omega) (by omega) (by rw [hs1]; rfl) rfl ?_
    refine J_iload_n dX3_join_115 rfl rfl ?_
    refine J_iload_n dX3_join_116 rfl rfl ?_
    refine J_icmp_le (tgt := 124) dX3_join_117 rfl (fun h117 => ?_) (fun h117 => ?_)
    · refine J_iconst (v := 0) dX3_join_124 (by decide) ?_
      refine J_ireturn dX3_join_125 rfl rfl (by decide) (by decide) ?_
      refine ⟨congrArg (fun v => Sum.inl (some (Value.int v))) ?_, rfl, rfl⟩
      unfold opJ
      first | (simp only [hs1]; done) | (simp only [hs1]; rfl) | (simp only [hs1]; split <;> first | rfl | (exfalso; simp only [i_lt, i_le, i_eq] at *; omega)) | (split <;> first | rfl | (exfalso; omega))
    · refine J_iconst (v := 1) dX3_join_120 (by decide) ?_
      refine J_goto (tgt := 125) dX3_join_121 rfl ?_
      refine J_ireturn dX3_join_125 rfl rfl (by decide) (by decide) ?_
      refine ⟨congrArg (fun v => Sum.inl (some (Value.int v))) ?_, rfl, rfl⟩
      unfold opJ
      first | (simp only [hs1]; done) | (simp only [hs1]; rfl) | (simp only [hs1]; split <;> first | rfl | (exfalso; simp only [i_lt, i_le, i_eq] at *; omega)) | (split <;> first | rfl | (exfalso; omega))
  · refine J_tableIn (tgt := 126) dX3_join_1 (by omega) (by omega) (by rw [hs1]; rfl) rfl ?_
    refine J_iload_n dX3_join_126 rfl rfl ?_
    refine J_iload_n dX3_join_127 rfl rfl ?_
    refine J_icmp_ne (tgt := 135) dX3_join_128 rfl (fun h128 => ?_) (fun h128 => ?_)
    · refine J_iconst (v := 0) dX3_join_135 (by decide) ?_
      refine J_ireturn dX3_join_136 rfl rfl (by decide) (by decide) ?_
      refine ⟨congrArg (fun v => Sum.inl (some (Value.int v))) ?_, rfl, rfl⟩
      unfold opJ
      first | (simp only [hs1]; done) | (simp only [hs1]; rfl) | (simp only [hs1]; split <;> first | rfl | (exfalso; simp only [i_lt, i_le, i_eq] at *; omega)) | (split <;> first | rfl | (exfalso; omega))
    · refine J_iconst (v := 1) dX3_join_131 (by decide) ?_
      refine J_goto (tgt := 136) dX3_join_132 rfl ?_
      refine J_ireturn dX3_join_136 rfl rfl (by decide) (by decide) ?_
      refine ⟨congrArg (fun v => Sum.inl (some (Value.int v))) ?_, rfl, rfl⟩
      unfold opJ
      first | (simp only [hs1]; done) | (simp only [hs1]; rfl) | (simp only [hs1]; split <;> first | rfl | (exfalso; simp only [i_lt, i_le, i_eq] at *; omega)) | (split <;> first | rfl | (exfalso; omega))
  · refine J_tableIn (tgt := 137) dX3_join_1 (by omega) (by omega) (by rw [hs1]; rfl) rfl ?_
    refine J_iload_n dX3_join_137 rfl rfl ?_
    refine J_iload_n dX3_join_138 rfl rfl ?_
    refine J_icmp_gt (tgt := 146) dX3_join_139 rfl (fun h139 => ?_) (fun h139 => ?_)
    · refine J_iconst (v := 0) dX3_join_146 (by decide) ?_
      refine J_ireturn dX3_join_147 rfl rfl (by decide) (by decide) ?_
      refine ⟨congrArg (fun v => Sum.inl (some (Value.int v))) ?_, rfl, rfl⟩
      unfold opJ
      first | (simp only [hs1]; done) | (simp only [hs1]; rfl) | (simp only [hs1]; split <;> first | rfl | (exfalso; simp only [i_lt, i_le, i_eq] at *; omega)) | (split <;> first | rfl | (exfalso; omega))
    · refine J_iconst (v := 1) dX3_join_142 (by decide) ?_
      refine J_goto (tgt := 147) dX3_join_143 rfl ?_
      refine J_ireturn dX3_join_147 rfl rfl (by decide) (by decide) ?_
      refine ⟨congrArg (fun v => Sum.inl (some (Value.int v))) ?_, rfl, rfl⟩
      unfold opJ
      first | (simp only [hs1]; done) | (simp only [hs1]; rfl) | (simp only [hs1]; split <;> first | rfl | (exfalso; simp only [i_lt, i_le, i_eq] at *; omega)) | (split <;> first | rfl | (exfalso; omega))
  · refine J_tableIn (tgt := 148) dX3_join_1 (by omega) (by omega) (by rw [hs1]; rfl) rfl ?_
    refine J_iload_n dX3_join_148 rfl rfl ?_
    refine J_iload_n dX3_join_149 rfl rfl ?_
    refine J_icmp_lt (tgt := 157) dX3_join_150 rfl (fun h150 => ?_) (fun h150 => ?_)
    · refine J_iconst (v := 0) dX3_join_157 (by decide) ?_
      refine J_ireturn dX3_join_158 rfl rfl (by decide) (by decide) ?_
      refine ⟨congrArg (fun v => Sum.inl (some (Value.int v))) ?_, rfl, rfl⟩
      unfold opJ
      first | (simp only [hs1]; done) | (simp only [hs1]; rfl) | (simp only [hs1]; split <;> first | rfl | (exfalso; simp only [i_lt, i_le, i_eq] at *; omega)) | (split <;> first | rfl | (exfalso; omega))
    · refine J_iconst (v := 1) dX3_join_153 (by decide) ?_
      refine J_goto (tgt := 158) dX3_join_154 rfl ?_
      refine J_ireturn dX3_join_158 rfl rfl (by decide) (by decide) ?_
      refine ⟨congrArg (fun v => Sum.inl (some (Value.int v))) ?_, rfl, rfl⟩
      unfold opJ
      first | (simp only [hs1]; done) | (simp only [hs1]; rfl) | (simp only [hs1]; split <;> first | rfl | (exfalso; simp only [i_lt, i_le, i_eq] at *; omega)) | (split <;> first | rfl | (exfalso; omega))
  · refine J_tableIn (tgt := 159) dX3_join_1 (by omega) (by omega) (by rw [hs1]; rfl) rfl ?_
    refine J_iload_n dX3_join_159 rfl rfl ?_
    refine J_iload_n dX3_join_160 rfl rfl ?_
    refine J_iand dX3_join_161 ?_
    refine J_ireturn dX3_join_162 rfl rfl (by decide) (by decide) ?_
    refine ⟨congrArg (fun v => Sum.inl (some (Value.int v))) ?_, rfl, rfl⟩
    unfold opJ
    first | (simp only [hs1]; done) | (simp only [hs1]; rfl) | (simp only [hs1]; split <;> first | rfl | (exfalso; simp only [i_lt, i_le, i_eq] at *; omega)) | (split <;> first | rfl | (exfalso; omega))
  · refine J_tableIn (tgt := 163) dX3_join_1 (by omega) (by omega) (by rw [hs1]; rfl) rfl ?_
    refine J_iload_n dX3_join_163 rfl rfl ?_
    refine J_iload_n dX3_join_164 rfl rfl ?_
    refine J_ior dX3_join_165 ?_
    refine J_ireturn dX3_join_166 rfl rfl (by decide) (by decide) ?_
    refine ⟨congrArg (fun v => Sum.inl (some (Value.int v))) ?_, rfl, rfl⟩
    unfold opJ
    first | (simp only [hs1]; done) | (simp only [hs1]; rfl) | (simp only [hs1]; split <;> first | rfl | (exfalso; simp only [i_lt, i_le, i_eq] at *; omega)) | (split <;> first | rfl | (exfalso; omega))
  · refine J_tableOut (tgt := 167) dX3_join_1 hs1 rfl ?_
    refine J_iconst (v := 0) dX3_join_167 (by decide) ?_
    refine J_ireturn dX3_join_168 rfl rfl (by decide) (by decide) ?_
    refine ⟨congrArg (fun v => Sum.inl (some (Value.int v))) ?_, rfl, rfl⟩
    unfold opJ
    first | (simp only [hs1]; done) | (simp only [hs1]; rfl) | (simp only [hs1]; split <;> first | rfl | (exfalso; simp only [i_lt, i_le, i_eq] at *; omega)) | (split <;> first | rfl | (exfalso; omega))
/-- the stack as a list, its top first -/
def rp (st : Nat → Int32) (s : List Int32) : Prop := s.length ≤ 400 ∧ ∀ q, q < s.length → st q = s.getD (s.length - 1 - q) 0
abbrev stR (R : xS) (st : Nat → Int32) (m : Nat) : xS := a_up (s_up R 6 (nI m)) 5 st
def psh (v : Int32) (s : List Int32) : List Int32 := if s.length < 400 then v :: s else s
theorem s_up_u {X : xS} {i : Nat} {v w : Int32} : s_up (s_up X i v) i w = s_up X i w := by
  unfold s_up
  refine Prod.ext ?_ rfl
  funext q
  simp only [va_up]
  split <;> rfl
theorem rp_psh {st : Nat → Int32} {s : List Int32} (h : rp st s) (hl : s.length < 400) (v : Int32) : rp (upd st s.length v) (v :: s) := by
  refine ⟨by simp only [List.length_cons]; omega, fun q hq => ?_⟩
  simp only [List.length_cons] at hq ⊢
  simp only [upd]
  by_cases e : q = s.length
  · subst e
    rw [if_pos rfl, show s.length + 1 - 1 - s.length = 0 by omega]
    rfl
  · rw [if_neg e, h.2 q (by omega), show s.length + 1 - 1 - q = (s.length - 1 - q) + 1 by omega]
    rfl
theorem rp_tl {st : Nat → Int32} {s : List Int32} (h : rp st s) : rp st s.tail := by
  cases s with
  | nil => exact h
  | cons a s =>
    obtain ⟨h1, h2⟩ := h
    simp only [List.length_cons] at h1 h2
    refine ⟨by show s.length ≤ 400; omega, fun q hq => ?_⟩
    simp only [List.tail_cons] at hq ⊢
    rw [h2 q (by omega), show s.length + 1 - 1 - q = (s.length - 1 - q) + 1 by omega]
    rfl
theorem rp_hd {st : Nat → Int32} {s : List Int32} (h : rp st s) (h0 : s ≠ []) : st (s.length - 1) = s.headD 0 := by
  cases s with
  | nil => exact absurd rfl h0
  | cons a s =>
    rw [h.2 _ (by simp only [List.length_cons]; omega)]
    simp only [List.length_cons, Nat.add_sub_cancel, Nat.sub_self]
    rfl
theorem lay_psh {R : xS} {st st' : Nat → Int32} {m : Nat} {v : Int32} (hv : v = nI (m + 1)) : s_up (a_up (stR R st m) 5 st') 6 v = stR R st' (m + 1) := by
  rw [hv]
  show (va_up (va_up R.1 6 _) 6 _, va_up (va_up R.2 5 st) 5 st') = _
  have h1 := congrArg Prod.fst (s_up_u (X := R) (i := 6) (v := nI m) (w := nI (m + 1)))
  have h2 := congrArg Prod.snd (a_up_u (X := R) (i := 5) (f := st) (g := st'))
  exact Prod.ext h1 h2
theorem lay_pop {R : xS} {st : Nat → Int32} {m m' : Nat} {v : Int32} (hv : v = nI m') : s_up (stR R st m) 6 v = stR R st m' := by
  rw [hv]
  have h1 := congrArg Prod.fst (s_up_u (X := R) (i := 6) (v := nI m) (w := nI m'))
  exact Prod.ext h1 rfl
variable {st : Nat → Int32} {s : List Int32}
theorem c_X3_push (hst : l.stackTraces = false) (hR : xx_w br (layR br (stR R st s.length)) A) (hrp : rp st s) (v : Int32) : xx_C G l yX3_push mX3_push 0 0 0 0 [.ref br, .int v] A n (xx_wr none n (fun A' => ∃ st', rp st' (psh v s) ∧ xx_w br (layR br (stR R st' (psh v s).length)) A' ∧ xx_same br (br + 6) A A')) := by
  have hl4 := hrp.1
  have el : ((stR R st s.length).1 6).toInt = s.length := i_n (by omega)
  have el2 : (va_up R.1 6 (nI s.length) 6).toInt = s.length := el
  have e400 := i_400
  refine J_C hst (by decide +kernel) rfl rfl rfl (Nat.le_of_ble_eq_true rfl) ?_
  show xx_J _ _ _ _ _ _ _ _ 0 [(0, _), (1, _)] [] _ _ _ _
  refine J_aload_n dX3_push_0 rfl rfl ?_
  refine J_getf dX3_push_1 fl_X3_31 (hR.at 0 rfl) rfl ?_
  refine J_sipush (v := 400) dX3_push_4 (by decide) ?_
  refine J_icmp_ge (tgt := 30) dX3_push_7 rfl (fun h7 => ?_) (fun h7 => ?_)
  · have hge : 400 ≤ s.length := by
      have z : (400 : Int32) ≤ nI s.length := h7
      rw [i_le, i_n (by omega), i_400] at z
      omega
    refine J_return dX3_push_30 rfl (by decide) (by decide) ?_
    exact ⟨rfl, rfl, _, by unfold psh; rw [if_neg (by omega)]; exact hrp, by unfold psh; rw [if_neg (by omega)]; exact hR, (xx_same.rf (b := br) (e := br + 6))⟩
  · have hlt : s.length < 400 := by
      have z : ¬ (400 : Int32) ≤ nI s.length := h7
      rw [i_le, i_n (by omega), i_400] at z
      omega
    refine J_aload_n dX3_push_10 rfl rfl ?_
    refine J_getf dX3_push_11 fl_X3_34 (hR.at 0 rfl) rfl ?_
    refine J_aload_n dX3_push_14 rfl rfl ?_
    refine J_getf dX3_push_15 fl_X3_31 (hR.at 0 rfl) rfl ?_
    refine J_iload_n dX3_push_18 rfl rfl ?_
    refine J_iastN s.length dX3_push_19 (hR.at 5 rfl) rfl (by omega) (by decide) ?_
    refine J_gen (wR_a5 hR _) ((xx_same.rf (b := br) (e := br + 6)).put (by omega) (by omega) _) (fun A1 w1 s1 o1 => ?_)
    refine J_aload_n dX3_push_20 rfl rfl ?_
    refine J_dup dX3_push_21 rfl ?_
    refine J_getf dX3_push_22 fl_X3_31 (w1.at 0 rfl) rfl ?_
    refine J_iconst (v := 1) dX3_push_25 (by decide) ?_
    refine J_iadd dX3_push_26 ?_
    refine J_putf dX3_push_27 fp_X3_31 (fun _ => ⟨rfl, rfl⟩) (w1.at 0 rfl) (Nat.le_of_ble_eq_true rfl) ?_
    refine J_gen (wR_s0_6 w1 _) (s1.put (by omega) (by omega) _) (fun A2 w2 s2 o2 => ?_)
    refine J_return dX3_push_30 rfl (by decide) (by decide) ?_
    exact ⟨rfl, rfl, upd st s.length v, by unfold psh; rw [if_pos (by omega)]; exact rp_psh hrp (by omega) v, by unfold psh; rw [if_pos (by omega)]; exact (lay_psh (nI_1 s.length) : s_up (a_up (stR R st s.length) 5 (upd st s.length v)) 6 (nI s.length + 1) = _) ▸ w2, s2⟩
theorem c_X3_pop (hst : l.stackTraces = false) (hR : xx_w br (layR br (stR R st s.length)) A) (hrp : rp st s) : xx_C G l yX3_pop mX3_pop 0 0 0 0 [.ref br] A n (xx_wr (some (.int (s.headD 0))) n (fun A' => rp st s.tail ∧ xx_w br (layR br (stR R st s.tail.length)) A' ∧ xx_same br (br + 6) A A')) := by
  have hl4 := hrp.1
  have el : ((stR R st s.length).1 6).toInt = s.length := i_n (by omega)
  have el2 : (va_up R.1 6 (nI s.length) 6).toInt = s.length := el
  have e400 := i_400
  refine J_C hst (by decide +kernel) rfl rfl rfl (Nat.le_of_ble_eq_true rfl) ?_
  show xx_J _ _ _ _ _ _ _ _ 0 [(0, _)] [] _ _ _ _
  refine J_aload_n dX3_pop_0 rfl rfl ?_
  refine J_getf dX3_pop_1 fl_X3_31 (hR.at 0 rfl) rfl ?_
  refine J_if_gt (tgt := 9) dX3_pop_4 rfl (fun h4 => ?_) (fun h4 => ?_)
  · have hlt : 0 < s.length := by
      have z : (0 : Int32) < nI s.length := h4
      rw [i_lt, i_n (by omega), i_0] at z
      omega
    have hs0 : s ≠ [] := fun z => by rw [z] at hlt; exact absurd hlt (by decide)
    have hm1 : nI s.length - 1 = nI (s.length - 1) := by
      conv => lhs; rw [show s.length = (s.length - 1) + 1 by omega]
      exact sub1 _
    refine J_aload_n dX3_pop_9 rfl rfl ?_
    refine J_dup dX3_pop_10 rfl ?_
    refine J_getf dX3_pop_11 fl_X3_31 (hR.at 0 rfl) rfl ?_
    refine J_iconst (v := 1) dX3_pop_14 (by decide) ?_
    refine J_isub dX3_pop_15 ?_
    refine J_putf dX3_pop_16 fp_X3_31 (fun _ => ⟨rfl, rfl⟩) (hR.at 0 rfl) (Nat.le_of_ble_eq_true rfl) ?_
    refine J_gen (wR_s0_6 hR _) ((xx_same.rf (b := br) (e := br + 6)).put (by omega) (by omega) _) (fun A1 w1 s1 o1 => ?_)
    refine J_aload_n dX3_pop_19 rfl rfl ?_
    refine J_getf dX3_pop_20 fl_X3_34 (w1.at 0 rfl) rfl ?_
    refine J_aload_n dX3_pop_23 rfl rfl ?_
    refine J_getf dX3_pop_24 fl_X3_31 (w1.at 0 rfl) rfl ?_
    refine J_ialdN (s.length - 1) dX3_pop_27 (w1.at 5 rfl) hm1 (by omega) (by decide) ?_
    refine J_ireturn dX3_pop_28 rfl rfl (by decide) (by decide) ?_
    refine ⟨congrArg (fun v => Sum.inl (some (Value.int v))) (rp_hd hrp hs0), rfl, rp_tl hrp, ?_, s1⟩
    rw [List.length_tail]
    exact (lay_pop hm1 : s_up (stR R st s.length) 6 (nI s.length - 1) = _) ▸ w1
  · have hs0 : s = [] := by
      have z : ¬ (0 : Int32) < nI s.length := h4
      rw [i_lt, i_n (by omega), i_0] at z
      exact List.length_eq_zero_iff.mp (by omega)
    refine J_iconst (v := 0) dX3_pop_7 (by decide) ?_
    refine J_ireturn dX3_pop_8 rfl rfl (by decide) (by decide) ?_
    subst hs0
    exact ⟨rfl, rfl, hrp, hR, xx_same.rf⟩
/-- one step of a rule on the stack, for a bout of i in red and j in blue -/
def stepL (F : xS) (i j : Nat) (op x : Int32) (s : List Int32) : List Int32 := match op.toInt with
  | 1 => psh x s
  | 2 => psh (F.1 1 - 1) s
  | 3 => psh (F.2 2 (x.toNatClampNeg * 12 + i)) s
  | 4 => psh (F.2 2 (x.toNatClampNeg * 12 + j)) s
  | 5 => psh (if 1 < F.2 3 (i * 12 + j) then 1 else 0) s
  | 6 => psh (-(s.headD 0)) s.tail
  | 7 => psh (1 - s.headD 0) s.tail
  | _ => psh (opJ op (s.tail.headD 0) (s.headD 0)) s.tail.tail
/-- a step that can be done -/
def stOK (op x : Int32) : Prop := (op = 3 ∨ op = 4) → ∃ q, q < 10 ∧ x = nI q
set_option maxHeartbeats 4000000 in
theorem c_X3_doStep (hst : l.stackTraces = false) (hR : xx_w br (layR br (stR R st s.length)) A) (hrp : rp st s) (hF : xx_w b (layF b F) A) (hd : br + 6 ≤ b ∨ b + 9 ≤ br) {nw : Nat} (hn : F.1 0 = nI nw) (h12 : nw ≤ 12) {nb : Nat} (hb : F.1 5 = nI nb) (h6 : nb ≤ 6) {q0 : Nat} {u : Int32} (hu : u = nI q0) (hq0 : q0 < nb) {i j : Nat} (hr : F.2 4 q0 = nI i) (hi : i < nw) (hl : F.2 5 q0 = nI j) (hj : j < nw) {op x : Int32} (hop : stOK op x) : xx_C G l yX3_doStep mX3_doStep 2 44 0 0 [.ref br, .int op, .int x, .ref b, .int u] A n (xx_wr none n (fun A' => ∃ st', rp st' (stepL F i j op x s) ∧ xx_w br (layR br (stR R st' (stepL F i j op x s).length)) A' ∧ xx_same br (br + 6) A A')) := by
  refine J_C hst (by decide +kernel) rfl rfl rfl (Nat.le_of_ble_eq_true rfl) ?_
  show xx_J _ _ _ _ _ _ _ _ 0 [(0, _), (1, _), (2, _), (3, _), (4, _)] [] _ _ _ _
  refine J_iload_n dX3_doStep_0 rfl rfl ?_
  have hsw1 : (op).toInt = 1 ∨ (op).toInt = 2 ∨ (op).toInt = 3 ∨ (op).toInt = 4 ∨ (op).toInt = 5 ∨ (op).toInt = 6 ∨ (op).toInt = 7 ∨ ((op).toInt < 1 ∨ 7 < (op).toInt) := by omega
  rcases hsw1 with hs1 | hs1 | hs1 | hs1 | hs1 | hs1 | hs1 | hs1
  · refine J_tableIn (tgt := 44) dX3_doStep_1 (by omega) (by omega) (by rw [hs1]; rfl) rfl ?_
    have e : stepL F i j op x s = psh x s := by unfold stepL; simp only [hs1]
    refine J_aload_n dX3_doStep_44 rfl rfl ?_
    refine J_iload_n dX3_doStep_45 rfl rfl ?_
    refine J_callVw (As := [_]) dX3_doStep_46 ml_X3_59 cal_X3_push im_X3_push se_X3_push (hR.at 0 rfl) rfl rfl rfl (Nat.le_of_ble_eq_true rfl) ⟨by decide, by decide⟩ ⟨by decide, by decide⟩ (c_X3_push hst hR hrp _) (fun A1 hQ1 => ?_)
    obtain ⟨st1, hrp1, hR1, hS1⟩ := hQ1
    have hF1 := hF.s2 hS1 (m := 9) rfl (by omega)
    refine J_goto (tgt := 182) dX3_doStep_49 rfl ?_
    refine J_return dX3_doStep_182 rfl (by decide) (by decide) ?_
    exact ⟨rfl, rfl, _, by rw [e]; exact hrp1, by rw [e]; exact hR1, ((xx_same.rf (b := br) (e := br + 6)).trans hS1)⟩
  · refine J_tableIn (tgt := 52) dX3_doStep_1 (by omega) (by omega) (by rw [hs1]; rfl) rfl ?_
    have e : stepL F i j op x s = psh (F.1 1 - 1) s := by unfold stepL; simp only [hs1]
    refine J_aload_n dX3_doStep_52 rfl rfl ?_
    refine J_aload_n dX3_doStep_53 rfl rfl ?_
    refine J_getf dX3_doStep_54 fl_X3_63 (hF.at 0 rfl) rfl ?_
    refine J_iconst (v := 1) dX3_doStep_57 (by decide) ?_
    refine J_isub dX3_doStep_58 ?_
    refine J_callVw (As := [_]) dX3_doStep_59 ml_X3_59 cal_X3_push im_X3_push se_X3_push (hR.at 0 rfl) rfl rfl rfl (Nat.le_of_ble_eq_true rfl) ⟨by decide, by decide⟩ ⟨by decide, by decide⟩ (c_X3_push hst hR hrp _) (fun A2 hQ2 => ?_)
    obtain ⟨st2, hrp2, hR2, hS2⟩ := hQ2
    have hF2 := hF.s2 hS2 (m := 9) rfl (by omega)
    refine J_goto (tgt := 182) dX3_doStep_62 rfl ?_
    refine J_return dX3_doStep_182 rfl (by decide) (by decide) ?_
    exact ⟨rfl, rfl, _, by rw [e]; exact hrp2, by rw [e]; exact hR2, ((xx_same.rf (b := br) (e := br + 6)).trans hS2)⟩
  · refine J_tableIn (tgt := 65) dX3_doStep_1 (by omega) (by omega) (by rw [hs1]; rfl) rfl ?_
    obtain ⟨q, hq10, hxq⟩ := hop (Or.inl (by rw [i_eq]; exact hs1))
    have e : stepL F i j op x s = psh (F.2 2 (q * 12 + i)) s := by unfold stepL; simp only [hs1, hxq, nI_clamp (show q < 2 ^ 31 by omega)]
    refine J_aload_n dX3_doStep_65 rfl rfl ?_
    refine J_aload_n dX3_doStep_66 rfl rfl ?_
    refine J_iload_n dX3_doStep_67 rfl rfl ?_
    refine J_aload_n dX3_doStep_68 rfl rfl ?_
    refine J_iload dX3_doStep_69 rfl ?_
    refine J_callVr (As := [_]) dX3_doStep_71 ml_X3_68 cal_X0_redIn im_X0_redIn se_X0_redIn (hF.at 0 rfl) rfl rfl rfl (Nat.le_of_ble_eq_true rfl) ⟨by decide, by decide⟩ ⟨by decide, by decide⟩ (c_X0_redIn hst hF hb h6 hu hq0) ?_
    refine J_callVr (As := [_, _]) dX3_doStep_74 ml_X3_72 cal_X0_of im_X0_of se_X0_of (hF.at 0 rfl) rfl rfl rfl (Nat.le_of_ble_eq_true rfl) ⟨by decide, by decide⟩ ⟨by decide, by decide⟩ (c_X0_of hst hF hn h12 hxq hq10 hr hi) ?_
    refine J_callVw (As := [_]) dX3_doStep_77 ml_X3_59 cal_X3_push im_X3_push se_X3_push (hR.at 0 rfl) rfl rfl rfl (Nat.le_of_ble_eq_true rfl) ⟨by decide, by decide⟩ ⟨by decide, by decide⟩ (c_X3_push hst hR hrp _) (fun A3 hQ3 => ?_)
    obtain ⟨st3, hrp3, hR3, hS3⟩ := hQ3
    have hF3 := hF.s2 hS3 (m := 9) rfl (by omega)
    refine J_goto (tgt := 182) dX3_doStep_80 rfl ?_
    refine J_return dX3_doStep_182 rfl (by decide) (by decide) ?_
    exact ⟨rfl, rfl, _, by rw [e]; exact hrp3, by rw [e]; exact hR3, ((xx_same.rf (b := br) (e := br + 6)).trans hS3)⟩
  · refine J_tableIn (tgt := 83) dX3_doStep_1 (by omega) (by omega) (by rw [hs1]; rfl) rfl ?_
    obtain ⟨q, hq10, hxq⟩ := hop (Or.inr (by rw [i_eq]; exact hs1))
    have e : stepL F i j op x s = psh (F.2 2 (q * 12 + j)) s := by unfold stepL; simp only [hs1, hxq, nI_clamp (show q < 2 ^ 31 by omega)]
    refine J_aload_n dX3_doStep_83 rfl rfl ?_
    refine J_aload_n dX3_doStep_84 rfl rfl ?_
    refine J_iload_n dX3_doStep_85 rfl rfl ?_
    refine J_aload_n dX3_doStep_86 rfl rfl ?_
    refine J_iload dX3_doStep_87 rfl ?_
    refine J_callVr (As := [_]) dX3_doStep_89 ml_X3_76 cal_X0_blueIn im_X0_blueIn se_X0_blueIn (hF.at 0 rfl) rfl rfl rfl (Nat.le_of_ble_eq_true rfl) ⟨by decide, by decide⟩ ⟨by decide, by decide⟩ (c_X0_blueIn hst hF hb h6 hu hq0) ?_
    refine J_callVr (As := [_, _]) dX3_doStep_92 ml_X3_72 cal_X0_of im_X0_of se_X0_of (hF.at 0 rfl) rfl rfl rfl (Nat.le_of_ble_eq_true rfl) ⟨by decide, by decide⟩ ⟨by decide, by decide⟩ (c_X0_of hst hF hn h12 hxq hq10 hl hj) ?_
    refine J_callVw (As := [_]) dX3_doStep_95 ml_X3_59 cal_X3_push im_X3_push se_X3_push (hR.at 0 rfl) rfl rfl rfl (Nat.le_of_ble_eq_true rfl) ⟨by decide, by decide⟩ ⟨by decide, by decide⟩ (c_X3_push hst hR hrp _) (fun A4 hQ4 => ?_)
    obtain ⟨st4, hrp4, hR4, hS4⟩ := hQ4
    have hF4 := hF.s2 hS4 (m := 9) rfl (by omega)
    refine J_goto (tgt := 182) dX3_doStep_98 rfl ?_
    refine J_return dX3_doStep_182 rfl (by decide) (by decide) ?_
    exact ⟨rfl, rfl, _, by rw [e]; exact hrp4, by rw [e]; exact hR4, ((xx_same.rf (b := br) (e := br + 6)).trans hS4)⟩
  · refine J_tableIn (tgt := 101) dX3_doStep_1 (by omega) (by omega) (by rw [hs1]; rfl) rfl ?_
    have e : stepL F i j op x s = psh (if 1 < F.2 3 (i * 12 + j) then 1 else 0) s := by unfold stepL; simp only [hs1]
    refine J_aload_n dX3_doStep_101 rfl rfl ?_
    refine J_aload_n dX3_doStep_102 rfl rfl ?_
    refine J_aload_n dX3_doStep_103 rfl rfl ?_
    refine J_iload dX3_doStep_104 rfl ?_
    refine J_callVr (As := [_]) dX3_doStep_106 ml_X3_68 cal_X0_redIn im_X0_redIn se_X0_redIn (hF.at 0 rfl) rfl rfl rfl (Nat.le_of_ble_eq_true rfl) ⟨by decide, by decide⟩ ⟨by decide, by decide⟩ (c_X0_redIn hst hF hb h6 hu hq0) ?_
    refine J_aload_n dX3_doStep_109 rfl rfl ?_
    refine J_iload dX3_doStep_110 rfl ?_
    refine J_callVr (As := [_]) dX3_doStep_112 ml_X3_76 cal_X0_blueIn im_X0_blueIn se_X0_blueIn (hF.at 0 rfl) rfl rfl rfl (Nat.le_of_ble_eq_true rfl) ⟨by decide, by decide⟩ ⟨by decide, by decide⟩ (c_X0_blueIn hst hF hb h6 hu hq0) ?_
    refine J_callVr (As := [_, _]) dX3_doStep_115 ml_X3_79 cal_X0_meetings im_X0_meetings se_X0_meetings (hF.at 0 rfl) rfl rfl rfl (Nat.le_of_ble_eq_true rfl) ⟨by decide, by decide⟩ ⟨by decide, by decide⟩ (c_X0_meetings hst hF hn h12 hr hi hl hj) ?_
    refine J_iconst (v := 1) dX3_doStep_118 (by decide) ?_
    refine J_icmp_le (tgt := 126) dX3_doStep_119 rfl (fun h119 => ?_) (fun h119 => ?_)
    · rw [if_neg (Int32.not_lt.mpr h119)] at e
      refine J_iconst (v := 0) dX3_doStep_126 (by decide) ?_
      refine J_callVw (As := [_]) dX3_doStep_127 ml_X3_59 cal_X3_push im_X3_push se_X3_push (hR.at 0 rfl) rfl rfl rfl (Nat.le_of_ble_eq_true rfl) ⟨by decide, by decide⟩ ⟨by decide, by decide⟩ (c_X3_push hst hR hrp _) (fun A5 hQ5 => ?_)
      obtain ⟨st5, hrp5, hR5, hS5⟩ := hQ5
      have hF5 := hF.s2 hS5 (m := 9) rfl (by omega)
      refine J_goto (tgt := 182) dX3_doStep_130 rfl ?_
      refine J_return dX3_doStep_182 rfl (by decide) (by decide) ?_
      exact ⟨rfl, rfl, _, by rw [e]; exact hrp5, by rw [e]; exact hR5, ((xx_same.rf (b := br) (e := br + 6)).trans hS5)⟩
    · rw [if_pos (Int32.not_le.mp h119)] at e
      refine J_iconst (v := 1) dX3_doStep_122 (by decide) ?_
      refine J_goto (tgt := 127) dX3_doStep_123 rfl ?_
      refine J_callVw (As := [_]) dX3_doStep_127 ml_X3_59 cal_X3_push im_X3_push se_X3_push (hR.at 0 rfl) rfl rfl rfl (Nat.le_of_ble_eq_true rfl) ⟨by decide, by decide⟩ ⟨by decide, by decide⟩ (c_X3_push hst hR hrp _) (fun A6 hQ6 => ?_)
      obtain ⟨st6, hrp6, hR6, hS6⟩ := hQ6
      have hF6 := hF.s2 hS6 (m := 9) rfl (by omega)
      refine J_goto (tgt := 182) dX3_doStep_130 rfl ?_
      refine J_return dX3_doStep_182 rfl (by decide) (by decide) ?_
      exact ⟨rfl, rfl, _, by rw [e]; exact hrp6, by rw [e]; exact hR6, ((xx_same.rf (b := br) (e := br + 6)).trans hS6)⟩
  · refine J_tableIn (tgt := 133) dX3_doStep_1 (by omega) (by omega) (by rw [hs1]; rfl) rfl ?_
    have e : stepL F i j op x s = psh (-(s.headD 0)) s.tail := by unfold stepL; simp only [hs1]
    refine J_aload_n dX3_doStep_133 rfl rfl ?_
    refine J_aload_n dX3_doStep_134 rfl rfl ?_
    refine J_callVw (As := []) dX3_doStep_135 ml_X3_55 cal_X3_pop im_X3_pop se_X3_pop (hR.at 0 rfl) rfl rfl rfl (Nat.le_of_ble_eq_true rfl) ⟨by decide, by decide⟩ ⟨by decide, by decide⟩ (c_X3_pop hst hR hrp) (fun A7 hQ7 => ?_)
    obtain ⟨hrp7, hR7, hS7⟩ := hQ7
    have hF7 := hF.s2 hS7 (m := 9) rfl (by omega)
    refine J_ineg dX3_doStep_138 ?_
    refine J_callVw (As := [_]) dX3_doStep_139 ml_X3_59 cal_X3_push im_X3_push se_X3_push (hR7.at 0 rfl) rfl rfl rfl (Nat.le_of_ble_eq_true rfl) ⟨by decide, by decide⟩ ⟨by decide, by decide⟩ (c_X3_push hst hR7 hrp7 _) (fun A8 hQ8 => ?_)
    obtain ⟨st8, hrp8, hR8, hS8⟩ := hQ8
    have hF8 := hF7.s2 hS8 (m := 9) rfl (by omega)
    refine J_goto (tgt := 182) dX3_doStep_142 rfl ?_
    refine J_return dX3_doStep_182 rfl (by decide) (by decide) ?_
    exact ⟨rfl, rfl, _, by rw [e]; exact hrp8, by rw [e]; exact hR8, (((xx_same.rf (b := br) (e := br + 6)).trans hS7).trans hS8)⟩
  · refine J_tableIn (tgt := 145) dX3_doStep_1 (by omega) (by omega) (by rw [hs1]; rfl) rfl ?_
    have e : stepL F i j op x s = psh (1 - s.headD 0) s.tail := by unfold stepL; simp only [hs1]
    refine J_aload_n dX3_doStep_145 rfl rfl ?_
    refine J_iconst (v := 1) dX3_doStep_146 (by decide) ?_
    refine J_aload_n dX3_doStep_147 rfl rfl ?_
    refine J_callVw (As := []) dX3_doStep_148 ml_X3_55 cal_X3_pop im_X3_pop se_X3_pop (hR.at 0 rfl) rfl rfl rfl (Nat.le_of_ble_eq_true rfl) ⟨by decide, by decide⟩ ⟨by decide, by decide⟩ (c_X3_pop hst hR hrp) (fun A9 hQ9 => ?_)
    obtain ⟨hrp9, hR9, hS9⟩ := hQ9
    have hF9 := hF.s2 hS9 (m := 9) rfl (by omega)
    refine J_isub dX3_doStep_151 ?_
    refine J_callVw (As := [_]) dX3_doStep_152 ml_X3_59 cal_X3_push im_X3_push se_X3_push (hR9.at 0 rfl) rfl rfl rfl (Nat.le_of_ble_eq_true rfl) ⟨by decide, by decide⟩ ⟨by decide, by decide⟩ (c_X3_push hst hR9 hrp9 _) (fun A10 hQ10 => ?_)
    obtain ⟨st10, hrp10, hR10, hS10⟩ := hQ10
    have hF10 := hF9.s2 hS10 (m := 9) rfl (by omega)
    refine J_goto (tgt := 182) dX3_doStep_155 rfl ?_
    refine J_return dX3_doStep_182 rfl (by decide) (by decide) ?_
    exact ⟨rfl, rfl, _, by rw [e]; exact hrp10, by rw [e]; exact hR10, (((xx_same.rf (b := br) (e := br + 6)).trans hS9).trans hS10)⟩
  · refine J_tableOut (tgt := 158) dX3_doStep_1 hs1 rfl ?_
    have e : stepL F i j op x s = psh (opJ op (s.tail.headD 0) (s.headD 0)) s.tail.tail := by unfold stepL; split <;> first | rfl | (exfalso; omega)
    refine J_aload_n dX3_doStep_158 rfl rfl ?_
    refine J_callVw (As := []) dX3_doStep_159 ml_X3_55 cal_X3_pop im_X3_pop se_X3_pop (hR.at 0 rfl) rfl rfl rfl (Nat.le_of_ble_eq_true rfl) ⟨by decide, by decide⟩ ⟨by decide, by decide⟩ (c_X3_pop hst hR hrp) (fun A11 hQ11 => ?_)
    obtain ⟨hrp11, hR11, hS11⟩ := hQ11
    have hF11 := hF.s2 hS11 (m := 9) rfl (by omega)
    refine J_istore (L' := [(5, _), (0, _), (1, _), (2, _), (3, _), (4, _)]) dX3_doStep_162 (by decide) rfl ?_
    refine J_aload_n dX3_doStep_164 rfl rfl ?_
    refine J_callVw (As := []) dX3_doStep_165 ml_X3_55 cal_X3_pop im_X3_pop se_X3_pop (hR11.at 0 rfl) rfl rfl rfl (Nat.le_of_ble_eq_true rfl) ⟨by decide, by decide⟩ ⟨by decide, by decide⟩ (c_X3_pop hst hR11 hrp11) (fun A12 hQ12 => ?_)
    obtain ⟨hrp12, hR12, hS12⟩ := hQ12
    have hF12 := hF11.s2 hS12 (m := 9) rfl (by omega)
    refine J_istore (L' := [(6, _), (5, _), (0, _), (1, _), (2, _), (3, _), (4, _)]) dX3_doStep_168 (by decide) rfl ?_
    refine J_aload_n dX3_doStep_170 rfl rfl ?_
    refine J_iload_n dX3_doStep_171 rfl rfl ?_
    refine J_iload dX3_doStep_172 rfl ?_
    refine J_iload dX3_doStep_174 rfl ?_
    refine J_callSr (As := [_, _, _]) dX3_doStep_176 ml_X3_82 cal_X3_join sm_X3_join rfl rfl (Nat.le_of_ble_eq_true rfl) ⟨by decide, by decide⟩ ⟨by decide, by decide⟩ (c_X3_join hst _ _ _) ?_
    refine J_callVw (As := [_]) dX3_doStep_179 ml_X3_59 cal_X3_push im_X3_push se_X3_push (hR12.at 0 rfl) rfl rfl rfl (Nat.le_of_ble_eq_true rfl) ⟨by decide, by decide⟩ ⟨by decide, by decide⟩ (c_X3_push hst hR12 hrp12 _) (fun A13 hQ13 => ?_)
    obtain ⟨st13, hrp13, hR13, hS13⟩ := hQ13
    have hF13 := hF12.s2 hS13 (m := 9) rfl (by omega)
    refine J_return dX3_doStep_182 rfl (by decide) (by decide) ?_
    exact ⟨rfl, rfl, _, by rw [e]; exact hrp13, by rw [e]; exact hR13, ((((xx_same.rf (b := br) (e := br + 6)).trans hS11).trans hS12).trans hS13)⟩
/-- the steps from p on, d of them -/
def runL (F : xS) (i j : Nat) (ops xs : Nat → Int32) : Nat → Nat → List Int32 → List Int32
  | 0, _, s => s
  | d + 1, p, s => runL F i j ops xs d (p + 1) (stepL F i j (ops p) (xs p) s)
theorem runL_s {F : xS} {i j : Nat} {ops xs : Nat → Int32} {t p : Nat} {s : List Int32} (h : p < t) : runL F i j ops xs (t - p) p s = runL F i j ops xs (t - (p + 1)) (p + 1) (stepL F i j (ops p) (xs p) s) := by
  rw [show t - p = (t - (p + 1)) + 1 by omega]
  rfl
/-- the steps f .. t - 1 hold -/
def hldB (F : xS) (i j : Nat) (R : xS) (f t : Nat) : Bool := decide (f = t) || decide (¬ (runL F i j (R.2 3) (R.2 4) (t - f) f []).headD 0 = 0)
theorem hldB_i {F : xS} {i j : Nat} {R : xS} {f t : Nat} : hldB F i j R f t = true ↔ f = t ∨ ¬ (runL F i j (R.2 3) (R.2 4) (t - f) f []).headD 0 = 0 := by
  unfold hldB
  rw [Bool.or_eq_true, decide_eq_true_iff, decide_eq_true_iff]
theorem stR_R {R : xS} {st st' : Nat → Int32} {m m' : Nat} : stR (stR R st m) st' m' = stR R st' m' := by
  show (va_up (va_up R.1 6 _) 6 _, va_up (va_up R.2 5 st) 5 st') = _
  have h1 := congrArg Prod.fst (s_up_u (X := R) (i := 6) (v := nI m) (w := nI m'))
  have h2 := congrArg Prod.snd (a_up_u (X := R) (i := 5) (f := st) (g := st'))
  exact Prod.ext h1 h2
set_option maxHeartbeats 4000000 in
theorem c_X3_holds (hst : l.stackTraces = false) (hR : xx_w br (layR br R) A) (hF : xx_w b (layF b F) A) (hd : br + 6 ≤ b ∨ b + 9 ≤ br) {nw : Nat} (hn : F.1 0 = nI nw) (h12 : nw ≤ 12) {nb : Nat} (hb : F.1 5 = nI nb) (h6 : nb ≤ 6) {q0 : Nat} {u : Int32} (hu : u = nI q0) (hq0 : q0 < nb) {i j : Nat} (hr : F.2 4 q0 = nI i) (hi : i < nw) (hl : F.2 5 q0 = nI j) (hj : j < nw) {f t : Nat} {x1 x2 : Int32} (hx1 : x1 = nI f) (hx2 : x2 = nI t) (hft1 : f ≤ t) (ht4 : t ≤ 400) (hok : ∀ p, p < t → stOK (R.2 3 p) (R.2 4 p)) : xx_C G l yX3_holds mX3_holds 3 70 0 0 [.ref br, .int x1, .int x2, .ref b, .int u] A n (xx_wr (some (.int (xx_b (hldB F i j R f t = true)))) n (fun A' => ∃ st m, xx_w br (layR br (stR R st m)) A' ∧ xx_same br (br + 6) A A')) := by
  subst hx1 hx2
  have hst0 : s_up R 6 0 = stR R (R.2 5) ([] : List Int32).length := by
    show _ = a_up (s_up R 6 _) 5 (R.2 5)
    exact (a_up_id (X := s_up R 6 0) (i := 5)).symm
  refine J_C hst (by decide +kernel) rfl rfl rfl (Nat.le_of_ble_eq_true rfl) ?_
  show xx_J _ _ _ _ _ _ _ _ 0 [(0, _), (1, _), (2, _), (3, _), (4, _)] [] _ _ _ _
  refine J_aload_n dX3_holds_0 rfl rfl ?_
  refine J_iconst (v := 0) dX3_holds_1 (by decide) ?_
  refine J_putf dX3_holds_2 fp_X3_31 (fun _ => ⟨rfl, rfl⟩) (hR.at 0 rfl) (Nat.le_of_ble_eq_true rfl) ?_
  refine J_gen (wR_s0_6 hR _) ((xx_same.rf (b := br) (e := br + 6)).put (by omega) (by omega) _) (fun A1 w1 s1 o1 => ?_)
  have w1F := hF.o2 o1 (m := 9) rfl (by omega)
  refine J_iload_n dX3_holds_5 rfl rfl ?_
  refine J_istore (L' := [(5, _), (0, _), (1, _), (2, _), (3, _), (4, _)]) dX3_holds_6 (by decide) rfl ?_
  have loop : ∀ p, p ≤ t → ∀ (x : Int32) (A1 : xx_H) (st1 : Nat → Int32) (s1 : List Int32), (x = nI p) → (f ≤ p) → (rp st1 s1) → (xx_w br (layR br (stR R st1 s1.length)) A1) → (xx_w b (layF b F) A1) → (xx_same br (br + 6) A A1) → (runL F i j (R.2 3) (R.2 4) (t - p) p s1 = runL F i j (R.2 3) (R.2 4) (t - f) f []) → xx_J G l mX3_holds 3 70 0 0 (xx_wr (some (.int (xx_b (hldB F i j R f t = true)))) n (fun A' => ∃ st m, xx_w br (layR br (stR R st m)) A' ∧ xx_same br (br + 6) A A')) 8 [(5, .int x), (0, .ref br), (1, .int (nI f)), (2, .int (nI t)), (3, .ref b), (4, .int u)] [] A1 n 0 0 := by
    refine xx_dn ?_ ?_
    · intro x  A1  st1  s1  hx hfp hrp1 hR1 hF1 hs1 hv
      have ex : x.toInt = t := by rw [hx]; exact i_n (by omega)
      have ey : (nI t).toInt = t := i_n (by omega)
      have e400 := i_400
      have hv : s1 = runL F i j (R.2 3) (R.2 4) (t - f) f [] := by rw [← hv, Nat.sub_self]; rfl
      refine J_iload dX3_holds_8 rfl ?_
      refine J_iload_n dX3_holds_10 rfl rfl ?_
      refine J_icmp_ge (tgt := 49) dX3_holds_11 rfl (fun h11 => ?_) (fun h11 => ?_)
      · refine J_iload_n dX3_holds_49 rfl rfl ?_
        refine J_iload_n dX3_holds_50 rfl rfl ?_
        refine J_icmp_eq (tgt := 61) dX3_holds_51 rfl (fun h51 => ?_) (fun h51 => ?_)
        · have hft : f = t := by rw [i_eq, i_n (by omega), i_n (by omega)] at h51; omega
          refine J_iconst (v := 1) dX3_holds_61 (by decide) ?_
          refine J_goto (tgt := 66) dX3_holds_62 rfl ?_
          refine J_ireturn dX3_holds_66 rfl rfl (by decide) (by decide) ?_
          refine ⟨congrArg (fun v => Sum.inl (some (Value.int v))) ?_, rfl, _, _, hR1, hs1⟩
          first | exact (xx_bt (hldB_i.mpr (Or.inl hft))).symm | exact (xx_bt (hldB_i.mpr (Or.inr (by rw [← hv]; exact h58)))).symm | exact (xx_bf (fun z => (hldB_i.mp z).elim hft (fun z2 => z2 (by rw [← hv]; exact h58)))).symm
        · have hft : ¬ f = t := fun z => h51 (by rw [z])
          refine J_aload_n dX3_holds_54 rfl rfl ?_
          refine J_callVw (As := []) dX3_holds_55 ml_X3_55 cal_X3_pop im_X3_pop se_X3_pop (hR1.at 0 rfl) rfl rfl rfl (Nat.le_of_ble_eq_true rfl) ⟨by decide, by decide⟩ ⟨by decide, by decide⟩ (c_X3_pop (R := R) hst hR1 hrp1) (fun A22 hQ22 => ?_)
          obtain ⟨hrp4, hR4, hS4⟩ := hQ22
          have hF4 := hF1.s2 hS4 (m := 9) rfl (by omega)
          have hs4 := hs1.trans hS4
          refine J_if_eq (tgt := 65) dX3_holds_58 rfl (fun h58 => ?_) (fun h58 => ?_)
          · refine J_iconst (v := 0) dX3_holds_65 (by decide) ?_
            refine J_ireturn dX3_holds_66 rfl rfl (by decide) (by decide) ?_
            refine ⟨congrArg (fun v => Sum.inl (some (Value.int v))) ?_, rfl, _, _, hR4, hs4⟩
            first | exact (xx_bt (hldB_i.mpr (Or.inl hft))).symm | exact (xx_bt (hldB_i.mpr (Or.inr (by rw [← hv]; exact h58)))).symm | exact (xx_bf (fun z => (hldB_i.mp z).elim hft (fun z2 => z2 (by rw [← hv]; exact h58)))).symm
          · refine J_iconst (v := 1) dX3_holds_61 (by decide) ?_
            refine J_goto (tgt := 66) dX3_holds_62 rfl ?_
            refine J_ireturn dX3_holds_66 rfl rfl (by decide) (by decide) ?_
            refine ⟨congrArg (fun v => Sum.inl (some (Value.int v))) ?_, rfl, _, _, hR4, hs4⟩
            first | exact (xx_bt (hldB_i.mpr (Or.inl hft))).symm | exact (xx_bt (hldB_i.mpr (Or.inr (by rw [← hv]; exact h58)))).symm | exact (xx_bf (fun z => (hldB_i.mp z).elim hft (fun z2 => z2 (by rw [← hv]; exact h58)))).symm
      · first | (exfalso; simp only [i_lt, i_le, i_eq, i_0, i_1, i_2, i_3, i_4, i_5, i_6, i_8, i_9, i_10, i_12, i_16, i_20, i_m1, i_400] at h11; omega) | (exfalso; simp only [s_up, a_up, va_up, i_lt, i_le, i_eq, i_0, i_1, i_2, i_3, i_4, i_5, i_6, i_8, i_9, i_10, i_12, i_16, i_20, i_m1, i_400, ↓reduceIte, Nat.reduceEqDiff] at h11; omega)
    · intro p hip ih x  A1  st1  s1  hx hfp hrp1 hR1 hF1 hs1 hv
      have ex : x.toInt = p := by rw [hx]; exact i_n (by omega)
      have ey : (nI t).toInt = t := i_n (by omega)
      have e400 := i_400
      refine J_iload dX3_holds_8 rfl ?_
      refine J_iload_n dX3_holds_10 rfl rfl ?_
      refine J_icmp_ge (tgt := 49) dX3_holds_11 rfl (fun h11 => ?_) (fun h11 => ?_)
      · first | (exfalso; simp only [i_lt, i_le, i_eq, i_0, i_1, i_2, i_3, i_4, i_5, i_6, i_8, i_9, i_10, i_12, i_16, i_20, i_m1, i_400] at h11; omega) | (exfalso; simp only [s_up, a_up, va_up, i_lt, i_le, i_eq, i_0, i_1, i_2, i_3, i_4, i_5, i_6, i_8, i_9, i_10, i_12, i_16, i_20, i_m1, i_400, ↓reduceIte, Nat.reduceEqDiff] at h11; omega)
      · refine J_iload dX3_holds_14 rfl ?_
        refine J_sipush (v := 400) dX3_holds_16 (by decide) ?_
        refine J_icmp_ge (tgt := 49) dX3_holds_19 rfl (fun h19 => ?_) (fun h19 => ?_)
        · first | (exfalso; simp only [i_lt, i_le, i_eq, i_0, i_1, i_2, i_3, i_4, i_5, i_6, i_8, i_9, i_10, i_12, i_16, i_20, i_m1, i_400] at h19; omega) | (exfalso; simp only [s_up, a_up, va_up, i_lt, i_le, i_eq, i_0, i_1, i_2, i_3, i_4, i_5, i_6, i_8, i_9, i_10, i_12, i_16, i_20, i_m1, i_400, ↓reduceIte, Nat.reduceEqDiff] at h19; omega)
        · refine J_aload_n dX3_holds_22 rfl rfl ?_
          refine J_aload_n dX3_holds_23 rfl rfl ?_
          refine J_getf dX3_holds_24 fl_X3_25 (hR1.at 0 rfl) rfl ?_
          refine J_iload dX3_holds_27 rfl ?_
          refine J_ialdN p dX3_holds_29 (hR1.at 3 rfl) hx (by omega) (by decide) ?_
          refine J_aload_n dX3_holds_30 rfl rfl ?_
          refine J_getf dX3_holds_31 fl_X3_28 (hR1.at 0 rfl) rfl ?_
          refine J_iload dX3_holds_34 rfl ?_
          refine J_ialdN p dX3_holds_36 (hR1.at 4 rfl) hx (by omega) (by decide) ?_
          refine J_aload_n dX3_holds_37 rfl rfl ?_
          refine J_iload dX3_holds_38 rfl ?_
          refine J_callVw (As := [_, _, _, _]) dX3_holds_40 ml_X3_51 cal_X3_doStep im_X3_doStep se_X3_doStep (hR1.at 0 rfl) rfl rfl rfl (Nat.le_of_ble_eq_true rfl) ⟨by decide, by decide⟩ ⟨by decide, by decide⟩ (c_X3_doStep (R := R) hst hR1 hrp1 hF1 hd hn h12 hb h6 hu hq0 hr hi hl hj (hok p hip)) (fun A52 hQ52 => ?_)
          obtain ⟨st3, hrp3, hR3, hS3⟩ := hQ52
          have hF3 := hF1.s2 hS3 (m := 9) rfl (by omega)
          have hs3 := hs1.trans hS3
          refine J_iinc (v := _ + 1) (L' := [(5, _), (0, _), (1, _), (2, _), (3, _), (4, _)]) dX3_holds_43 rfl rfl (by decide) rfl ?_
          refine J_goto (tgt := 8) dX3_holds_46 rfl ?_
          refine xx_J.pick [0, 1, 2, 3, 4, 5] rfl ?_
          exact ih _ _ _ _ (by rw [hx]; exact nI_1 p) (by omega) hrp3 hR3 hF3 hs3 (by rw [← hv, runL_s hip]; rfl)
  refine xx_J.pick [0, 1, 2, 3, 4, 5] rfl ?_
  exact loop f (by omega) _ _ (R.2 5) [] rfl (Nat.le_refl _) ⟨Nat.zero_le _, fun q hq => absurd hq (Nat.not_lt_zero q)⟩ (hst0 ▸ w1) w1F s1 rfl
/-- the outcome that the rules tell, from rule r on, whose steps begin at f -/
def outL (F : xS) (i j : Nat) (R : xS) (en : Nat → Nat) : Nat → Nat → Nat → Int32
  | 0, _, _ => 1
  | d + 1, r, f => if hldB F i j R f (en r) = true then R.2 1 r else outL F i j R en d (r + 1) (en r)
theorem outL_s {F : xS} {i j : Nat} {R : xS} {en : Nat → Nat} {t r f : Nat} (h : r < t) : outL F i j R en (t - r) r f = if hldB F i j R f (en r) = true then R.2 1 r else outL F i j R en (t - (r + 1)) (r + 1) (en r) := by
  rw [show t - r = (t - (r + 1)) + 1 by omega]
  rfl
/-- where rule r begins -/
def bgn (en : Nat → Nat) (r : Nat) : Nat := if r = 0 then 0 else en (r - 1)
/-- rules that can be done -/
def ruOK (R : xS) (en : Nat → Nat) (nr : Nat) : Prop := R.1 0 = nI nr ∧ nr ≤ 16 ∧ (∀ r, r < nr → R.2 2 r = nI (en r) ∧ en r ≤ 400 ∧ bgn en r ≤ en r ∧ ∀ p, p < en r → stOK (R.2 3 p) (R.2 4 p))
theorem stR_id {R : xS} {nr : Nat} (h : R.1 6 = nI nr) : R = stR R (R.2 5) nr := by
  refine Prod.ext ?_ ?_
  · funext q
    show R.1 q = va_up R.1 6 (nI nr) q
    simp only [va_up]
    split
    · rename_i hq; subst hq; exact h
    · rfl
  · exact (congrArg Prod.snd (a_up_id (X := R) (i := 5))).symm
set_option maxHeartbeats 4000000 in
theorem c_X3_outcomeFor (hst : l.stackTraces = false) (hR : xx_w br (layR br R) A) (hF : xx_w b (layF b F) A) (hd : br + 6 ≤ b ∨ b + 9 ≤ br) {nw : Nat} (hn : F.1 0 = nI nw) (h12 : nw ≤ 12) {nb : Nat} (hb : F.1 5 = nI nb) (h6 : nb ≤ 6) {q0 : Nat} {u : Int32} (hu : u = nI q0) (hq0 : q0 < nb) {i j : Nat} (hr : F.2 4 q0 = nI i) (hi : i < nw) (hl : F.2 5 q0 = nI j) (hj : j < nw) {en : Nat → Nat} {nr mt : Nat} (hmt : R.1 6 = nI mt) (hok : ruOK R en nr) : xx_C G l yX3_outcomeFor mX3_outcomeFor 4 95 0 0 [.ref br, .ref b, .int u] A n (xx_wr (some (.int (outL F i j R en nr 0 0))) n (fun A' => ∃ st m, xx_w br (layR br (stR R st m)) A' ∧ xx_same br (br + 6) A A')) := by
  obtain ⟨hcnt, h16, hen⟩ := hok
  have hR0 : xx_w br (layR br (stR R (R.2 5) mt)) A := by rw [← stR_id hmt]; exact hR
  refine J_C hst (by decide +kernel) rfl rfl rfl (Nat.le_of_ble_eq_true rfl) ?_
  show xx_J _ _ _ _ _ _ _ _ 0 [(0, _), (1, _), (2, _)] [] _ _ _ _
  refine J_iconst (v := 0) dX3_outcomeFor_0 (by decide) ?_
  refine J_istore_n (L' := [(3, _), (0, _), (1, _), (2, _)]) dX3_outcomeFor_1 rfl (by decide) rfl ?_
  refine J_iconst (v := 0) dX3_outcomeFor_2 (by decide) ?_
  refine J_istore (L' := [(4, _), (3, _), (0, _), (1, _), (2, _)]) dX3_outcomeFor_3 (by decide) rfl ?_
  have loop : ∀ r, r ≤ nr → ∀ (x : Int32) (y : Int32) (A1 : xx_H) (st1 : Nat → Int32) (m1 : Nat), (x = nI r) → (y = nI (bgn en r)) → (xx_w br (layR br (stR R st1 m1)) A1) → (xx_w b (layF b F) A1) → (xx_same br (br + 6) A A1) → (outL F i j R en (nr - r) r (bgn en r) = outL F i j R en nr 0 0) → xx_J G l mX3_outcomeFor 4 95 0 0 (xx_wr (some (.int (outL F i j R en nr 0 0))) n (fun A' => ∃ st m, xx_w br (layR br (stR R st m)) A' ∧ xx_same br (br + 6) A A')) 5 [(4, .int x), (3, .int y), (0, .ref br), (1, .ref b), (2, .int u)] [] A1 n 0 0 := by
    refine xx_dn ?_ ?_
    · intro x  y  A1  st1  m1  hx hy hR1 hF1 hs1 hv
      have ec : (R.1 0).toInt = nr := by rw [hcnt]; exact i_n (by omega)
      have ex : x.toInt = nr := by rw [hx]; exact i_n (by omega)
      refine J_iload dX3_outcomeFor_5 rfl ?_
      refine J_aload_n dX3_outcomeFor_7 rfl rfl ?_
      refine J_getf dX3_outcomeFor_8 fl_X3_9 (hR1.at 0 rfl) rfl ?_
      refine J_icmp_ge (tgt := 60) dX3_outcomeFor_11 rfl (fun h11 => ?_) (fun h11 => ?_)
      · refine J_iconst (v := 1) dX3_outcomeFor_60 (by decide) ?_
        refine J_ireturn dX3_outcomeFor_61 rfl rfl (by decide) (by decide) ?_
        exact ⟨by rw [← hv, Nat.sub_self]; rfl, rfl, _, _, hR1, hs1⟩
      · first | (exfalso; simp only [i_lt, i_le, i_eq, i_0, i_1, i_2, i_3, i_4, i_5, i_6, i_8, i_9, i_10, i_12, i_16, i_20, i_m1, i_400] at h11; omega) | (exfalso; simp only [s_up, a_up, va_up, i_lt, i_le, i_eq, i_0, i_1, i_2, i_3, i_4, i_5, i_6, i_8, i_9, i_10, i_12, i_16, i_20, i_m1, i_400, ↓reduceIte, Nat.reduceEqDiff] at h11; omega)
    · intro r hir ih x  y  A1  st1  m1  hx hy hR1 hF1 hs1 hv
      have ec : (R.1 0).toInt = nr := by rw [hcnt]; exact i_n (by omega)
      have ex : x.toInt = r := by rw [hx]; exact i_n (by omega)
      refine J_iload dX3_outcomeFor_5 rfl ?_
      refine J_aload_n dX3_outcomeFor_7 rfl rfl ?_
      refine J_getf dX3_outcomeFor_8 fl_X3_9 (hR1.at 0 rfl) rfl ?_
      refine J_icmp_ge (tgt := 60) dX3_outcomeFor_11 rfl (fun h11 => ?_) (fun h11 => ?_)
      · first | (exfalso; simp only [i_lt, i_le, i_eq, i_0, i_1, i_2, i_3, i_4, i_5, i_6, i_8, i_9, i_10, i_12, i_16, i_20, i_m1, i_400] at h11; omega) | (exfalso; simp only [s_up, a_up, va_up, i_lt, i_le, i_eq, i_0, i_1, i_2, i_3, i_4, i_5, i_6, i_8, i_9, i_10, i_12, i_16, i_20, i_m1, i_400, ↓reduceIte, Nat.reduceEqDiff] at h11; omega)
      · refine J_iload dX3_outcomeFor_14 rfl ?_
        refine J_bipush (v := 16) dX3_outcomeFor_16 (by decide) ?_
        refine J_icmp_ge (tgt := 60) dX3_outcomeFor_18 rfl (fun h18 => ?_) (fun h18 => ?_)
        · first | (exfalso; simp only [i_lt, i_le, i_eq, i_0, i_1, i_2, i_3, i_4, i_5, i_6, i_8, i_9, i_10, i_12, i_16, i_20, i_m1, i_400] at h18; omega) | (exfalso; simp only [s_up, a_up, va_up, i_lt, i_le, i_eq, i_0, i_1, i_2, i_3, i_4, i_5, i_6, i_8, i_9, i_10, i_12, i_16, i_20, i_m1, i_400, ↓reduceIte, Nat.reduceEqDiff] at h18; omega)
        · refine J_aload_n dX3_outcomeFor_21 rfl rfl ?_
          refine J_iload_n dX3_outcomeFor_22 rfl rfl ?_
          refine J_aload_n dX3_outcomeFor_23 rfl rfl ?_
          refine J_getf dX3_outcomeFor_24 fl_X3_19 (hR1.at 0 rfl) rfl ?_
          refine J_iload dX3_outcomeFor_27 rfl ?_
          refine J_ialdN r dX3_outcomeFor_29 (hR1.at 2 rfl) hx (by omega) (by decide) ?_
          refine J_aload_n dX3_outcomeFor_30 rfl rfl ?_
          refine J_iload_n dX3_outcomeFor_31 rfl rfl ?_
          refine J_callVw (As := [_, _, _, _]) dX3_outcomeFor_32 ml_X3_47 cal_X3_holds im_X3_holds se_X3_holds (hR1.at 0 rfl) rfl rfl rfl (Nat.le_of_ble_eq_true rfl) ⟨by decide, by decide⟩ ⟨by decide, by decide⟩ (c_X3_holds (R := stR R st1 m1) hst hR1 hF1 hd hn h12 hb h6 hu hq0 hr hi hl hj hy (hen r hir).1 (hen r hir).2.2.1 (hen r hir).2.1 (hen r hir).2.2.2) (fun A51 hQ51 => ?_)
          obtain ⟨st3, m3, hR3, hS3⟩ := hQ51
          rw [stR_R] at hR3
          have hF3 := hF1.s2 hS3 (m := 9) rfl (by omega)
          have hs3 := hs1.trans hS3
          refine J_ifb_eq (tgt := 46) dX3_outcomeFor_35 rfl (fun h35 => ?_) (fun h35 => ?_)
          · have h35b : ¬ hldB F i j R (bgn en r) (en r) = true := h35
            refine J_aload_n dX3_outcomeFor_46 rfl rfl ?_
            refine J_getf dX3_outcomeFor_47 fl_X3_19 (hR3.at 0 rfl) rfl ?_
            refine J_iload dX3_outcomeFor_50 rfl ?_
            refine J_ialdN r dX3_outcomeFor_52 (hR3.at 2 rfl) hx (by omega) (by decide) ?_
            refine J_istore_n (L' := [(3, _), (4, _), (0, _), (1, _), (2, _)]) dX3_outcomeFor_53 rfl (by decide) rfl ?_
            refine J_iinc (v := _ + 1) (L' := [(4, _), (3, _), (0, _), (1, _), (2, _)]) dX3_outcomeFor_54 rfl rfl (by decide) rfl ?_
            refine J_goto (tgt := 5) dX3_outcomeFor_57 rfl ?_
            refine xx_J.pick [0, 1, 2, 3, 4] rfl ?_
            exact ih _ _ _ _ _ (by rw [hx]; exact nI_1 r) (by unfold bgn; rw [if_neg (by omega)]; exact (hen r hir).1) hR3 hF3 hs3 (by rw [← hv, outL_s hir, if_neg h35b]; unfold bgn; rw [if_neg (by omega)]; rfl)
          · have h35b : hldB F i j R (bgn en r) (en r) = true := h35
            refine J_aload_n dX3_outcomeFor_38 rfl rfl ?_
            refine J_getf dX3_outcomeFor_39 fl_X3_15 (hR3.at 0 rfl) rfl ?_
            refine J_iload dX3_outcomeFor_42 rfl ?_
            refine J_ialdN r dX3_outcomeFor_44 (hR3.at 1 rfl) hx (by omega) (by decide) ?_
            refine J_ireturn dX3_outcomeFor_45 rfl rfl (by decide) (by decide) ?_
            exact ⟨by rw [← hv, outL_s hir, if_pos h35b]; rfl, rfl, _, _, hR3, hs3⟩
  refine xx_J.pick [0, 1, 2, 3, 4] rfl ?_
  exact loop 0 (by omega) _ _ _ _ _ rfl rfl hR0 hF (xx_same.rf (b := br) (e := br + 6)) rfl
theorem c_X3_clear (hst : l.stackTraces = false) (hR : xx_w br (layR br R) A) : xx_C G l yX3_clear mX3_clear 0 0 0 0 [.ref br] A n (xx_wr none n (fun A' => xx_w br (layR br (s_up (s_up R 0 0) 3 0)) A' ∧ xx_same br (br + 6) A A')) := by
  refine J_C hst (by decide +kernel) rfl rfl rfl (Nat.le_of_ble_eq_true rfl) ?_
  show xx_J _ _ _ _ _ _ _ _ 0 [(0, _)] [] _ _ _ _
  refine J_aload_n dX3_clear_0 rfl rfl ?_
  refine J_iconst (v := 0) dX3_clear_1 (by decide) ?_
  refine J_putf dX3_clear_2 fp_X3_9 (fun _ => ⟨rfl, rfl⟩) (hR.at 0 rfl) (Nat.le_of_ble_eq_true rfl) ?_
  refine J_gen (wR_s0_0 hR _) ((xx_same.rf (b := br) (e := br + 6)).put (by omega) (by omega) _) (fun A1 w1 s1 o1 => ?_)
  refine J_aload_n dX3_clear_5 rfl rfl ?_
  refine J_iconst (v := 0) dX3_clear_6 (by decide) ?_
  refine J_putf dX3_clear_7 fp_X3_22 (fun _ => ⟨rfl, rfl⟩) (w1.at 0 rfl) (Nat.le_of_ble_eq_true rfl) ?_
  refine J_gen (wR_s0_3 w1 _) (s1.put (by omega) (by omega) _) (fun A2 w2 s2 o2 => ?_)
  refine J_return dX3_clear_10 rfl (by decide) (by decide) ?_
  exact ⟨rfl, rfl, w2, s2⟩
/-- one step more -/
def emF (R : xS) (k : Nat) (op x : Int32) : xS := s_up (a_up (a_up R 3 (upd (R.2 3) k op)) 4 (upd (R.2 4) k x)) 3 (R.1 3 + 1)
/-- one rule more -/
def erF (R : xS) (c : Nat) (v : Int32) : xS := s_up (a_up (a_up R 1 (upd (R.2 1) c v)) 2 (upd (R.2 2) c (R.1 3))) 0 (R.1 0 + 1)
theorem c_X3_emit_ (hst : l.stackTraces = false) (hR : xx_w br (layR br R) A) {k : Nat} (hk : R.1 3 = nI k) (hk4 : k < 400) (op x : Int32) : xx_C G l yX3_emit_ mX3_emit_ 0 0 0 0 [.ref br, .int op, .int x] A n (xx_wr none n (fun A' => xx_w br (layR br (emF R k op x)) A' ∧ xx_same br (br + 6) A A')) := by
  have ek : (R.1 3).toInt = k := by rw [hk]; exact i_n (by omega)
  refine J_C hst (by decide +kernel) rfl rfl rfl (Nat.le_of_ble_eq_true rfl) ?_
  show xx_J _ _ _ _ _ _ _ _ 0 [(0, _), (1, _), (2, _)] [] _ _ _ _
  refine J_aload_n dX3_emit__0 rfl rfl ?_
  refine J_getf dX3_emit__1 fl_X3_22 (hR.at 0 rfl) rfl ?_
  refine J_sipush (v := 400) dX3_emit__4 (by decide) ?_
  refine J_icmp_ge (tgt := 40) dX3_emit__7 rfl (fun h7 => ?_) (fun h7 => ?_)
  · first | (exfalso; simp only [i_lt, i_le, i_eq, i_0, i_1, i_2, i_3, i_4, i_5, i_6, i_8, i_9, i_10, i_12, i_16, i_20, i_m1, i_400] at h7; omega) | (exfalso; simp only [s_up, a_up, va_up, i_lt, i_le, i_eq, i_0, i_1, i_2, i_3, i_4, i_5, i_6, i_8, i_9, i_10, i_12, i_16, i_20, i_m1, i_400, ↓reduceIte, Nat.reduceEqDiff] at h7; omega)
  · refine J_aload_n dX3_emit__10 rfl rfl ?_
    refine J_getf dX3_emit__11 fl_X3_25 (hR.at 0 rfl) rfl ?_
    refine J_aload_n dX3_emit__14 rfl rfl ?_
    refine J_getf dX3_emit__15 fl_X3_22 (hR.at 0 rfl) rfl ?_
    refine J_iload_n dX3_emit__18 rfl rfl ?_
    refine J_iastN k dX3_emit__19 (hR.at 3 rfl) hk (by omega) (by decide) ?_
    refine J_gen (wR_a3 hR _) ((xx_same.rf (b := br) (e := br + 6)).put (by omega) (by omega) _) (fun A1 w1 s1 o1 => ?_)
    refine J_aload_n dX3_emit__20 rfl rfl ?_
    refine J_getf dX3_emit__21 fl_X3_28 (w1.at 0 rfl) rfl ?_
    refine J_aload_n dX3_emit__24 rfl rfl ?_
    refine J_getf dX3_emit__25 fl_X3_22 (w1.at 0 rfl) rfl ?_
    refine J_iload_n dX3_emit__28 rfl rfl ?_
    refine J_iastN k dX3_emit__29 (w1.at 4 rfl) hk (by omega) (by decide) ?_
    refine J_gen (wR_a4 w1 _) (s1.put (by omega) (by omega) _) (fun A2 w2 s2 o2 => ?_)
    refine J_aload_n dX3_emit__30 rfl rfl ?_
    refine J_dup dX3_emit__31 rfl ?_
    refine J_getf dX3_emit__32 fl_X3_22 (w2.at 0 rfl) rfl ?_
    refine J_iconst (v := 1) dX3_emit__35 (by decide) ?_
    refine J_iadd dX3_emit__36 ?_
    refine J_putf dX3_emit__37 fp_X3_22 (fun _ => ⟨rfl, rfl⟩) (w2.at 0 rfl) (Nat.le_of_ble_eq_true rfl) ?_
    refine J_gen (wR_s0_3 w2 _) (s2.put (by omega) (by omega) _) (fun A3 w3 s3 o3 => ?_)
    refine J_return dX3_emit__40 rfl (by decide) (by decide) ?_
    exact ⟨rfl, rfl, w3, s3⟩
theorem c_X3_emit (hst : l.stackTraces = false) (hR : xx_w br (layR br R) A) {k : Nat} (hk : R.1 3 = nI k) (hk4 : k < 400) (op : Int32) : xx_C G l yX3_emit mX3_emit 1 22 0 0 [.ref br, .int op] A n (xx_wr none n (fun A' => xx_w br (layR br (emF R k op 0)) A' ∧ xx_same br (br + 6) A A')) := by
  refine J_C hst (by decide +kernel) rfl rfl rfl (Nat.le_of_ble_eq_true rfl) ?_
  show xx_J _ _ _ _ _ _ _ _ 0 [(0, _), (1, _)] [] _ _ _ _
  refine J_aload_n dX3_emit_0 rfl rfl ?_
  refine J_iload_n dX3_emit_1 rfl rfl ?_
  refine J_iconst (v := 0) dX3_emit_2 (by decide) ?_
  refine J_callVw (As := [_, _]) dX3_emit_3 ml_X3_43 cal_X3_emit_ im_X3_emit_ se_X3_emit_ (hR.at 0 rfl) rfl rfl rfl (Nat.le_of_ble_eq_true rfl) ⟨by decide, by decide⟩ ⟨by decide, by decide⟩ (c_X3_emit_ hst hR hk hk4 _ _) (fun A1 hQ1 => ?_)
  skip
  refine J_return dX3_emit_6 rfl (by decide) (by decide) ?_
  exact ⟨rfl, rfl, hQ1.1, ((xx_same.rf (b := br) (e := br + 6)).trans (hQ1.2.wide (by omega) (by omega)))⟩
theorem c_X3_endRule (hst : l.stackTraces = false) (hR : xx_w br (layR br R) A) {c : Nat} (hc : R.1 0 = nI c) (hc16 : c < 16) (v : Int32) : xx_C G l yX3_endRule mX3_endRule 0 0 0 0 [.ref br, .int v] A n (xx_wr none n (fun A' => xx_w br (layR br (erF R c v)) A' ∧ xx_same br (br + 6) A A')) := by
  have ek : (R.1 0).toInt = c := by rw [hc]; exact i_n (by omega)
  refine J_C hst (by decide +kernel) rfl rfl rfl (Nat.le_of_ble_eq_true rfl) ?_
  show xx_J _ _ _ _ _ _ _ _ 0 [(0, _), (1, _)] [] _ _ _ _
  refine J_aload_n dX3_endRule_0 rfl rfl ?_
  refine J_getf dX3_endRule_1 fl_X3_9 (hR.at 0 rfl) rfl ?_
  refine J_bipush (v := 16) dX3_endRule_4 (by decide) ?_
  refine J_icmp_ge (tgt := 42) dX3_endRule_6 rfl (fun h6 => ?_) (fun h6 => ?_)
  · first | (exfalso; simp only [i_lt, i_le, i_eq, i_0, i_1, i_2, i_3, i_4, i_5, i_6, i_8, i_9, i_10, i_12, i_16, i_20, i_m1, i_400] at h6; omega) | (exfalso; simp only [s_up, a_up, va_up, i_lt, i_le, i_eq, i_0, i_1, i_2, i_3, i_4, i_5, i_6, i_8, i_9, i_10, i_12, i_16, i_20, i_m1, i_400, ↓reduceIte, Nat.reduceEqDiff] at h6; omega)
  · refine J_aload_n dX3_endRule_9 rfl rfl ?_
    refine J_getf dX3_endRule_10 fl_X3_15 (hR.at 0 rfl) rfl ?_
    refine J_aload_n dX3_endRule_13 rfl rfl ?_
    refine J_getf dX3_endRule_14 fl_X3_9 (hR.at 0 rfl) rfl ?_
    refine J_iload_n dX3_endRule_17 rfl rfl ?_
    refine J_iastN c dX3_endRule_18 (hR.at 1 rfl) hc (by omega) (by decide) ?_
    refine J_gen (wR_a1 hR _) ((xx_same.rf (b := br) (e := br + 6)).put (by omega) (by omega) _) (fun A1 w1 s1 o1 => ?_)
    refine J_aload_n dX3_endRule_19 rfl rfl ?_
    refine J_getf dX3_endRule_20 fl_X3_19 (w1.at 0 rfl) rfl ?_
    refine J_aload_n dX3_endRule_23 rfl rfl ?_
    refine J_getf dX3_endRule_24 fl_X3_9 (w1.at 0 rfl) rfl ?_
    refine J_aload_n dX3_endRule_27 rfl rfl ?_
    refine J_getf dX3_endRule_28 fl_X3_22 (w1.at 0 rfl) rfl ?_
    refine J_iastN c dX3_endRule_31 (w1.at 2 rfl) hc (by omega) (by decide) ?_
    refine J_gen (wR_a2 w1 _) (s1.put (by omega) (by omega) _) (fun A2 w2 s2 o2 => ?_)
    refine J_aload_n dX3_endRule_32 rfl rfl ?_
    refine J_dup dX3_endRule_33 rfl ?_
    refine J_getf dX3_endRule_34 fl_X3_9 (w2.at 0 rfl) rfl ?_
    refine J_iconst (v := 1) dX3_endRule_37 (by decide) ?_
    refine J_iadd dX3_endRule_38 ?_
    refine J_putf dX3_endRule_39 fp_X3_9 (fun _ => ⟨rfl, rfl⟩) (w2.at 0 rfl) (Nat.le_of_ble_eq_true rfl) ?_
    refine J_gen (wR_s0_0 w2 _) (s2.put (by omega) (by omega) _) (fun A3 w3 s3 o3 => ?_)
    refine J_return dX3_endRule_42 rfl (by decide) (by decide) ?_
    exact ⟨rfl, rfl, w3, s3⟩
/-- the rules of Z -/
def cpyR (R Z : xS) : xS := a_up (a_up (a_up (a_up (s_up (s_up R 0 (Z.1 0)) 3 (Z.1 3)) 1 (cpa (Z.2 1) (R.2 1) 16)) 2 (cpa (Z.2 2) (R.2 2) 16)) 3 (cpa (Z.2 3) (R.2 3) 400)) 4 (cpa (Z.2 4) (R.2 4) 400)
set_option maxHeartbeats 4000000 in
theorem c_X3_copyFrom (hst : l.stackTraces = false) (hR : xx_w br (layR br R) A) {bz : Nat} {Z : xS} (hZ : xx_w bz (layR bz Z) A) (hd : bz + 6 ≤ br ∨ br + 6 ≤ bz) : xx_C G l yX3_copyFrom mX3_copyFrom 1 60 0 0 [.ref br, .ref bz] A n (xx_wr none n (fun A' => xx_w br (layR br (cpyR R Z)) A' ∧ xx_same br (br + 6) A A')) := by
  refine J_C hst (by decide +kernel) rfl rfl rfl (Nat.le_of_ble_eq_true rfl) ?_
  show xx_J _ _ _ _ _ _ _ _ 0 [(0, _), (1, _)] [] _ _ _ _
  refine J_aload_n dX3_copyFrom_0 rfl rfl ?_
  refine J_aload_n dX3_copyFrom_1 rfl rfl ?_
  refine J_getf dX3_copyFrom_2 fl_X3_9 (hZ.at 0 rfl) rfl ?_
  refine J_putf dX3_copyFrom_5 fp_X3_9 (fun _ => ⟨rfl, rfl⟩) (hR.at 0 rfl) (Nat.le_of_ble_eq_true rfl) ?_
  refine J_gen (wR_s0_0 hR _) ((xx_same.rf (b := br) (e := br + 6)).put (by omega) (by omega) _) (fun A1 w1 s1 o1 => ?_)
  have w1Z := hZ.o2 o1 (m := 6) rfl (by omega)
  refine J_aload_n dX3_copyFrom_8 rfl rfl ?_
  refine J_aload_n dX3_copyFrom_9 rfl rfl ?_
  refine J_getf dX3_copyFrom_10 fl_X3_22 (w1Z.at 0 rfl) rfl ?_
  refine J_putf dX3_copyFrom_13 fp_X3_22 (fun _ => ⟨rfl, rfl⟩) (w1.at 0 rfl) (Nat.le_of_ble_eq_true rfl) ?_
  refine J_gen (wR_s0_3 w1 _) (s1.put (by omega) (by omega) _) (fun A2 w2 s2 o2 => ?_)
  have w2Z := w1Z.o2 o2 (m := 6) rfl (by omega)
  refine J_aload_n dX3_copyFrom_16 rfl rfl ?_
  refine J_getf dX3_copyFrom_17 fl_X3_15 (w2Z.at 0 rfl) rfl ?_
  refine J_iconst (v := 0) dX3_copyFrom_20 (by decide) ?_
  refine J_aload_n dX3_copyFrom_21 rfl rfl ?_
  refine J_getf dX3_copyFrom_22 fl_X3_15 (w2.at 0 rfl) rfl ?_
  refine J_iconst (v := 0) dX3_copyFrom_25 (by decide) ?_
  refine J_bipush (v := 16) dX3_copyFrom_26 (by decide) ?_
  refine J_copy (Or.inl rfl) dX3_copyFrom_28 ml_X3_37 na_copy sm_copy in_java_lang_System (w2Z.at 1 rfl) (w2.at 1 rfl) (by decide) (by decide) (by decide) (by decide) (by decide) (fun h => nomatch h) ⟨by decide, by decide⟩ ?_
  refine J_gen (wR_a1 w2 _) (s2.put (by omega) (by omega) _) (fun A3 w3 s3 o3 => ?_)
  have w3Z := w2Z.o2 o3 (m := 6) rfl (by omega)
  refine J_aload_n dX3_copyFrom_31 rfl rfl ?_
  refine J_getf dX3_copyFrom_32 fl_X3_19 (w3Z.at 0 rfl) rfl ?_
  refine J_iconst (v := 0) dX3_copyFrom_35 (by decide) ?_
  refine J_aload_n dX3_copyFrom_36 rfl rfl ?_
  refine J_getf dX3_copyFrom_37 fl_X3_19 (w3.at 0 rfl) rfl ?_
  refine J_iconst (v := 0) dX3_copyFrom_40 (by decide) ?_
  refine J_bipush (v := 16) dX3_copyFrom_41 (by decide) ?_
  refine J_copy (Or.inl rfl) dX3_copyFrom_43 ml_X3_37 na_copy sm_copy in_java_lang_System (w3Z.at 2 rfl) (w3.at 2 rfl) (by decide) (by decide) (by decide) (by decide) (by decide) (fun h => nomatch h) ⟨by decide, by decide⟩ ?_
  refine J_gen (wR_a2 w3 _) (s3.put (by omega) (by omega) _) (fun A4 w4 s4 o4 => ?_)
  have w4Z := w3Z.o2 o4 (m := 6) rfl (by omega)
  refine J_aload_n dX3_copyFrom_46 rfl rfl ?_
  refine J_getf dX3_copyFrom_47 fl_X3_25 (w4Z.at 0 rfl) rfl ?_
  refine J_iconst (v := 0) dX3_copyFrom_50 (by decide) ?_
  refine J_aload_n dX3_copyFrom_51 rfl rfl ?_
  refine J_getf dX3_copyFrom_52 fl_X3_25 (w4.at 0 rfl) rfl ?_
  refine J_iconst (v := 0) dX3_copyFrom_55 (by decide) ?_
  refine J_sipush (v := 400) dX3_copyFrom_56 (by decide) ?_
  refine J_copy (Or.inl rfl) dX3_copyFrom_59 ml_X3_37 na_copy sm_copy in_java_lang_System (w4Z.at 3 rfl) (w4.at 3 rfl) (by decide) (by decide) (by decide) (by decide) (by decide) (fun h => nomatch h) ⟨by decide, by decide⟩ ?_
  refine J_gen (wR_a3 w4 _) (s4.put (by omega) (by omega) _) (fun A5 w5 s5 o5 => ?_)
  have w5Z := w4Z.o2 o5 (m := 6) rfl (by omega)
  refine J_aload_n dX3_copyFrom_62 rfl rfl ?_
  refine J_getf dX3_copyFrom_63 fl_X3_28 (w5Z.at 0 rfl) rfl ?_
  refine J_iconst (v := 0) dX3_copyFrom_66 (by decide) ?_
  refine J_aload_n dX3_copyFrom_67 rfl rfl ?_
  refine J_getf dX3_copyFrom_68 fl_X3_28 (w5.at 0 rfl) rfl ?_
  refine J_iconst (v := 0) dX3_copyFrom_71 (by decide) ?_
  refine J_sipush (v := 400) dX3_copyFrom_72 (by decide) ?_
  refine J_copy (Or.inl rfl) dX3_copyFrom_75 ml_X3_37 na_copy sm_copy in_java_lang_System (w5Z.at 4 rfl) (w5.at 4 rfl) (by decide) (by decide) (by decide) (by decide) (by decide) (fun h => nomatch h) ⟨by decide, by decide⟩ ?_
  refine J_gen (wR_a4 w5 _) (s5.put (by omega) (by omega) _) (fun A6 w6 s6 o6 => ?_)
  have w6Z := w5Z.o2 o6 (m := 6) rfl (by omega)
  refine J_return dX3_copyFrom_78 rfl (by decide) (by decide) ?_
  exact ⟨rfl, rfl, w6, s6⟩
end XRU
