/-! RULES -/
section XRU
def layR (b : Nat) (F : xS) : List (Nat × va_E) := [(0, .inr (3, [.int (F.1 0), .ref (b + 1), .ref (b + 2), .int (F.1 3), .ref (b + 3), .ref (b + 4), .int (F.1 6), .ref (b + 5)])), (1, .inl (0, 16, .inl (F.2 1))), (2, .inl (0, 16, .inl (F.2 2))), (3, .inl (0, 400, .inl (F.2 3))), (4, .inl (0, 400, .inl (F.2 4))), (5, .inl (0, 400, .inl (F.2 5)))]
theorem wR_s0_0 {b : Nat} {F : xS} {A : xx_H} (h : xx_w b (layR b F) A) (x : Int32) : xx_w b (layR b (s_up F 0 x)) (xx_up A (b + 0) (.inr (3, [Value.int (F.1 0), .ref (b + 1), .ref (b + 2), .int (F.1 3), .ref (b + 3), .ref (b + 4), .int (F.1 6), .ref (b + 5)].set 0 (.int x)))) := h.put 0 _ rfl rfl
theorem wR_s0_3 {b : Nat} {F : xS} {A : xx_H} (h : xx_w b (layR b F) A) (x : Int32) : xx_w b (layR b (s_up F 3 x)) (xx_up A (b + 0) (.inr (3, [Value.int (F.1 0), .ref (b + 1), .ref (b + 2), .int (F.1 3), .ref (b + 3), .ref (b + 4), .int (F.1 6), .ref (b + 5)].set 3 (.int x)))) := h.put 0 _ rfl rfl
theorem wR_s0_6 {b : Nat} {F : xS} {A : xx_H} (h : xx_w b (layR b F) A) (x : Int32) : xx_w b (layR b (s_up F 6 x)) (xx_up A (b + 0) (.inr (3, [Value.int (F.1 0), .ref (b + 1), .ref (b + 2), .int (F.1 3), .ref (b + 3), .ref (b + 4), .int (F.1 6), .ref (b + 5)].set 6 (.int x)))) := h.put 0 _ rfl rfl
theorem wR_a1 {b : Nat} {F : xS} {A : xx_H} (h : xx_w b (layR b F) A) (f : Nat → Int32) : xx_w b (layR b (a_up F 1 f)) (xx_up A (b + 1) (.inl (0, 16, .inl f))) := h.put 1 _ rfl rfl
theorem wR_a2 {b : Nat} {F : xS} {A : xx_H} (h : xx_w b (layR b F) A) (f : Nat → Int32) : xx_w b (layR b (a_up F 2 f)) (xx_up A (b + 2) (.inl (0, 16, .inl f))) := h.put 2 _ rfl rfl
theorem wR_a3 {b : Nat} {F : xS} {A : xx_H} (h : xx_w b (layR b F) A) (f : Nat → Int32) : xx_w b (layR b (a_up F 3 f)) (xx_up A (b + 3) (.inl (0, 400, .inl f))) := h.put 3 _ rfl rfl
theorem wR_a4 {b : Nat} {F : xS} {A : xx_H} (h : xx_w b (layR b F) A) (f : Nat → Int32) : xx_w b (layR b (a_up F 4 f)) (xx_up A (b + 4) (.inl (0, 400, .inl f))) := h.put 4 _ rfl rfl
theorem wR_a5 {b : Nat} {F : xS} {A : xx_H} (h : xx_w b (layR b F) A) (f : Nat → Int32) : xx_w b (layR b (a_up F 5 f)) (xx_up A (b + 5) (.inl (0, 400, .inl f))) := h.put 5 _ rfl rfl
variable {G : xx_G} {l : Launch} {b n : Nat} {A : xx_H} {F : xS} {br : Nat} {R : xS}
/-- two numbers joined -/
def opJ (op a b : Int32) : Int32 := match op.toInt with
  | 8 => a + b
  | 9 => a - b
  | 10 => a * b
  | 11 => if b = 0 then 0 else a / b
  | 12 => if b < a then b else a
  | 13 => if a < b then b else a
  | 14 => if a < b then 1 else 0
  | 15 => if b < a then 1 else 0
  | 16 => if a = b then 1 else 0
  | 17 => if a ≤ b then 1 else 0
  | 18 => if b ≤ a then 1 else 0
  | 19 => a &&& b
  | 20 => a ||| b
  | _ => 0
theorem c_X3_join (hst : l.stackTraces = false) (op a b : Int32) : xx_C G l yX3_join mX3_join 1 21 0 0 [.int op, .int a, .int b] A n (xx_ro (some (.int (opJ op a b))) A n) := by
  refine J_C hst (by decide +kernel) rfl rfl rfl (Nat.le_of_ble_eq_true rfl) ?_
  show xx_J _ _ _ _ _ _ _ _ 0 [(0, _), (1, _), (2, _)] [] _ _ _ _
  refine J_iload_n dX3_join_0 rfl rfl ?_
  have hsw1 : (op).toInt = 8 ∨ (op).toInt = 9 ∨ (op).toInt = 10 ∨ (op).toInt = 11 ∨ (op).toInt = 12 ∨ (op).toInt = 13 ∨ (op).toInt = 14 ∨ (op).toInt = 15 ∨ (op).toInt = 16 ∨ (op).toInt = 17 ∨ (op).toInt = 18 ∨ (op).toInt = 19 ∨ (op).toInt = 20 ∨ ((op).toInt < 8 ∨ 20 < (op).toInt) := by omega
  rcases hsw1 with hs1 | hs1 | hs1 | hs1 | hs1 | hs1 | hs1 | hs1 | hs1 | hs1 | hs1 | hs1 | hs1 | hs1
  · refine J_tableIn (tgt := 68) dX3_join_1 (by omega) (by omega) (by rw [hs1]; rfl) rfl ?_
    refine J_iload_n dX3_join_68 rfl rfl ?_
    refine J_iload_n dX3_join_69 rfl rfl ?_
    refine J_iadd dX3_join_70 ?_
    refine J_ireturn dX3_join_71 rfl rfl (by decide) (by decide) ?_
    refine ⟨congrArg (fun v => Sum.inl (some (Value.int v))) ?_, rfl, rfl⟩
    unfold opJ
    first | (simp only [hs1]; done) | (simp only [hs1]; rfl) | (simp only [hs1]; split <;> first | rfl | (exfalso; simp only [i_lt, i_le, i_eq] at *; omega)) | (split <;> first | rfl | (exfalso; omega))
  · refine J_tableIn (tgt := 72) dX3_join_1 (by omega) (by omega) (by rw [hs1]; rfl) rfl ?_
    refine J_iload_n dX3_join_72 rfl rfl ?_
    refine J_iload_n dX3_join_73 rfl rfl ?_
    refine J_isub dX3_join_74 ?_
    refine J_ireturn dX3_join_75 rfl rfl (by decide) (by decide) ?_
    refine ⟨congrArg (fun v => Sum.inl (some (Value.int v))) ?_, rfl, rfl⟩
    unfold opJ
    first | (simp only [hs1]; done) | (simp only [hs1]; rfl) | (simp only [hs1]; split <;> first | rfl | (exfalso; simp only [i_lt, i_le, i_eq] at *; omega)) | (split <;> first | rfl | (exfalso; omega))
  · refine J_tableIn (tgt := 76) dX3_join_1 (by omega) (by omega) (by rw [hs1]; rfl) rfl ?_
    refine J_iload_n dX3_join_76 rfl rfl ?_
    refine J_iload_n dX3_join_77 rfl rfl ?_
    refine J_imul dX3_join_78 ?_
    refine J_ireturn dX3_join_79 rfl rfl (by decide) (by decide) ?_
    refine ⟨congrArg (fun v => Sum.inl (some (Value.int v))) ?_, rfl, rfl⟩
    unfold opJ
    first | (simp only [hs1]; done) | (simp only [hs1]; rfl) | (simp only [hs1]; split <;> first | rfl | (exfalso; simp only [i_lt, i_le, i_eq] at *; omega)) | (split <;> first | rfl | (exfalso; omega))
  · refine J_tableIn (tgt := 80) dX3_join_1 (by omega) (by omega) (by rw [hs1]; rfl) rfl ?_
    refine J_iload_n dX3_join_80 rfl rfl ?_
    refine J_if_ne (tgt := 88) dX3_join_81 rfl (fun h81 => ?_) (fun h81 => ?_)
    · refine J_iload_n dX3_join_88 rfl rfl ?_
      refine J_iload_n dX3_join_89 rfl rfl ?_
      refine J_idiv dX3_join_90 h81 ?_
      refine J_ireturn dX3_join_91 rfl rfl (by decide) (by decide) ?_
      refine ⟨congrArg (fun v => Sum.inl (some (Value.int v))) ?_, rfl, rfl⟩
      unfold opJ
      first | (simp only [hs1]; done) | (simp only [hs1]; rfl) | (simp only [hs1]; split <;> first | rfl | (exfalso; simp only [i_lt, i_le, i_eq] at *; omega)) | (split <;> first | rfl | (exfalso; omega))
    · refine J_iconst (v := 0) dX3_join_84 (by decide) ?_
      refine J_goto (tgt := 91) dX3_join_85 rfl ?_
      refine J_ireturn dX3_join_91 rfl rfl (by decide) (by decide) ?_
      refine ⟨congrArg (fun v => Sum.inl (some (Value.int v))) ?_, rfl, rfl⟩
      unfold opJ
      first | (simp only [hs1]; done) | (simp only [hs1]; rfl) | (simp only [hs1]; split <;> first | rfl | (exfalso; simp only [i_lt, i_le, i_eq] at *; omega)) | (split <;> first | rfl | (exfalso; omega))
  · refine J_tableIn (tgt := 92) dX3_join_1 (by omega) (by omega) (by rw [hs1]; rfl) rfl ?_
    refine J_iload_n dX3_join_92 rfl rfl ?_
    refine J_iload_n dX3_join_93 rfl rfl ?_
    refine J_min dX3_join_94 ml_X3_86 ⟨by decide, Nat.le_of_ble_eq_true rfl⟩ ⟨by decide, by decide⟩ ?_
    refine J_ireturn dX3_join_97 rfl rfl (by decide) (by decide) ?_
    refine ⟨congrArg (fun v => Sum.inl (some (Value.int v))) ?_, rfl, rfl⟩
    unfold opJ
    first | (simp only [hs1]; done) | (simp only [hs1]; rfl) | (simp only [hs1]; split <;> first | rfl | (exfalso; simp only [i_lt, i_le, i_eq] at *; omega)) | (split <;> first | rfl | (exfalso; omega))
  · refine J_tableIn (tgt := 98) dX3_join_1 (by omega) (by omega) (by rw [hs1]; rfl) rfl ?_
    refine J_iload_n dX3_join_98 rfl rfl ?_
    refine J_iload_n dX3_join_99 rfl rfl ?_
    refine J_max dX3_join_100 ml_X3_91 ⟨by decide, Nat.le_of_ble_eq_true rfl⟩ ⟨by decide, by decide⟩ ?_
    refine J_ireturn dX3_join_103 rfl rfl (by decide) (by decide) ?_
    refine ⟨congrArg (fun v => Sum.inl (some (Value.int v))) ?_, rfl, rfl⟩
    unfold opJ
    first | (simp only [hs1]; done) | (simp only [hs1]; rfl) | (simp only [hs1]; split <;> first | rfl | (exfalso; simp only [i_lt, i_le, i_eq] at *; omega)) | (split <;> first | rfl | (exfalso; omega))
  · refine J_tableIn (tgt := 104) dX3_join_1 (by omega) (by omega) (by rw [hs1]; rfl) rfl ?_
    refine J_iload_n dX3_join_104 rfl rfl ?_
    refine J_iload_n dX3_join_105 rfl rfl ?_
    refine J_icmp_ge (tgt := 113) dX3_join_106 rfl (fun h106 => ?_) (fun h106 => ?_)
    · refine J_iconst (v := 0) dX3_join_113 (by decide) ?_
      refine J_ireturn dX3_join_114 rfl rfl (by decide) (by decide) ?_
      refine ⟨congrArg (fun v => Sum.inl (some (Value.int v))) ?_, rfl, rfl⟩
      unfold opJ
      first | (simp only [hs1]; done) | (simp only [hs1]; rfl) | (simp only [hs1]; split <;> first | rfl | (exfalso; simp only [i_lt, i_le, i_eq] at *; omega)) | (split <;> first | rfl | (exfalso; omega))
    · refine J_iconst (v := 1) dX3_join_109 (by decide) ?_
      refine J_goto (tgt := 114) dX3_join_110 rfl ?_
      refine J_ireturn dX3_join_114 rfl rfl (by decide) (by decide) ?_
      refine ⟨congrArg (fun v => Sum.inl (some (Value.int v))) ?_, rfl, rfl⟩
      unfold opJ
      first | (simp only [hs1]; done) | (simp only [hs1]; rfl) | (simp only [hs1]; split <;> first | rfl | (exfalso; simp only [i_lt, i_le, i_eq] at *; omega)) | (split <;> first | rfl | (exfalso; omega))
  · refine J_tableIn (tgt := 115) dX3_join_1 (by omega) (by omega) (by rw [hs1]; rfl) rfl ?_
    refine J_iload_n dX3_join_115 rfl rfl ?_
    refine J_iload_n dX3_join_116 rfl rfl ?_
    refine J_icmp_le (tgt := 124) dX3_join_117 rfl (fun h117 => ?_) (fun h117 => ?_)
    · refine J_iconst (v := 0) dX3_join_124 (by decide) ?_
      refine J_ireturn dX3_join_125 rfl rfl (by decide) (by decide) ?_
      refine ⟨congrArg (fun v => Sum.inl (some (Value.int v))) ?_, rfl, rfl⟩
      unfold opJ
      first | (simp only [hs1]; done) | (simp only [hs1]; rfl) | (simp only [hs1]; split <;> first | rfl | (exfalso; simp only [i_lt, i_le, i_eq] at *; omega)) | (split <;> first | rfl | (exfalso; omega))
    · refine J_iconst (v := 1) dX3_join_120 (by decide) ?_
      refine J_goto (tgt := 125) dX3_join_121 rfl ?_
      refine J_ireturn dX3_join_125 rfl rfl (by decide) (by decide) ?_
      refine ⟨congrArg (fun v => Sum.inl (some (Value.int v))) ?_, rfl, rfl⟩
      unfold opJ
      first | (simp only [hs1]; done) | (simp only [hs1]; rfl) | (simp only [hs1]; split <;> first | rfl | (exfalso; simp only [i_lt, i_le, i_eq] at *; omega)) | (split <;> first | rfl | (exfalso; omega))
  · refine J_tableIn (tgt := 126) dX3_join_1 (by omega) (by omega) (by rw [hs1]; rfl) rfl ?_
    refine J_iload_n dX3_join_126 rfl rfl ?_
    refine J_iload_n dX3_join_127 rfl rfl ?_
    refine J_icmp_ne (tgt := 135) dX3_join_128 rfl (fun h128 => ?_) (fun h128 => ?_)
    · refine J_iconst (v := 0) dX3_join_135 (by decide) ?_
      refine J_ireturn dX3_join_136 rfl rfl (by decide) (by decide) ?_
      refine ⟨congrArg (fun v => Sum.inl (some (Value.int v))) ?_, rfl, rfl⟩
      unfold opJ
      first | (simp only [hs1]; done) | (simp only [hs1]; rfl) | (simp only [hs1]; split <;> first | rfl | (exfalso; simp only [i_lt, i_le, i_eq] at *; omega)) | (split <;> first | rfl | (exfalso; omega))
    · refine J_iconst (v := 1) dX3_join_131 (by decide) ?_
      refine J_goto (tgt := 136) dX3_join_132 rfl ?_
      refine J_ireturn dX3_join_136 rfl rfl (by decide) (by decide) ?_
      refine ⟨congrArg (fun v => Sum.inl (some (Value.int v))) ?_, rfl, rfl⟩
      unfold opJ
      first | (simp only [hs1]; done) | (simp only [hs1]; rfl) | (simp only [hs1]; split <;> first | rfl | (exfalso; simp only [i_lt, i_le, i_eq] at *; omega)) | (split <;> first | rfl | (exfalso; omega))
  · refine J_tableIn (tgt := 137) dX3_join_1 (by omega) (by omega) (by rw [hs1]; rfl) rfl ?_
    refine J_iload_n dX3_join_137 rfl rfl ?_
    refine J_iload_n dX3_join_138 rfl rfl ?_
    refine J_icmp_gt (tgt := 146) dX3_join_139 rfl (fun h139 => ?_) (fun h139 => ?_)
    · refine J_iconst (v := 0) dX3_join_146 (by decide) ?_
      refine J_ireturn dX3_join_147 rfl rfl (by decide) (by decide) ?_
      refine ⟨congrArg (fun v => Sum.inl (some (Value.int v))) ?_, rfl, rfl⟩
      unfold opJ
      first | (simp only [hs1]; done) | (simp only [hs1]; rfl) | (simp only [hs1]; split <;> first | rfl | (exfalso; simp only [i_lt, i_le, i_eq] at *; omega)) | (split <;> first | rfl | (exfalso; omega))
    · refine J_iconst (v := 1) dX3_join_142 (by decide) ?_
      refine J_goto (tgt := 147) dX3_join_143 rfl ?_
      refine J_ireturn dX3_join_147 rfl rfl (by decide) (by decide) ?_
      refine ⟨congrArg (fun v => Sum.inl (some (Value.int v))) ?_, rfl, rfl⟩
      unfold opJ
      first | (simp only [hs1]; done) | (simp only [hs1]; rfl) | (simp only [hs1]; split <;> first | rfl | (exfalso; simp only [i_lt, i_le, i_eq] at *; omega)) | (split <;> first | rfl | (exfalso; omega))
  · refine J_tableIn (tgt := 148) dX3_join_1 (by omega) (by omega) (by rw [hs1]; rfl) rfl ?_
    refine J_iload_n dX3_join_148 rfl rfl ?_
    refine J_iload_n dX3_join_149 rfl rfl ?_
    refine J_icmp_lt (tgt := 157) dX3_join_150 rfl (fun h150 => ?_) (fun h150 => ?_)
    · refine J_iconst (v := 0) dX3_join_157 (by decide) ?_
      refine J_ireturn dX3_join_158 rfl rfl (by decide) (by decide) ?_
      refine ⟨congrArg (fun v => Sum.inl (some (Value.int v))) ?_, rfl, rfl⟩
      unfold opJ
      first | (simp only [hs1]; done) | (simp only [hs1]; rfl) | (simp only [hs1]; split <;> first | rfl | (exfalso; simp only [i_lt, i_le, i_eq] at *; omega)) | (split <;> first | rfl | (exfalso; omega))
    · refine J_iconst (v := 1) dX3_join_153 (by decide) ?_
      refine J_goto (tgt := 158) dX3_join_154 rfl ?_
      refine J_ireturn dX3_join_158 rfl rfl (by decide) (by decide) ?_
      refine ⟨congrArg (fun v => Sum.inl (some (Value.int v))) ?_, rfl, rfl⟩
      unfold opJ
      first | (simp only [hs1]; done) | (simp only [hs1]; rfl) | (simp only [hs1]; split <;> first | rfl | (exfalso; simp only [i_lt, i_le, i_eq] at *; omega)) | (split <;> first | rfl | (exfalso; omega))
  · refine J_tableIn (tgt := 159) dX3_join_1 (by omega) (by omega) (by rw [hs1]; rfl) rfl ?_
    refine J_iload_n dX3_join_159 rfl rfl ?_
    refine J_iload_n dX3_join_160 rfl rfl ?_
    refine J_iand dX3_join_161 ?_
    refine J_ireturn dX3_join_162 rfl rfl (by decide) (by decide) ?_
    refine ⟨congrArg (fun v => Sum.inl (some (Value.int v))) ?_, rfl, rfl⟩
    unfold opJ
    first | (simp only [hs1]; done) | (simp only [hs1]; rfl) | (simp only [hs1]; split <;> first | rfl | (exfalso; simp only [i_lt, i_le, i_eq] at *; omega)) | (split <;> first | rfl | (exfalso; omega))
  · refine J_tableIn (tgt := 163) dX3_join_1 (by omega) (by omega) (by rw [hs1]; rfl) rfl ?_
    refine J_iload_n dX3_join_163 rfl rfl ?_
    refine J_iload_n dX3_join_164 rfl rfl ?_
    refine J_ior dX3_join_165 ?_
    refine J_ireturn dX3_join_166 rfl rfl (by decide) (by decide) ?_
    refine ⟨congrArg (fun v => Sum.inl (some (Value.int v))) ?_, rfl, rfl⟩
    unfold opJ
    first | (simp only [hs1]; done) | (simp only [hs1]; rfl) | (simp only [hs1]; split <;> first | rfl | (exfalso; simp only [i_lt, i_le, i_eq] at *; omega)) | (split <;> first | rfl | (exfalso; omega))
  · refine J_tableOut (tgt := 167) dX3_join_1 hs1 rfl ?_
    refine J_iconst (v := 0) dX3_join_167 (by decide) ?_
    refine J_ireturn dX3_join_168 rfl rfl (by decide) (by decide) ?_
    refine ⟨congrArg (fun v => Sum.inl (some (Value.int v))) ?_, rfl, rfl⟩
    unfold opJ
    first | (simp only [hs1]; done) | (simp only [hs1]; rfl) | (simp only [hs1]; split <;> first | rfl | (exfalso; simp only [i_lt, i_le, i_eq] at *; omega)) | (split <;> first | rfl | (exfalso; omega))
/-- the stack as a list, its top first -/
def rp (st : Nat → Int32) (s : List Int32) : Prop := s.length ≤ 400 ∧ ∀ q, q < s.length → st q = s.getD (s.length - 1 - q) 0
abbrev stR (R : xS) (st : Nat → Int32) (m : Nat) : xS := a_up (s_up R 6 (nI m)) 5 st
def psh (v : Int32) (s : List Int32) : List Int32 := if s.length < 400 then v :: s else s
theorem s_up_u {X : xS} {i : Nat} {v w : Int32} : s_up (s_up X i v) i w = s_up X i w := by
  unfold s_up
  refine Prod.ext ?_ rfl
  funext q
  simp only [va_up]
  split <;> rfl
theorem rp_psh {st : Nat → Int32} {s : List Int32} (h : rp st s) (hl : s.length < 400) (v : Int32) : rp (upd st s.length v) (v :: s) := by
  refine ⟨by simp only [List.length_cons]; omega, fun q hq => ?_⟩
  simp only [List.length_cons] at hq ⊢
  simp only [upd]
  by_cases e : q = s.length
  · subst e
    rw [if_pos rfl, show s.length + 1 - 1 - s.length = 0 by omega]
    rfl
  · rw [if_neg e, h.2 q (by omega), show s.length + 1 - 1 - q = (s.length - 1 - q) + 1 by omega]
    rfl
theorem rp_tl {st : Nat → Int32} {s : List Int32} (h : rp st s) : rp st s.tail := by
  cases s with
  | nil => exact h
  | cons a s =>
    obtain ⟨h1, h2⟩ := h
    simp only [List.length_cons] at h1 h2
    refine ⟨by show s.length ≤ 400; omega, fun q hq => ?_⟩
    simp only [List.tail_cons] at hq ⊢
    rw [h2 q (by omega), show s.length + 1 - 1 - q = (s.length - 1 - q) + 1 by omega]
    rfl
theorem rp_hd {st : Nat → Int32} {s : List Int32} (h : rp st s) (h0 : s ≠ []) : st (s.length - 1) = s.headD 0 := by
  cases s with
  | nil => exact absurd rfl h0
  | cons a s =>
    rw [h.2 _ (by simp only [List.length_cons]; omega)]
    simp only [List.length_cons, Nat.add_sub_cancel, Nat.sub_self]
    rfl
theorem lay_psh {R : xS} {st st' : Nat → Int32} {m : Nat} {v : Int32} (hv : v = nI (m + 1)) : s_up (a_up (stR R st m) 5 st') 6 v = stR R st' (m + 1) := by
  rw [hv]
  show (va_up (va_up R.1 6 _) 6 _, va_up (va_up R.2 5 st) 5 st') = _
  have h1 := congrArg Prod.fst (s_up_u (X := R) (i := 6) (v := nI m) (w := nI (m + 1)))
  have h2 := congrArg Prod.snd (a_up_u (X := R) (i := 5) (f := st) (g := st'))
  exact Prod.ext h1 h2
theorem lay_pop {R : xS} {st : Nat → Int32} {m m' : Nat} {v : Int32} (hv : v = nI m') : s_up (stR R st m) 6 v = stR R st m' := by
  rw [hv]
  have h1 := congrArg Prod.fst (s_up_u (X := R) (i := 6) (v := nI m) (w := nI m'))
  exact Prod.ext h1 rfl
variable {st : Nat → Int32} {s : List Int32}
theorem c_X3_push (hst : l.stackTraces = false) (hR : xx_w br (layR br (stR R st s.length)) A) (hrp : rp st s) (v : Int32) : xx_C G l yX3_push mX3_push 0 0 0 0 [.ref br, .int v] A n (xx_wr none n (fun A' => ∃ st', rp st' (psh v s) ∧ xx_w br (layR br (stR R st' (psh v s).length)) A' ∧ xx_same br (br + 6) A A')) := by
  have hl4 := hrp.1
  have el : ((stR R st s.length).1 6).toInt = s.length := i_n (by omega)
  have el2 : (va_up R.1 6 (nI s.length) 6).toInt = s.length := el
  have e400 := i_400
  refine J_C hst (by decide +kernel) rfl rfl rfl (Nat.le_of_ble_eq_true rfl) ?_
  show xx_J _ _ _ _ _ _ _ _ 0 [(0, _), (1, _)] [] _ _ _ _
  refine J_aload_n dX3_push_0 rfl rfl ?_
  refine J_getf dX3_push_1 fl_X3_31 (hR.at 0 rfl) rfl ?_
  refine J_sipush (v := 400) dX3_push_4 (by decide) ?_
  refine J_icmp_ge (tgt := 30) dX3_push_7 rfl (fun h7 => ?_) (fun h7 => ?_)
  · have hge : 400 ≤ s.length := by
      have z : (400 : Int32) ≤ nI s.length := h7
      rw [i_le, i_n (by omega), i_400] at z
      omega
    refine J_return dX3_push_30 rfl (by decide) (by decide) ?_
    exact ⟨rfl, rfl, _, by unfold psh; rw [if_neg (by omega)]; exact hrp, by unfold psh; rw [if_neg (by omega)]; exact hR, (xx_same.rf (b := br) (e := br + 6))⟩
  · have hlt : s.length < 400 := by
      have z : ¬ (400 : Int32) ≤ nI s.length := h7
      rw [i_le, i_n (by omega), i_400] at z
      omega
    refine J_aload_n dX3_push_10 rfl rfl ?_
    refine J_getf dX3_push_11 fl_X3_34 (hR.at 0 rfl) rfl ?_
    refine J_aload_n dX3_push_14 rfl rfl ?_
    refine J_getf dX3_push_15 fl_X3_31 (hR.at 0 rfl) rfl ?_
    refine J_iload_n dX3_push_18 rfl rfl ?_
    refine J_iastN s.length dX3_push_19 (hR.at 5 rfl) rfl (by omega) (by decide) ?_
    refine J_gen (wR_a5 hR _) ((xx_same.rf (b := br) (e := br + 6)).put (by omega) (by omega) _) (fun A1 w1 s1 o1 => ?_)
    refine J_aload_n dX3_push_20 rfl rfl ?_
    refine J_dup dX3_push_21 rfl ?_
    refine J_getf dX3_push_22 fl_X3_31 (w1.at 0 rfl) rfl ?_
    refine J_iconst (v := 1) dX3_push_25 (by decide) ?_
    refine J_iadd dX3_push_26 ?_
    refine J_putf dX3_push_27 fp_X3_31 (fun _ => ⟨rfl, rfl⟩) (w1.at 0 rfl) (Nat.le_of_ble_eq_true rfl) ?_
    refine J_gen (wR_s0_6 w1 _) (s1.put (by omega) (by omega) _) (fun A2 w2 s2 o2 => ?_)
    refine J_return dX3_push_30 rfl (by decide) (by decide) ?_
    exact ⟨rfl, rfl, upd st s.length v, by unfold psh; rw [if_pos (by omega)]; exact rp_psh hrp (by omega) v, by unfold psh; rw [if_pos (by omega)]; exact (lay_psh (nI_1 s.length) : s_up (a_up (stR R st s.length) 5 (upd st s.length v)) 6 (nI s.length + 1) = _) ▸ w2, s2⟩
theorem c_X3_pop (hst : l.stackTraces = false) (hR : xx_w br (layR br (stR R st s.length)) A) (hrp : rp st s) : xx_C G l yX3_pop mX3_pop 0 0 0 0 [.ref br] A n (xx_wr (some (.int (s.headD 0))) n (fun A' => rp st s.tail ∧ xx_w br (layR br (stR R st s.tail.length)) A' ∧ xx_same br (br + 6) A A')) := by
  have hl4 := hrp.1
  have el : ((stR R st s.length).1 6).toInt = s.length := i_n (by omega)
  have el2 : (va_up R.1 6 (nI s.length) 6).toInt = s.length := el
  have e400 := i_400
  refine J_C hst (by decide +kernel) rfl rfl rfl (Nat.le_of_ble_eq_true rfl) ?_
  show xx_J _ _ _ _ _ _ _ _ 0 [(0, _)] [] _ _ _ _
  refine J_aload_n dX3_pop_0 rfl rfl ?_
  refine J_getf dX3_pop_1 fl_X3_31 (hR.at 0 rfl) rfl ?_
  refine J_if_gt (tgt := 9) dX3_pop_4 rfl (fun h4 => ?_) (fun h4 => ?_)
  · have hlt : 0 < s.length := by
      have z : (0 : Int32) < nI s.length := h4
      rw [i_lt, i_n (by omega), i_0] at z
      omega
    have hs0 : s ≠ [] := fun z => by rw [z] at hlt; exact absurd hlt (by decide)
    have hm1 : nI s.length - 1 = nI (s.length - 1) := by
      conv => lhs; rw [show s.length = (s.length - 1) + 1 by omega]
      exact sub1 _
    refine J_aload_n dX3_pop_9 rfl rfl ?_
    refine J_dup dX3_pop_10 rfl ?_
    refine J_getf dX3_pop_11 fl_X3_31 (hR.at 0 rfl) rfl ?_
    refine J_iconst (v := 1) dX3_pop_14 (by decide) ?_
    refine J_isub dX3_pop_15 ?_
    refine J_putf dX3_pop_16 fp_X3_31 (fun _ => ⟨rfl, rfl⟩) (hR.at 0 rfl) (Nat.le_of_ble_eq_true rfl) ?_
    refine J_gen (wR_s0_6 hR _) ((xx_same.rf (b := br) (e := br + 6)).put (by omega) (by omega) _) (fun A1 w1 s1 o1 => ?_)
    refine J_aload_n dX3_pop_19 rfl rfl ?_
    refine J_getf dX3_pop_20 fl_X3_34 (w1.at 0 rfl) rfl ?_
    refine J_aload_n dX3_pop_23 rfl rfl ?_
    refine J_getf dX3_pop_24 fl_X3_31 (w1.at 0 rfl) rfl ?_
    refine J_ialdN (s.length - 1) dX3_pop_27 (w1.at 5 rfl) hm1 (by omega) (by decide) ?_
    refine J_ireturn dX3_pop_28 rfl rfl (by decide) (by decide) ?_
    refine ⟨congrArg (fun v => Sum.inl (some (Value.int v))) (rp_hd hrp hs0), rfl, rp_tl hrp, ?_, s1⟩
    rw [List.length_tail]
    exact (lay_pop hm1 : s_up (stR R st s.length) 6 (nI s.length - 1) = _) ▸ w1
  · have hs0 : s = [] := by
      have z : ¬ (0 : Int32) < nI s.length := h4
      rw [i_lt, i_n (by omega), i_0] at z
      exact List.length_eq_zero_iff.mp (by omega)
    refine J_iconst (v := 0) dX3_pop_7 (by decide) ?_
    refine J_ireturn dX3_pop_8 rfl rfl (by decide) (by decide) ?_
    subst hs0
    exact ⟨rfl, rfl, hrp, hR, xx_same.rf⟩
end XRU
