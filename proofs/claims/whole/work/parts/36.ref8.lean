/-! THE REFERENCE: rules -/
section XS8
variable {G : xx_G} {l : Launch} {A A' : xx_H} {n : Nat} {bm bp bs bn ba : Nat} {vL nl : Nat → Int64} {M M' M1 P S S1 : xS}
def askR (S P : xS) (i j : Nat) (order wi : Int32) : Int32 := if order = 100 then wi else if order = 10 then S.1 0 - 1 else if order = 12 then (if 1 < S.2 10 (i * 12 + j) then 1 else 0) else match order.toInt with
  | 1 => P.2 2 (if wi = 6 then i else j)
  | 2 => S.2 1 (if wi = 6 then i else j)
  | 11 => S.2 2 (if wi = 6 then i else j)
  | 13 => S.2 6 (if wi = 6 then i else j)
  | 14 => S.2 7 (if wi = 6 then i else j)
  | _ => S.2 5 (if wi = 6 then i else j)
def rckR (order a b : Int32) : Int32 := match order.toInt with
  | 101 => a + b
  | 102 => a - b
  | 103 => a * b
  | 104 => if b = 0 then 0 else a / b
  | 18 => if b < a then b else a
  | 19 => if a < b then b else a
  | 106 => if a < b then 1 else 0
  | 107 => if b < a then 1 else 0
  | 108 => if a = b then 1 else 0
  | 109 => if a ≤ b then 1 else 0
  | 110 => if b ≤ a then 1 else 0
  | 16 => a &&& b
  | _ => a ||| b
abbrev sdd (o : Int32) : Prop := o = 1 ∨ o = 2 ∨ o = 11 ∨ o = 13 ∨ o = 14 ∨ o = 4
abbrev asd (o : Int32) : Prop := o = 100 ∨ o = 10 ∨ o = 12 ∨ sdd o
/-- one step on a stack, if it can be done -/
def stW (S P : xS) (i j : Nat) (o w : Int32) (s : List Int32) : Option (List Int32) := if asd o then some (askR S P i j o w :: s) else if o = 105 then (match s with
  | a :: s => some (-a :: s)
  | [] => none) else if o = 15 then (match s with
  | a :: s => some ((1 - a) :: s)
  | [] => none) else (match s with
  | b :: a :: s => some (rckR o a b :: s)
  | _ => none)
def runR (S P : xS) (i j : Nat) : Nat → Nat → List Int32 → Option (List Int32)
  | 0, _, s => some s
  | d + 1, p, s => (stW S P i j (P.2 7 p) (P.2 8 p) s).bind (runR S P i j d (p + 1))
theorem runR_s {i j t p : Nat} {s sf : List Int32} (h : runR S P i j (t - p) p s = some sf) (hp : p < t) : ∃ s1, stW S P i j (P.2 7 p) (P.2 8 p) s = some s1 ∧ runR S P i j (t - (p + 1)) (p + 1) s1 = some sf := by
  rw [show t - p = (t - (p + 1)) + 1 by omega] at h
  exact Option.bind_eq_some_iff.mp h
theorem lk_dflt {x : Int} (h : ¬ x = 16 ∧ ¬ x = 18 ∧ ¬ x = 19 ∧ ¬ x = 101 ∧ ¬ x = 102 ∧ ¬ x = 103 ∧ ¬ x = 104 ∧ ¬ x = 106 ∧ ¬ x = 107 ∧ ¬ x = 108 ∧ ¬ x = 109 ∧ ¬ x = 110) : Op.lookupswitch.offset (#[(16, 213), (18, 131), (19, 137), (101, 107), (102, 111), (103, 115), (104, 119), (106, 143), (107, 157), (108, 171), (109, 185), (110, 199)] : Array (Int × Int)).toList 217 x = 217 := by
  obtain ⟨h1, h2, h3, h4, h5, h6, h7, h8, h9, h10, h11, h12⟩ := h
  simp only [Op.lookupswitch.offset]
  simp [h1, h2, h3, h4, h5, h6, h7, h8, h9, h10, h11, h12, Ne.symm h1, Ne.symm h2, Ne.symm h3, Ne.symm h4, Ne.symm h5, Ne.symm h6, Ne.symm h7, Ne.symm h8, Ne.symm h9, Ne.symm h10, Ne.symm h11, Ne.symm h12]
set_option maxHeartbeats 4000000 in
theorem c_X9_ask (hst : l.stackTraces = false) (hM : xx_w bm (layM bp vL bn ba bm M) A) (hN : xx_w bp (layN nl bp P) A) (hS : xx_w bs (layS bs S) A) {q : Nat} {x : Int32} (hx : x = nI q) (hq : q < 6) {i j : Nat} (hr : S.2 11 q = nI i) (hi : i < 12) (hl : S.2 12 q = nI j) (hj : j < 12) (order wi : Int32) : xx_C G l yX9_ask mX9_ask 1 22 0 0 [.ref bm, .ref bs, .int x, .int order, .int wi] A n (xx_ro (some (.int (askR S P i j order wi))) A n) := by
  refine J_C hst (by decide +kernel) rfl rfl rfl (Nat.le_of_ble_eq_true rfl) ?_
  show xx_J _ _ _ _ _ _ _ _ 0 [(0, _), (1, _), (2, _), (3, _), (4, _)] [] _ _ _ _
  refine J_iload_n dX9_ask_0 rfl rfl ?_
  refine J_bipush (v := 100) dX9_ask_1 (by decide) ?_
  refine J_icmp_ne (tgt := 9) dX9_ask_3 rfl (fun h3 => ?_) (fun h3 => ?_)
  · refine J_iload_n dX9_ask_9 rfl rfl ?_
    refine J_bipush (v := 10) dX9_ask_10 (by decide) ?_
    refine J_icmp_ne (tgt := 22) dX9_ask_12 rfl (fun h12 => ?_) (fun h12 => ?_)
    · refine J_iload_n dX9_ask_22 rfl rfl ?_
      refine J_bipush (v := 12) dX9_ask_23 (by decide) ?_
      refine J_icmp_ne (tgt := 54) dX9_ask_25 rfl (fun h25 => ?_) (fun h25 => ?_)
      · refine J_iload dX9_ask_54 rfl ?_
        refine J_bipush (v := 6) dX9_ask_56 (by decide) ?_
        refine J_icmp_ne (tgt := 70) dX9_ask_58 rfl (fun h58 => ?_) (fun h58 => ?_)
        · refine J_aload_n dX9_ask_70 rfl rfl ?_
          refine J_getf dX9_ask_71 fl_X9_166 (hS.at 0 rfl) rfl ?_
          refine J_iload_n dX9_ask_74 rfl rfl ?_
          refine J_ialdN q dX9_ask_75 (hS.at 12 rfl) hx (by omega) (by decide) ?_
          refine J_istore (L' := [(5, _), (0, _), (1, _), (2, _), (3, _), (4, _)]) dX9_ask_76 (by decide) rfl ?_
          refine J_iload_n dX9_ask_78 rfl rfl ?_
          have hsw79 : (order).toInt = 1 ∨ (order).toInt = 2 ∨ (order).toInt = 3 ∨ (order).toInt = 4 ∨ (order).toInt = 5 ∨ (order).toInt = 6 ∨ (order).toInt = 7 ∨ (order).toInt = 8 ∨ (order).toInt = 9 ∨ (order).toInt = 10 ∨ (order).toInt = 11 ∨ (order).toInt = 12 ∨ (order).toInt = 13 ∨ (order).toInt = 14 ∨ ((order).toInt < 1 ∨ 14 < (order).toInt) := by omega
          rcases hsw79 with hs79 | hs79 | hs79 | hs79 | hs79 | hs79 | hs79 | hs79 | hs79 | hs79 | hs79 | hs79 | hs79 | hs79 | hs79
          · refine J_tableIn (tgt := 148) dX9_ask_79 (by omega) (by omega) (by rw [hs79]; rfl) rfl ?_
            refine J_aload_n dX9_ask_148 rfl rfl ?_
            refine J_getf dX9_ask_149 fl_X9_20 (hM.at 0 rfl) rfl ?_
            refine J_getf dX9_ask_152 fl_X9_83 (hN.at 0 rfl) rfl ?_
            refine J_iload dX9_ask_155 rfl ?_
            refine J_ialdN (if wi = 6 then i else j) dX9_ask_157 (hN.at 2 rfl) (by first | (rw [if_pos h58]; exact hr) | (rw [if_neg h58]; exact hl)) (by split <;> omega) (by decide) ?_
            refine J_ireturn dX9_ask_158 rfl rfl (by decide) (by decide) ?_
            refine ⟨congrArg (fun v => Sum.inl (some (Value.int v))) ?_, rfl, rfl⟩
            unfold askR
            first
              | (rw [if_pos h3]; done)
              | (rw [if_neg h3, if_pos h12]; done)
              | (rw [if_neg h3, if_neg h12, if_pos h25]; first | (rw [if_neg (Int32.not_lt.mpr h45)]; done) | (rw [if_pos (Int32.not_le.mp h45)]; done))
              | (rw [if_neg h3, if_neg h12, if_neg h25]; first | (simp only [hs79, if_pos h58]; done) | (simp only [hs79, if_neg h58]; done) | ((first | rw [if_pos h58] | rw [if_neg h58]); split <;> first | rfl | (exfalso; omega)))
          · refine J_tableIn (tgt := 159) dX9_ask_79 (by omega) (by omega) (by rw [hs79]; rfl) rfl ?_
            refine J_aload_n dX9_ask_159 rfl rfl ?_
            refine J_getf dX9_ask_160 fl_X9_76 (hS.at 0 rfl) rfl ?_
            refine J_iload dX9_ask_163 rfl ?_
            refine J_ialdN (if wi = 6 then i else j) dX9_ask_165 (hS.at 1 rfl) (by first | (rw [if_pos h58]; exact hr) | (rw [if_neg h58]; exact hl)) (by split <;> omega) (by decide) ?_
            refine J_ireturn dX9_ask_166 rfl rfl (by decide) (by decide) ?_
            refine ⟨congrArg (fun v => Sum.inl (some (Value.int v))) ?_, rfl, rfl⟩
            unfold askR
            first
              | (rw [if_pos h3]; done)
              | (rw [if_neg h3, if_pos h12]; done)
              | (rw [if_neg h3, if_neg h12, if_pos h25]; first | (rw [if_neg (Int32.not_lt.mpr h45)]; done) | (rw [if_pos (Int32.not_le.mp h45)]; done))
              | (rw [if_neg h3, if_neg h12, if_neg h25]; first | (simp only [hs79, if_pos h58]; done) | (simp only [hs79, if_neg h58]; done) | ((first | rw [if_pos h58] | rw [if_neg h58]); split <;> first | rfl | (exfalso; omega)))
          · refine J_tableIn (tgt := 191) dX9_ask_79 (by omega) (by omega) (by rw [hs79]; rfl) rfl ?_
            refine J_aload_n dX9_ask_191 rfl rfl ?_
            refine J_getf dX9_ask_192 fl_X9_117 (hS.at 0 rfl) rfl ?_
            refine J_iload dX9_ask_195 rfl ?_
            refine J_ialdN (if wi = 6 then i else j) dX9_ask_197 (hS.at 5 rfl) (by first | (rw [if_pos h58]; exact hr) | (rw [if_neg h58]; exact hl)) (by split <;> omega) (by decide) ?_
            refine J_ireturn dX9_ask_198 rfl rfl (by decide) (by decide) ?_
            refine ⟨congrArg (fun v => Sum.inl (some (Value.int v))) ?_, rfl, rfl⟩
            unfold askR
            first
              | (rw [if_pos h3]; done)
              | (rw [if_neg h3, if_pos h12]; done)
              | (rw [if_neg h3, if_neg h12, if_pos h25]; first | (rw [if_neg (Int32.not_lt.mpr h45)]; done) | (rw [if_pos (Int32.not_le.mp h45)]; done))
              | (rw [if_neg h3, if_neg h12, if_neg h25]; first | (simp only [hs79, if_pos h58]; done) | (simp only [hs79, if_neg h58]; done) | ((first | rw [if_pos h58] | rw [if_neg h58]); split <;> first | rfl | (exfalso; omega)))
          · refine J_tableIn (tgt := 191) dX9_ask_79 (by omega) (by omega) (by rw [hs79]; rfl) rfl ?_
            refine J_aload_n dX9_ask_191 rfl rfl ?_
            refine J_getf dX9_ask_192 fl_X9_117 (hS.at 0 rfl) rfl ?_
            refine J_iload dX9_ask_195 rfl ?_
            refine J_ialdN (if wi = 6 then i else j) dX9_ask_197 (hS.at 5 rfl) (by first | (rw [if_pos h58]; exact hr) | (rw [if_neg h58]; exact hl)) (by split <;> omega) (by decide) ?_
            refine J_ireturn dX9_ask_198 rfl rfl (by decide) (by decide) ?_
            refine ⟨congrArg (fun v => Sum.inl (some (Value.int v))) ?_, rfl, rfl⟩
            unfold askR
            first
              | (rw [if_pos h3]; done)
              | (rw [if_neg h3, if_pos h12]; done)
              | (rw [if_neg h3, if_neg h12, if_pos h25]; first | (rw [if_neg (Int32.not_lt.mpr h45)]; done) | (rw [if_pos (Int32.not_le.mp h45)]; done))
              | (rw [if_neg h3, if_neg h12, if_neg h25]; first | (simp only [hs79, if_pos h58]; done) | (simp only [hs79, if_neg h58]; done) | ((first | rw [if_pos h58] | rw [if_neg h58]); split <;> first | rfl | (exfalso; omega)))
          · refine J_tableIn (tgt := 191) dX9_ask_79 (by omega) (by omega) (by rw [hs79]; rfl) rfl ?_
            refine J_aload_n dX9_ask_191 rfl rfl ?_
            refine J_getf dX9_ask_192 fl_X9_117 (hS.at 0 rfl) rfl ?_
            refine J_iload dX9_ask_195 rfl ?_
            refine J_ialdN (if wi = 6 then i else j) dX9_ask_197 (hS.at 5 rfl) (by first | (rw [if_pos h58]; exact hr) | (rw [if_neg h58]; exact hl)) (by split <;> omega) (by decide) ?_
            refine J_ireturn dX9_ask_198 rfl rfl (by decide) (by decide) ?_
            refine ⟨congrArg (fun v => Sum.inl (some (Value.int v))) ?_, rfl, rfl⟩
            unfold askR
            first
              | (rw [if_pos h3]; done)
              | (rw [if_neg h3, if_pos h12]; done)
              | (rw [if_neg h3, if_neg h12, if_pos h25]; first | (rw [if_neg (Int32.not_lt.mpr h45)]; done) | (rw [if_pos (Int32.not_le.mp h45)]; done))
              | (rw [if_neg h3, if_neg h12, if_neg h25]; first | (simp only [hs79, if_pos h58]; done) | (simp only [hs79, if_neg h58]; done) | ((first | rw [if_pos h58] | rw [if_neg h58]); split <;> first | rfl | (exfalso; omega)))
          · refine J_tableIn (tgt := 191) dX9_ask_79 (by omega) (by omega) (by rw [hs79]; rfl) rfl ?_
            refine J_aload_n dX9_ask_191 rfl rfl ?_
            refine J_getf dX9_ask_192 fl_X9_117 (hS.at 0 rfl) rfl ?_
            refine J_iload dX9_ask_195 rfl ?_
            refine J_ialdN (if wi = 6 then i else j) dX9_ask_197 (hS.at 5 rfl) (by first | (rw [if_pos h58]; exact hr) | (rw [if_neg h58]; exact hl)) (by split <;> omega) (by decide) ?_
            refine J_ireturn dX9_ask_198 rfl rfl (by decide) (by decide) ?_
            refine ⟨congrArg (fun v => Sum.inl (some (Value.int v))) ?_, rfl, rfl⟩
            unfold askR
            first
              | (rw [if_pos h3]; done)
              | (rw [if_neg h3, if_pos h12]; done)
              | (rw [if_neg h3, if_neg h12, if_pos h25]; first | (rw [if_neg (Int32.not_lt.mpr h45)]; done) | (rw [if_pos (Int32.not_le.mp h45)]; done))
              | (rw [if_neg h3, if_neg h12, if_neg h25]; first | (simp only [hs79, if_pos h58]; done) | (simp only [hs79, if_neg h58]; done) | ((first | rw [if_pos h58] | rw [if_neg h58]); split <;> first | rfl | (exfalso; omega)))
          · refine J_tableIn (tgt := 191) dX9_ask_79 (by omega) (by omega) (by rw [hs79]; rfl) rfl ?_
            refine J_aload_n dX9_ask_191 rfl rfl ?_
            refine J_getf dX9_ask_192 fl_X9_117 (hS.at 0 rfl) rfl ?_
            refine J_iload dX9_ask_195 rfl ?_
            refine J_ialdN (if wi = 6 then i else j) dX9_ask_197 (hS.at 5 rfl) (by first | (rw [if_pos h58]; exact hr) | (rw [if_neg h58]; exact hl)) (by split <;> omega) (by decide) ?_
            refine J_ireturn dX9_ask_198 rfl rfl (by decide) (by decide) ?_
            refine ⟨congrArg (fun v => Sum.inl (some (Value.int v))) ?_, rfl, rfl⟩
            unfold askR
            first
              | (rw [if_pos h3]; done)
              | (rw [if_neg h3, if_pos h12]; done)
              | (rw [if_neg h3, if_neg h12, if_pos h25]; first | (rw [if_neg (Int32.not_lt.mpr h45)]; done) | (rw [if_pos (Int32.not_le.mp h45)]; done))
              | (rw [if_neg h3, if_neg h12, if_neg h25]; first | (simp only [hs79, if_pos h58]; done) | (simp only [hs79, if_neg h58]; done) | ((first | rw [if_pos h58] | rw [if_neg h58]); split <;> first | rfl | (exfalso; omega)))
          · refine J_tableIn (tgt := 191) dX9_ask_79 (by omega) (by omega) (by rw [hs79]; rfl) rfl ?_
            refine J_aload_n dX9_ask_191 rfl rfl ?_
            refine J_getf dX9_ask_192 fl_X9_117 (hS.at 0 rfl) rfl ?_
            refine J_iload dX9_ask_195 rfl ?_
            refine J_ialdN (if wi = 6 then i else j) dX9_ask_197 (hS.at 5 rfl) (by first | (rw [if_pos h58]; exact hr) | (rw [if_neg h58]; exact hl)) (by split <;> omega) (by decide) ?_
            refine J_ireturn dX9_ask_198 rfl rfl (by decide) (by decide) ?_
            refine ⟨congrArg (fun v => Sum.inl (some (Value.int v))) ?_, rfl, rfl⟩
            unfold askR
            first
              | (rw [if_pos h3]; done)
              | (rw [if_neg h3, if_pos h12]; done)
              | (rw [if_neg h3, if_neg h12, if_pos h25]; first | (rw [if_neg (Int32.not_lt.mpr h45)]; done) | (rw [if_pos (Int32.not_le.mp h45)]; done))
              | (rw [if_neg h3, if_neg h12, if_neg h25]; first | (simp only [hs79, if_pos h58]; done) | (simp only [hs79, if_neg h58]; done) | ((first | rw [if_pos h58] | rw [if_neg h58]); split <;> first | rfl | (exfalso; omega)))
          · refine J_tableIn (tgt := 191) dX9_ask_79 (by omega) (by omega) (by rw [hs79]; rfl) rfl ?_
            refine J_aload_n dX9_ask_191 rfl rfl ?_
            refine J_getf dX9_ask_192 fl_X9_117 (hS.at 0 rfl) rfl ?_
            refine J_iload dX9_ask_195 rfl ?_
            refine J_ialdN (if wi = 6 then i else j) dX9_ask_197 (hS.at 5 rfl) (by first | (rw [if_pos h58]; exact hr) | (rw [if_neg h58]; exact hl)) (by split <;> omega) (by decide) ?_
            refine J_ireturn dX9_ask_198 rfl rfl (by decide) (by decide) ?_
            refine ⟨congrArg (fun v => Sum.inl (some (Value.int v))) ?_, rfl, rfl⟩
            unfold askR
            first
              | (rw [if_pos h3]; done)
              | (rw [if_neg h3, if_pos h12]; done)
              | (rw [if_neg h3, if_neg h12, if_pos h25]; first | (rw [if_neg (Int32.not_lt.mpr h45)]; done) | (rw [if_pos (Int32.not_le.mp h45)]; done))
              | (rw [if_neg h3, if_neg h12, if_neg h25]; first | (simp only [hs79, if_pos h58]; done) | (simp only [hs79, if_neg h58]; done) | ((first | rw [if_pos h58] | rw [if_neg h58]); split <;> first | rfl | (exfalso; omega)))
          · refine J_tableIn (tgt := 191) dX9_ask_79 (by omega) (by omega) (by rw [hs79]; rfl) rfl ?_
            refine J_aload_n dX9_ask_191 rfl rfl ?_
            refine J_getf dX9_ask_192 fl_X9_117 (hS.at 0 rfl) rfl ?_
            refine J_iload dX9_ask_195 rfl ?_
            refine J_ialdN (if wi = 6 then i else j) dX9_ask_197 (hS.at 5 rfl) (by first | (rw [if_pos h58]; exact hr) | (rw [if_neg h58]; exact hl)) (by split <;> omega) (by decide) ?_
            refine J_ireturn dX9_ask_198 rfl rfl (by decide) (by decide) ?_
            refine ⟨congrArg (fun v => Sum.inl (some (Value.int v))) ?_, rfl, rfl⟩
            unfold askR
            first
              | (rw [if_pos h3]; done)
              | (rw [if_neg h3, if_pos h12]; done)
              | (rw [if_neg h3, if_neg h12, if_pos h25]; first | (rw [if_neg (Int32.not_lt.mpr h45)]; done) | (rw [if_pos (Int32.not_le.mp h45)]; done))
              | (rw [if_neg h3, if_neg h12, if_neg h25]; first | (simp only [hs79, if_pos h58]; done) | (simp only [hs79, if_neg h58]; done) | ((first | rw [if_pos h58] | rw [if_neg h58]); split <;> first | rfl | (exfalso; omega)))
          · refine J_tableIn (tgt := 167) dX9_ask_79 (by omega) (by omega) (by rw [hs79]; rfl) rfl ?_
            refine J_aload_n dX9_ask_167 rfl rfl ?_
            refine J_getf dX9_ask_168 fl_X9_186 (hS.at 0 rfl) rfl ?_
            refine J_iload dX9_ask_171 rfl ?_
            refine J_ialdN (if wi = 6 then i else j) dX9_ask_173 (hS.at 2 rfl) (by first | (rw [if_pos h58]; exact hr) | (rw [if_neg h58]; exact hl)) (by split <;> omega) (by decide) ?_
            refine J_ireturn dX9_ask_174 rfl rfl (by decide) (by decide) ?_
            refine ⟨congrArg (fun v => Sum.inl (some (Value.int v))) ?_, rfl, rfl⟩
            unfold askR
            first
              | (rw [if_pos h3]; done)
              | (rw [if_neg h3, if_pos h12]; done)
              | (rw [if_neg h3, if_neg h12, if_pos h25]; first | (rw [if_neg (Int32.not_lt.mpr h45)]; done) | (rw [if_pos (Int32.not_le.mp h45)]; done))
              | (rw [if_neg h3, if_neg h12, if_neg h25]; first | (simp only [hs79, if_pos h58]; done) | (simp only [hs79, if_neg h58]; done) | ((first | rw [if_pos h58] | rw [if_neg h58]); split <;> first | rfl | (exfalso; omega)))
          · refine J_tableIn (tgt := 191) dX9_ask_79 (by omega) (by omega) (by rw [hs79]; rfl) rfl ?_
            refine J_aload_n dX9_ask_191 rfl rfl ?_
            refine J_getf dX9_ask_192 fl_X9_117 (hS.at 0 rfl) rfl ?_
            refine J_iload dX9_ask_195 rfl ?_
            refine J_ialdN (if wi = 6 then i else j) dX9_ask_197 (hS.at 5 rfl) (by first | (rw [if_pos h58]; exact hr) | (rw [if_neg h58]; exact hl)) (by split <;> omega) (by decide) ?_
            refine J_ireturn dX9_ask_198 rfl rfl (by decide) (by decide) ?_
            refine ⟨congrArg (fun v => Sum.inl (some (Value.int v))) ?_, rfl, rfl⟩
            unfold askR
            first
              | (rw [if_pos h3]; done)
              | (rw [if_neg h3, if_pos h12]; done)
              | (rw [if_neg h3, if_neg h12, if_pos h25]; first | (rw [if_neg (Int32.not_lt.mpr h45)]; done) | (rw [if_pos (Int32.not_le.mp h45)]; done))
              | (rw [if_neg h3, if_neg h12, if_neg h25]; first | (simp only [hs79, if_pos h58]; done) | (simp only [hs79, if_neg h58]; done) | ((first | rw [if_pos h58] | rw [if_neg h58]); split <;> first | rfl | (exfalso; omega)))
          · refine J_tableIn (tgt := 175) dX9_ask_79 (by omega) (by omega) (by rw [hs79]; rfl) rfl ?_
            refine J_aload_n dX9_ask_175 rfl rfl ?_
            refine J_getf dX9_ask_176 fl_X9_142 (hS.at 0 rfl) rfl ?_
            refine J_iload dX9_ask_179 rfl ?_
            refine J_ialdN (if wi = 6 then i else j) dX9_ask_181 (hS.at 6 rfl) (by first | (rw [if_pos h58]; exact hr) | (rw [if_neg h58]; exact hl)) (by split <;> omega) (by decide) ?_
            refine J_ireturn dX9_ask_182 rfl rfl (by decide) (by decide) ?_
            refine ⟨congrArg (fun v => Sum.inl (some (Value.int v))) ?_, rfl, rfl⟩
            unfold askR
            first
              | (rw [if_pos h3]; done)
              | (rw [if_neg h3, if_pos h12]; done)
              | (rw [if_neg h3, if_neg h12, if_pos h25]; first | (rw [if_neg (Int32.not_lt.mpr h45)]; done) | (rw [if_pos (Int32.not_le.mp h45)]; done))
              | (rw [if_neg h3, if_neg h12, if_neg h25]; first | (simp only [hs79, if_pos h58]; done) | (simp only [hs79, if_neg h58]; done) | ((first | rw [if_pos h58] | rw [if_neg h58]); split <;> first | rfl | (exfalso; omega)))
          · refine J_tableIn (tgt := 183) dX9_ask_79 (by omega) (by omega) (by rw [hs79]; rfl) rfl ?_
            refine J_aload_n dX9_ask_183 rfl rfl ?_
            refine J_getf dX9_ask_184 fl_X9_157 (hS.at 0 rfl) rfl ?_
            refine J_iload dX9_ask_187 rfl ?_
            refine J_ialdN (if wi = 6 then i else j) dX9_ask_189 (hS.at 7 rfl) (by first | (rw [if_pos h58]; exact hr) | (rw [if_neg h58]; exact hl)) (by split <;> omega) (by decide) ?_
            refine J_ireturn dX9_ask_190 rfl rfl (by decide) (by decide) ?_
            refine ⟨congrArg (fun v => Sum.inl (some (Value.int v))) ?_, rfl, rfl⟩
            unfold askR
            first
              | (rw [if_pos h3]; done)
              | (rw [if_neg h3, if_pos h12]; done)
              | (rw [if_neg h3, if_neg h12, if_pos h25]; first | (rw [if_neg (Int32.not_lt.mpr h45)]; done) | (rw [if_pos (Int32.not_le.mp h45)]; done))
              | (rw [if_neg h3, if_neg h12, if_neg h25]; first | (simp only [hs79, if_pos h58]; done) | (simp only [hs79, if_neg h58]; done) | ((first | rw [if_pos h58] | rw [if_neg h58]); split <;> first | rfl | (exfalso; omega)))
          · refine J_tableOut (tgt := 191) dX9_ask_79 hs79 rfl ?_
            refine J_aload_n dX9_ask_191 rfl rfl ?_
            refine J_getf dX9_ask_192 fl_X9_117 (hS.at 0 rfl) rfl ?_
            refine J_iload dX9_ask_195 rfl ?_
            refine J_ialdN (if wi = 6 then i else j) dX9_ask_197 (hS.at 5 rfl) (by first | (rw [if_pos h58]; exact hr) | (rw [if_neg h58]; exact hl)) (by split <;> omega) (by decide) ?_
            refine J_ireturn dX9_ask_198 rfl rfl (by decide) (by decide) ?_
            refine ⟨congrArg (fun v => Sum.inl (some (Value.int v))) ?_, rfl, rfl⟩
            unfold askR
            first
              | (rw [if_pos h3]; done)
              | (rw [if_neg h3, if_pos h12]; done)
              | (rw [if_neg h3, if_neg h12, if_pos h25]; first | (rw [if_neg (Int32.not_lt.mpr h45)]; done) | (rw [if_pos (Int32.not_le.mp h45)]; done))
              | (rw [if_neg h3, if_neg h12, if_neg h25]; first | (simp only [hs79, if_pos h58]; done) | (simp only [hs79, if_neg h58]; done) | ((first | rw [if_pos h58] | rw [if_neg h58]); split <;> first | rfl | (exfalso; omega)))
        · refine J_aload_n dX9_ask_61 rfl rfl ?_
          refine J_getf dX9_ask_62 fl_X9_163 (hS.at 0 rfl) rfl ?_
          refine J_iload_n dX9_ask_65 rfl rfl ?_
          refine J_ialdN q dX9_ask_66 (hS.at 11 rfl) hx (by omega) (by decide) ?_
          refine J_goto (tgt := 76) dX9_ask_67 rfl ?_
          refine J_istore (L' := [(5, _), (0, _), (1, _), (2, _), (3, _), (4, _)]) dX9_ask_76 (by decide) rfl ?_
          refine J_iload_n dX9_ask_78 rfl rfl ?_
          have hsw79 : (order).toInt = 1 ∨ (order).toInt = 2 ∨ (order).toInt = 3 ∨ (order).toInt = 4 ∨ (order).toInt = 5 ∨ (order).toInt = 6 ∨ (order).toInt = 7 ∨ (order).toInt = 8 ∨ (order).toInt = 9 ∨ (order).toInt = 10 ∨ (order).toInt = 11 ∨ (order).toInt = 12 ∨ (order).toInt = 13 ∨ (order).toInt = 14 ∨ ((order).toInt < 1 ∨ 14 < (order).toInt) := by omega
          rcases hsw79 with hs79 | hs79 | hs79 | hs79 | hs79 | hs79 | hs79 | hs79 | hs79 | hs79 | hs79 | hs79 | hs79 | hs79 | hs79
          · refine J_tableIn (tgt := 148) dX9_ask_79 (by omega) (by omega) (by rw [hs79]; rfl) rfl ?_
            refine J_aload_n dX9_ask_148 rfl rfl ?_
            refine J_getf dX9_ask_149 fl_X9_20 (hM.at 0 rfl) rfl ?_
            refine J_getf dX9_ask_152 fl_X9_83 (hN.at 0 rfl) rfl ?_
            refine J_iload dX9_ask_155 rfl ?_
            refine J_ialdN (if wi = 6 then i else j) dX9_ask_157 (hN.at 2 rfl) (by first | (rw [if_pos h58]; exact hr) | (rw [if_neg h58]; exact hl)) (by split <;> omega) (by decide) ?_
            refine J_ireturn dX9_ask_158 rfl rfl (by decide) (by decide) ?_
            refine ⟨congrArg (fun v => Sum.inl (some (Value.int v))) ?_, rfl, rfl⟩
            unfold askR
            first
              | (rw [if_pos h3]; done)
              | (rw [if_neg h3, if_pos h12]; done)
              | (rw [if_neg h3, if_neg h12, if_pos h25]; first | (rw [if_neg (Int32.not_lt.mpr h45)]; done) | (rw [if_pos (Int32.not_le.mp h45)]; done))
              | (rw [if_neg h3, if_neg h12, if_neg h25]; first | (simp only [hs79, if_pos h58]; done) | (simp only [hs79, if_neg h58]; done) | ((first | rw [if_pos h58] | rw [if_neg h58]); split <;> first | rfl | (exfalso; omega)))
          · refine J_tableIn (tgt := 159) dX9_ask_79 (by omega) (by omega) (by rw [hs79]; rfl) rfl ?_
            refine J_aload_n dX9_ask_159 rfl rfl ?_
            refine J_getf dX9_ask_160 fl_X9_76 (hS.at 0 rfl) rfl ?_
            refine J_iload dX9_ask_163 rfl ?_
            refine J_ialdN (if wi = 6 then i else j) dX9_ask_165 (hS.at 1 rfl) (by first | (rw [if_pos h58]; exact hr) | (rw [if_neg h58]; exact hl)) (by split <;> omega) (by decide) ?_
            refine J_ireturn dX9_ask_166 rfl rfl (by decide) (by decide) ?_
            refine ⟨congrArg (fun v => Sum.inl (some (Value.int v))) ?_, rfl, rfl⟩
            unfold askR
            first
              | (rw [if_pos h3]; done)
              | (rw [if_neg h3, if_pos h12]; done)
              | (rw [if_neg h3, if_neg h12, if_pos h25]; first | (rw [if_neg (Int32.not_lt.mpr h45)]; done) | (rw [if_pos (Int32.not_le.mp h45)]; done))
              | (rw [if_neg h3, if_neg h12, if_neg h25]; first | (simp only [hs79, if_pos h58]; done) | (simp only [hs79, if_neg h58]; done) | ((first | rw [if_pos h58] | rw [if_neg h58]); split <;> first | rfl | (exfalso; omega)))
          · refine J_tableIn (tgt := 191) dX9_ask_79 (by omega) (by omega) (by rw [hs79]; rfl) rfl ?_
            refine J_aload_n dX9_ask_191 rfl rfl ?_
            refine J_getf dX9_ask_192 fl_X9_117 (hS.at 0 rfl) rfl ?_
            refine J_iload dX9_ask_195 rfl ?_
            refine J_ialdN (if wi = 6 then i else j) dX9_ask_197 (hS.at 5 rfl) (by first | (rw [if_pos h58]; exact hr) | (rw [if_neg h58]; exact hl)) (by split <;> omega) (by decide) ?_
            refine J_ireturn dX9_ask_198 rfl rfl (by decide) (by decide) ?_
            refine ⟨congrArg (fun v => Sum.inl (some (Value.int v))) ?_, rfl, rfl⟩
            unfold askR
            first
              | (rw [if_pos h3]; done)
              | (rw [if_neg h3, if_pos h12]; done)
              | (rw [if_neg h3, if_neg h12, if_pos h25]; first | (rw [if_neg (Int32.not_lt.mpr h45)]; done) | (rw [if_pos (Int32.not_le.mp h45)]; done))
              | (rw [if_neg h3, if_neg h12, if_neg h25]; first | (simp only [hs79, if_pos h58]; done) | (simp only [hs79, if_neg h58]; done) | ((first | rw [if_pos h58] | rw [if_neg h58]); split <;> first | rfl | (exfalso; omega)))
          · refine J_tableIn (tgt := 191) dX9_ask_79 (by omega) (by omega) (by rw [hs79]; rfl) rfl ?_
            refine J_aload_n dX9_ask_191 rfl rfl ?_
            refine J_getf dX9_ask_192 fl_X9_117 (hS.at 0 rfl) rfl ?_
            refine J_iload dX9_ask_195 rfl ?_
            refine J_ialdN (if wi = 6 then i else j) dX9_ask_197 (hS.at 5 rfl) (by first | (rw [if_pos h58]; exact hr) | (rw [if_neg h58]; exact hl)) (by split <;> omega) (by decide) ?_
            refine J_ireturn dX9_ask_198 rfl rfl (by decide) (by decide) ?_
            refine ⟨congrArg (fun v => Sum.inl (some (Value.int v))) ?_, rfl, rfl⟩
            unfold askR
            first
              | (rw [if_pos h3]; done)
              | (rw [if_neg h3, if_pos h12]; done)
              | (rw [if_neg h3, if_neg h12, if_pos h25]; first | (rw [if_neg (Int32.not_lt.mpr h45)]; done) | (rw [if_pos (Int32.not_le.mp h45)]; done))
              | (rw [if_neg h3, if_neg h12, if_neg h25]; first | (simp only [hs79, if_pos h58]; done) | (simp only [hs79, if_neg h58]; done) | ((first | rw [if_pos h58] | rw [if_neg h58]); split <;> first | rfl | (exfalso; omega)))
          · refine J_tableIn (tgt := 191) dX9_ask_79 (by omega) (by omega) (by rw [hs79]; rfl) rfl ?_
            refine J_aload_n dX9_ask_191 rfl rfl ?_
            refine J_getf dX9_ask_192 fl_X9_117 (hS.at 0 rfl) rfl ?_
            refine J_iload dX9_ask_195 rfl ?_
            refine J_ialdN (if wi = 6 then i else j) dX9_ask_197 (hS.at 5 rfl) (by first | (rw [if_pos h58]; exact hr) | (rw [if_neg h58]; exact hl)) (by split <;> omega) (by decide) ?_
            refine J_ireturn dX9_ask_198 rfl rfl (by decide) (by decide) ?_
            refine ⟨congrArg (fun v => Sum.inl (some (Value.int v))) ?_, rfl, rfl⟩
            unfold askR
            first
              | (rw [if_pos h3]; done)
              | (rw [if_neg h3, if_pos h12]; done)
              | (rw [if_neg h3, if_neg h12, if_pos h25]; first | (rw [if_neg (Int32.not_lt.mpr h45)]; done) | (rw [if_pos (Int32.not_le.mp h45)]; done))
              | (rw [if_neg h3, if_neg h12, if_neg h25]; first | (simp only [hs79, if_pos h58]; done) | (simp only [hs79, if_neg h58]; done) | ((first | rw [if_pos h58] | rw [if_neg h58]); split <;> first | rfl | (exfalso; omega)))
          · refine J_tableIn (tgt := 191) dX9_ask_79 (by omega) (by omega) (by rw [hs79]; rfl) rfl ?_
            refine J_aload_n dX9_ask_191 rfl rfl ?_
            refine J_getf dX9_ask_192 fl_X9_117 (hS.at 0 rfl) rfl ?_
            refine J_iload dX9_ask_195 rfl ?_
            refine J_ialdN (if wi = 6 then i else j) dX9_ask_197 (hS.at 5 rfl) (by first | (rw [if_pos h58]; exact hr) | (rw [if_neg h58]; exact hl)) (by split <;> omega) (by decide) ?_
            refine J_ireturn dX9_ask_198 rfl rfl (by decide) (by decide) ?_
            refine ⟨congrArg (fun v => Sum.inl (some (Value.int v))) ?_, rfl, rfl⟩
            unfold askR
            first
              | (rw [if_pos h3]; done)
              | (rw [if_neg h3, if_pos h12]; done)
              | (rw [if_neg h3, if_neg h12, if_pos h25]; first | (rw [if_neg (Int32.not_lt.mpr h45)]; done) | (rw [if_pos (Int32.not_le.mp h45)]; done))
              | (rw [if_neg h3, if_neg h12, if_neg h25]; first | (simp only [hs79, if_pos h58]; done) | (simp only [hs79, if_neg h58]; done) | ((first | rw [if_pos h58] | rw [if_neg h58]); split <;> first | rfl | (exfalso; omega)))
          · refine J_tableIn (tgt := 191) dX9_ask_79 (by omega) (by omega) (by rw [hs79]; rfl) rfl ?_
            refine J_aload_n dX9_ask_191 rfl rfl ?_
            refine J_getf dX9_ask_192 fl_X9_117 (hS.at 0 rfl) rfl ?_
            refine J_iload dX9_ask_195 rfl ?_
            refine J_ialdN (if wi = 6 then i else j) dX9_ask_197 (hS.at 5 rfl) (by first | (rw [if_pos h58]; exact hr) | (rw [if_neg h58]; exact hl)) (by split <;> omega) (by decide) ?_
            refine J_ireturn dX9_ask_198 rfl rfl (by decide) (by decide) ?_
            refine ⟨congrArg (fun v => Sum.inl (some (Value.int v))) ?_, rfl, rfl⟩
            unfold askR
            first
              | (rw [if_pos h3]; done)
              | (rw [if_neg h3, if_pos h12]; done)
              | (rw [if_neg h3, if_neg h12, if_pos h25]; first | (rw [if_neg (Int32.not_lt.mpr h45)]; done) | (rw [if_pos (Int32.not_le.mp h45)]; done))
              | (rw [if_neg h3, if_neg h12, if_neg h25]; first | (simp only [hs79, if_pos h58]; done) | (simp only [hs79, if_neg h58]; done) | ((first | rw [if_pos h58] | rw [if_neg h58]); split <;> first | rfl | (exfalso; omega)))
          · refine J_tableIn (tgt := 191) dX9_ask_79 (by omega) (by omega) (by rw [hs79]; rfl) rfl ?_
            refine J_aload_n dX9_ask_191 rfl rfl ?_
            refine J_getf dX9_ask_192 fl_X9_117 (hS.at 0 rfl) rfl ?_
            refine J_iload dX9_ask_195 rfl ?_
            refine J_ialdN (if wi = 6 then i else j) dX9_ask_197 (hS.at 5 rfl) (by first | (rw [if_pos h58]; exact hr) | (rw [if_neg h58]; exact hl)) (by split <;> omega) (by decide) ?_
            refine J_ireturn dX9_ask_198 rfl rfl (by decide) (by decide) ?_
            refine ⟨congrArg (fun v => Sum.inl (some (Value.int v))) ?_, rfl, rfl⟩
            unfold askR
            first
              | (rw [if_pos h3]; done)
              | (rw [if_neg h3, if_pos h12]; done)
              | (rw [if_neg h3, if_neg h12, if_pos h25]; first | (rw [if_neg (Int32.not_lt.mpr h45)]; done) | (rw [if_pos (Int32.not_le.mp h45)]; done))
              | (rw [if_neg h3, if_neg h12, if_neg h25]; first | (simp only [hs79, if_pos h58]; done) | (simp only [hs79, if_neg h58]; done) | ((first | rw [if_pos h58] | rw [if_neg h58]); split <;> first | rfl | (exfalso; omega)))
          · refine J_tableIn (tgt := 191) dX9_ask_79 (by omega) (by omega) (by rw [hs79]; rfl) rfl ?_
            refine J_aload_n dX9_ask_191 rfl rfl ?_
            refine J_getf dX9_ask_192 fl_X9_117 (hS.at 0 rfl) rfl ?_
            refine J_iload dX9_ask_195 rfl ?_
            refine J_ialdN (if wi = 6 then i else j) dX9_ask_197 (hS.at 5 rfl) (by first | (rw [if_pos h58]; exact hr) | (rw [if_neg h58]; exact hl)) (by split <;> omega) (by decide) ?_
            refine J_ireturn dX9_ask_198 rfl rfl (by decide) (by decide) ?_
            refine ⟨congrArg (fun v => Sum.inl (some (Value.int v))) ?_, rfl, rfl⟩
            unfold askR
            first
              | (rw [if_pos h3]; done)
              | (rw [if_neg h3, if_pos h12]; done)
              | (rw [if_neg h3, if_neg h12, if_pos h25]; first | (rw [if_neg (Int32.not_lt.mpr h45)]; done) | (rw [if_pos (Int32.not_le.mp h45)]; done))
              | (rw [if_neg h3, if_neg h12, if_neg h25]; first | (simp only [hs79, if_pos h58]; done) | (simp only [hs79, if_neg h58]; done) | ((first | rw [if_pos h58] | rw [if_neg h58]); split <;> first | rfl | (exfalso; omega)))
          · refine J_tableIn (tgt := 191) dX9_ask_79 (by omega) (by omega) (by rw [hs79]; rfl) rfl ?_
            refine J_aload_n dX9_ask_191 rfl rfl ?_
            refine J_getf dX9_ask_192 fl_X9_117 (hS.at 0 rfl) rfl ?_
            refine J_iload dX9_ask_195 rfl ?_
            refine J_ialdN (if wi = 6 then i else j) dX9_ask_197 (hS.at 5 rfl) (by first | (rw [if_pos h58]; exact hr) | (rw [if_neg h58]; exact hl)) (by split <;> omega) (by decide) ?_
            refine J_ireturn dX9_ask_198 rfl rfl (by decide) (by decide) ?_
            refine ⟨congrArg (fun v => Sum.inl (some (Value.int v))) ?_, rfl, rfl⟩
            unfold askR
            first
              | (rw [if_pos h3]; done)
              | (rw [if_neg h3, if_pos h12]; done)
              | (rw [if_neg h3, if_neg h12, if_pos h25]; first | (rw [if_neg (Int32.not_lt.mpr h45)]; done) | (rw [if_pos (Int32.not_le.mp h45)]; done))
              | (rw [if_neg h3, if_neg h12, if_neg h25]; first | (simp only [hs79, if_pos h58]; done) | (simp only [hs79, if_neg h58]; done) | ((first | rw [if_pos h58] | rw [if_neg h58]); split <;> first | rfl | (exfalso; omega)))
          · refine J_tableIn (tgt := 167) dX9_ask_79 (by omega) (by omega) (by rw [hs79]; rfl) rfl ?_
            refine J_aload_n dX9_ask_167 rfl rfl ?_
            refine J_getf dX9_ask_168 fl_X9_186 (hS.at 0 rfl) rfl ?_
            refine J_iload dX9_ask_171 rfl ?_
            refine J_ialdN (if wi = 6 then i else j) dX9_ask_173 (hS.at 2 rfl) (by first | (rw [if_pos h58]; exact hr) | (rw [if_neg h58]; exact hl)) (by split <;> omega) (by decide) ?_
            refine J_ireturn dX9_ask_174 rfl rfl (by decide) (by decide) ?_
            refine ⟨congrArg (fun v => Sum.inl (some (Value.int v))) ?_, rfl, rfl⟩
            unfold askR
            first
              | (rw [if_pos h3]; done)
              | (rw [if_neg h3, if_pos h12]; done)
              | (rw [if_neg h3, if_neg h12, if_pos h25]; first | (rw [if_neg (Int32.not_lt.mpr h45)]; done) | (rw [if_pos (Int32.not_le.mp h45)]; done))
              | (rw [if_neg h3, if_neg h12, if_neg h25]; first | (simp only [hs79, if_pos h58]; done) | (simp only [hs79, if_neg h58]; done) | ((first | rw [if_pos h58] | rw [if_neg h58]); split <;> first | rfl | (exfalso; omega)))
          · refine J_tableIn (tgt := 191) dX9_ask_79 (by omega) (by omega) (by rw [hs79]; rfl) rfl ?_
            refine J_aload_n dX9_ask_191 rfl rfl ?_
            refine J_getf dX9_ask_192 fl_X9_117 (hS.at 0 rfl) rfl ?_
            refine J_iload dX9_ask_195 rfl ?_
            refine J_ialdN (if wi = 6 then i else j) dX9_ask_197 (hS.at 5 rfl) (by first | (rw [if_pos h58]; exact hr) | (rw [if_neg h58]; exact hl)) (by split <;> omega) (by decide) ?_
            refine J_ireturn dX9_ask_198 rfl rfl (by decide) (by decide) ?_
            refine ⟨congrArg (fun v => Sum.inl (some (Value.int v))) ?_, rfl, rfl⟩
            unfold askR
            first
              | (rw [if_pos h3]; done)
              | (rw [if_neg h3, if_pos h12]; done)
              | (rw [if_neg h3, if_neg h12, if_pos h25]; first | (rw [if_neg (Int32.not_lt.mpr h45)]; done) | (rw [if_pos (Int32.not_le.mp h45)]; done))
              | (rw [if_neg h3, if_neg h12, if_neg h25]; first | (simp only [hs79, if_pos h58]; done) | (simp only [hs79, if_neg h58]; done) | ((first | rw [if_pos h58] | rw [if_neg h58]); split <;> first | rfl | (exfalso; omega)))
          · refine J_tableIn (tgt := 175) dX9_ask_79 (by omega) (by omega) (by rw [hs79]; rfl) rfl ?_
            refine J_aload_n dX9_ask_175 rfl rfl ?_
            refine J_getf dX9_ask_176 fl_X9_142 (hS.at 0 rfl) rfl ?_
            refine J_iload dX9_ask_179 rfl ?_
            refine J_ialdN (if wi = 6 then i else j) dX9_ask_181 (hS.at 6 rfl) (by first | (rw [if_pos h58]; exact hr) | (rw [if_neg h58]; exact hl)) (by split <;> omega) (by decide) ?_
            refine J_ireturn dX9_ask_182 rfl rfl (by decide) (by decide) ?_
            refine ⟨congrArg (fun v => Sum.inl (some (Value.int v))) ?_, rfl, rfl⟩
            unfold askR
            first
              | (rw [if_pos h3]; done)
              | (rw [if_neg h3, if_pos h12]; done)
              | (rw [if_neg h3, if_neg h12, if_pos h25]; first | (rw [if_neg (Int32.not_lt.mpr h45)]; done) | (rw [if_pos (Int32.not_le.mp h45)]; done))
              | (rw [if_neg h3, if_neg h12, if_neg h25]; first | (simp only [hs79, if_pos h58]; done) | (simp only [hs79, if_neg h58]; done) | ((first | rw [if_pos h58] | rw [if_neg h58]); split <;> first | rfl | (exfalso; omega)))
          · refine J_tableIn (tgt := 183) dX9_ask_79 (by omega) (by omega) (by rw [hs79]; rfl) rfl ?_
            refine J_aload_n dX9_ask_183 rfl rfl ?_
            refine J_getf dX9_ask_184 fl_X9_157 (hS.at 0 rfl) rfl ?_
            refine J_iload dX9_ask_187 rfl ?_
            refine J_ialdN (if wi = 6 then i else j) dX9_ask_189 (hS.at 7 rfl) (by first | (rw [if_pos h58]; exact hr) | (rw [if_neg h58]; exact hl)) (by split <;> omega) (by decide) ?_
            refine J_ireturn dX9_ask_190 rfl rfl (by decide) (by decide) ?_
            refine ⟨congrArg (fun v => Sum.inl (some (Value.int v))) ?_, rfl, rfl⟩
            unfold askR
            first
              | (rw [if_pos h3]; done)
              | (rw [if_neg h3, if_pos h12]; done)
              | (rw [if_neg h3, if_neg h12, if_pos h25]; first | (rw [if_neg (Int32.not_lt.mpr h45)]; done) | (rw [if_pos (Int32.not_le.mp h45)]; done))
              | (rw [if_neg h3, if_neg h12, if_neg h25]; first | (simp only [hs79, if_pos h58]; done) | (simp only [hs79, if_neg h58]; done) | ((first | rw [if_pos h58] | rw [if_neg h58]); split <;> first | rfl | (exfalso; omega)))
          · refine J_tableOut (tgt := 191) dX9_ask_79 hs79 rfl ?_
            refine J_aload_n dX9_ask_191 rfl rfl ?_
            refine J_getf dX9_ask_192 fl_X9_117 (hS.at 0 rfl) rfl ?_
            refine J_iload dX9_ask_195 rfl ?_
            refine J_ialdN (if wi = 6 then i else j) dX9_ask_197 (hS.at 5 rfl) (by first | (rw [if_pos h58]; exact hr) | (rw [if_neg h58]; exact hl)) (by split <;> omega) (by decide) ?_
            refine J_ireturn dX9_ask_198 rfl rfl (by decide) (by decide) ?_
            refine ⟨congrArg (fun v => Sum.inl (some (Value.int v))) ?_, rfl, rfl⟩
            unfold askR
            first
              | (rw [if_pos h3]; done)
              | (rw [if_neg h3, if_pos h12]; done)
              | (rw [if_neg h3, if_neg h12, if_pos h25]; first | (rw [if_neg (Int32.not_lt.mpr h45)]; done) | (rw [if_pos (Int32.not_le.mp h45)]; done))
              | (rw [if_neg h3, if_neg h12, if_neg h25]; first | (simp only [hs79, if_pos h58]; done) | (simp only [hs79, if_neg h58]; done) | ((first | rw [if_pos h58] | rw [if_neg h58]); split <;> first | rfl | (exfalso; omega)))
      · refine J_aload_n dX9_ask_28 rfl rfl ?_
        refine J_aload_n dX9_ask_29 rfl rfl ?_
        refine J_getf dX9_ask_30 fl_X9_163 (hS.at 0 rfl) rfl ?_
        refine J_iload_n dX9_ask_33 rfl rfl ?_
        refine J_ialdN q dX9_ask_34 (hS.at 11 rfl) hx (by omega) (by decide) ?_
        refine J_aload_n dX9_ask_35 rfl rfl ?_
        refine J_getf dX9_ask_36 fl_X9_166 (hS.at 0 rfl) rfl ?_
        refine J_iload_n dX9_ask_39 rfl rfl ?_
        refine J_ialdN q dX9_ask_40 (hS.at 12 rfl) hx (by omega) (by decide) ?_
        refine J_callVr (As := [_, _]) dX9_ask_41 ml_X9_72 cal_X8_met im_X8_met se_X8_met (hS.at 0 rfl) rfl rfl rfl (Nat.le_of_ble_eq_true rfl) ⟨by decide, by decide⟩ ⟨by decide, by decide⟩ (c_X8_met hst hS hr hi hl hj) ?_
        refine J_iconst (v := 1) dX9_ask_44 (by decide) ?_
        refine J_icmp_le (tgt := 52) dX9_ask_45 rfl (fun h45 => ?_) (fun h45 => ?_)
        · refine J_iconst (v := 0) dX9_ask_52 (by decide) ?_
          refine J_ireturn dX9_ask_53 rfl rfl (by decide) (by decide) ?_
          refine ⟨congrArg (fun v => Sum.inl (some (Value.int v))) ?_, rfl, rfl⟩
          unfold askR
          first
            | (rw [if_pos h3]; done)
            | (rw [if_neg h3, if_pos h12]; done)
            | (rw [if_neg h3, if_neg h12, if_pos h25]; first | (rw [if_neg (Int32.not_lt.mpr h45)]; done) | (rw [if_pos (Int32.not_le.mp h45)]; done))
            | (rw [if_neg h3, if_neg h12, if_neg h25]; first | (simp only [hs79, if_pos h58]; done) | (simp only [hs79, if_neg h58]; done) | ((first | rw [if_pos h58] | rw [if_neg h58]); split <;> first | rfl | (exfalso; omega)))
        · refine J_iconst (v := 1) dX9_ask_48 (by decide) ?_
          refine J_goto (tgt := 53) dX9_ask_49 rfl ?_
          refine J_ireturn dX9_ask_53 rfl rfl (by decide) (by decide) ?_
          refine ⟨congrArg (fun v => Sum.inl (some (Value.int v))) ?_, rfl, rfl⟩
          unfold askR
          first
            | (rw [if_pos h3]; done)
            | (rw [if_neg h3, if_pos h12]; done)
            | (rw [if_neg h3, if_neg h12, if_pos h25]; first | (rw [if_neg (Int32.not_lt.mpr h45)]; done) | (rw [if_pos (Int32.not_le.mp h45)]; done))
            | (rw [if_neg h3, if_neg h12, if_neg h25]; first | (simp only [hs79, if_pos h58]; done) | (simp only [hs79, if_neg h58]; done) | ((first | rw [if_pos h58] | rw [if_neg h58]); split <;> first | rfl | (exfalso; omega)))
    · refine J_aload_n dX9_ask_15 rfl rfl ?_
      refine J_getf dX9_ask_16 fl_X9_101 (hS.at 0 rfl) rfl ?_
      refine J_iconst (v := 1) dX9_ask_19 (by decide) ?_
      refine J_isub dX9_ask_20 ?_
      refine J_ireturn dX9_ask_21 rfl rfl (by decide) (by decide) ?_
      refine ⟨congrArg (fun v => Sum.inl (some (Value.int v))) ?_, rfl, rfl⟩
      unfold askR
      first
        | (rw [if_pos h3]; done)
        | (rw [if_neg h3, if_pos h12]; done)
        | (rw [if_neg h3, if_neg h12, if_pos h25]; first | (rw [if_neg (Int32.not_lt.mpr h45)]; done) | (rw [if_pos (Int32.not_le.mp h45)]; done))
        | (rw [if_neg h3, if_neg h12, if_neg h25]; first | (simp only [hs79, if_pos h58]; done) | (simp only [hs79, if_neg h58]; done) | ((first | rw [if_pos h58] | rw [if_neg h58]); split <;> first | rfl | (exfalso; omega)))
  · refine J_iload dX9_ask_6 rfl ?_
    refine J_ireturn dX9_ask_8 rfl rfl (by decide) (by decide) ?_
    refine ⟨congrArg (fun v => Sum.inl (some (Value.int v))) ?_, rfl, rfl⟩
    unfold askR
    first
      | (rw [if_pos h3]; done)
      | (rw [if_neg h3, if_pos h12]; done)
      | (rw [if_neg h3, if_neg h12, if_pos h25]; first | (rw [if_neg (Int32.not_lt.mpr h45)]; done) | (rw [if_pos (Int32.not_le.mp h45)]; done))
      | (rw [if_neg h3, if_neg h12, if_neg h25]; first | (simp only [hs79, if_pos h58]; done) | (simp only [hs79, if_neg h58]; done) | ((first | rw [if_pos h58] | rw [if_neg h58]); split <;> first | rfl | (exfalso; omega)))
theorem c_X9_isSided (hst : l.stackTraces = false) (x : Int32) : xx_C G l yX9_isSided mX9_isSided 0 0 0 0 [.int x] A n (xx_ro (some (.int (xx_b (sdd x)))) A n) := by
  refine J_C hst (by decide +kernel) rfl rfl rfl (Nat.le_of_ble_eq_true rfl) ?_
  show xx_J _ _ _ _ _ _ _ _ 0 [(0, _)] [] _ _ _ _
  refine J_iload_n dX9_isSided_0 rfl rfl ?_
  refine J_iconst (v := 1) dX9_isSided_1 (by decide) ?_
  refine J_icmp_eq (tgt := 33) dX9_isSided_2 rfl (fun h2 => ?_) (fun h2 => ?_)
  · refine J_iconst (v := 1) dX9_isSided_33 (by decide) ?_
    refine J_goto (tgt := 38) dX9_isSided_34 rfl ?_
    refine J_ireturn dX9_isSided_38 rfl rfl (by decide) (by decide) ?_
    refine ⟨congrArg (fun v => Sum.inl (some (Value.int v))) ?_, rfl, rfl⟩
    unfold xx_b sdd
    split <;> first | rfl | (exfalso; simp_all; done)
  · refine J_iload_n dX9_isSided_5 rfl rfl ?_
    refine J_iconst (v := 2) dX9_isSided_6 (by decide) ?_
    refine J_icmp_eq (tgt := 33) dX9_isSided_7 rfl (fun h7 => ?_) (fun h7 => ?_)
    · refine J_iconst (v := 1) dX9_isSided_33 (by decide) ?_
      refine J_goto (tgt := 38) dX9_isSided_34 rfl ?_
      refine J_ireturn dX9_isSided_38 rfl rfl (by decide) (by decide) ?_
      refine ⟨congrArg (fun v => Sum.inl (some (Value.int v))) ?_, rfl, rfl⟩
      unfold xx_b sdd
      split <;> first | rfl | (exfalso; simp_all; done)
    · refine J_iload_n dX9_isSided_10 rfl rfl ?_
      refine J_bipush (v := 11) dX9_isSided_11 (by decide) ?_
      refine J_icmp_eq (tgt := 33) dX9_isSided_13 rfl (fun h13 => ?_) (fun h13 => ?_)
      · refine J_iconst (v := 1) dX9_isSided_33 (by decide) ?_
        refine J_goto (tgt := 38) dX9_isSided_34 rfl ?_
        refine J_ireturn dX9_isSided_38 rfl rfl (by decide) (by decide) ?_
        refine ⟨congrArg (fun v => Sum.inl (some (Value.int v))) ?_, rfl, rfl⟩
        unfold xx_b sdd
        split <;> first | rfl | (exfalso; simp_all; done)
      · refine J_iload_n dX9_isSided_16 rfl rfl ?_
        refine J_bipush (v := 13) dX9_isSided_17 (by decide) ?_
        refine J_icmp_eq (tgt := 33) dX9_isSided_19 rfl (fun h19 => ?_) (fun h19 => ?_)
        · refine J_iconst (v := 1) dX9_isSided_33 (by decide) ?_
          refine J_goto (tgt := 38) dX9_isSided_34 rfl ?_
          refine J_ireturn dX9_isSided_38 rfl rfl (by decide) (by decide) ?_
          refine ⟨congrArg (fun v => Sum.inl (some (Value.int v))) ?_, rfl, rfl⟩
          unfold xx_b sdd
          split <;> first | rfl | (exfalso; simp_all; done)
        · refine J_iload_n dX9_isSided_22 rfl rfl ?_
          refine J_bipush (v := 14) dX9_isSided_23 (by decide) ?_
          refine J_icmp_eq (tgt := 33) dX9_isSided_25 rfl (fun h25 => ?_) (fun h25 => ?_)
          · refine J_iconst (v := 1) dX9_isSided_33 (by decide) ?_
            refine J_goto (tgt := 38) dX9_isSided_34 rfl ?_
            refine J_ireturn dX9_isSided_38 rfl rfl (by decide) (by decide) ?_
            refine ⟨congrArg (fun v => Sum.inl (some (Value.int v))) ?_, rfl, rfl⟩
            unfold xx_b sdd
            split <;> first | rfl | (exfalso; simp_all; done)
          · refine J_iload_n dX9_isSided_28 rfl rfl ?_
            refine J_iconst (v := 4) dX9_isSided_29 (by decide) ?_
            refine J_icmp_ne (tgt := 37) dX9_isSided_30 rfl (fun h30 => ?_) (fun h30 => ?_)
            · refine J_iconst (v := 0) dX9_isSided_37 (by decide) ?_
              refine J_ireturn dX9_isSided_38 rfl rfl (by decide) (by decide) ?_
              refine ⟨congrArg (fun v => Sum.inl (some (Value.int v))) ?_, rfl, rfl⟩
              unfold xx_b sdd
              split <;> first | rfl | (exfalso; simp_all; done)
            · refine J_iconst (v := 1) dX9_isSided_33 (by decide) ?_
              refine J_goto (tgt := 38) dX9_isSided_34 rfl ?_
              refine J_ireturn dX9_isSided_38 rfl rfl (by decide) (by decide) ?_
              refine ⟨congrArg (fun v => Sum.inl (some (Value.int v))) ?_, rfl, rfl⟩
              unfold xx_b sdd
              split <;> first | rfl | (exfalso; simp_all; done)
theorem c_X9_isAsked (hst : l.stackTraces = false) (x : Int32) : xx_C G l yX9_isAsked mX9_isAsked 1 20 0 0 [.int x] A n (xx_ro (some (.int (xx_b (asd x)))) A n) := by
  refine J_C hst (by decide +kernel) rfl rfl rfl (Nat.le_of_ble_eq_true rfl) ?_
  show xx_J _ _ _ _ _ _ _ _ 0 [(0, _)] [] _ _ _ _
  refine J_iload_n dX9_isAsked_0 rfl rfl ?_
  refine J_bipush (v := 100) dX9_isAsked_1 (by decide) ?_
  refine J_icmp_eq (tgt := 25) dX9_isAsked_3 rfl (fun h3 => ?_) (fun h3 => ?_)
  · refine J_iconst (v := 1) dX9_isAsked_25 (by decide) ?_
    refine J_goto (tgt := 30) dX9_isAsked_26 rfl ?_
    refine J_ireturn dX9_isAsked_30 rfl rfl (by decide) (by decide) ?_
    first | exact ⟨by rw [xx_bt (Or.inl h3)], rfl, rfl⟩ | exact ⟨by rw [xx_bt (Or.inr (Or.inl h9))], rfl, rfl⟩ | exact ⟨by rw [xx_bt (Or.inr (Or.inr (Or.inl h15)))], rfl, rfl⟩ | exact ⟨by rw [xx_bt (Or.inr (Or.inr (Or.inr h22)))], rfl, rfl⟩ | exact ⟨by rw [xx_bf (fun z => z.elim h3 (fun z => z.elim h9 (fun z => z.elim h15 h22)))], rfl, rfl⟩
  · refine J_iload_n dX9_isAsked_6 rfl rfl ?_
    refine J_bipush (v := 10) dX9_isAsked_7 (by decide) ?_
    refine J_icmp_eq (tgt := 25) dX9_isAsked_9 rfl (fun h9 => ?_) (fun h9 => ?_)
    · refine J_iconst (v := 1) dX9_isAsked_25 (by decide) ?_
      refine J_goto (tgt := 30) dX9_isAsked_26 rfl ?_
      refine J_ireturn dX9_isAsked_30 rfl rfl (by decide) (by decide) ?_
      first | exact ⟨by rw [xx_bt (Or.inl h3)], rfl, rfl⟩ | exact ⟨by rw [xx_bt (Or.inr (Or.inl h9))], rfl, rfl⟩ | exact ⟨by rw [xx_bt (Or.inr (Or.inr (Or.inl h15)))], rfl, rfl⟩ | exact ⟨by rw [xx_bt (Or.inr (Or.inr (Or.inr h22)))], rfl, rfl⟩ | exact ⟨by rw [xx_bf (fun z => z.elim h3 (fun z => z.elim h9 (fun z => z.elim h15 h22)))], rfl, rfl⟩
    · refine J_iload_n dX9_isAsked_12 rfl rfl ?_
      refine J_bipush (v := 12) dX9_isAsked_13 (by decide) ?_
      refine J_icmp_eq (tgt := 25) dX9_isAsked_15 rfl (fun h15 => ?_) (fun h15 => ?_)
      · refine J_iconst (v := 1) dX9_isAsked_25 (by decide) ?_
        refine J_goto (tgt := 30) dX9_isAsked_26 rfl ?_
        refine J_ireturn dX9_isAsked_30 rfl rfl (by decide) (by decide) ?_
        first | exact ⟨by rw [xx_bt (Or.inl h3)], rfl, rfl⟩ | exact ⟨by rw [xx_bt (Or.inr (Or.inl h9))], rfl, rfl⟩ | exact ⟨by rw [xx_bt (Or.inr (Or.inr (Or.inl h15)))], rfl, rfl⟩ | exact ⟨by rw [xx_bt (Or.inr (Or.inr (Or.inr h22)))], rfl, rfl⟩ | exact ⟨by rw [xx_bf (fun z => z.elim h3 (fun z => z.elim h9 (fun z => z.elim h15 h22)))], rfl, rfl⟩
      · refine J_iload_n dX9_isAsked_18 rfl rfl ?_
        refine J_callSr (As := [_]) dX9_isAsked_19 ml_X9_220 cal_X9_isSided sm_X9_isSided rfl rfl (Nat.le_of_ble_eq_true rfl) ⟨by decide, by decide⟩ ⟨by decide, by decide⟩ (c_X9_isSided hst x) ?_
        refine J_ifb_eq (tgt := 29) dX9_isAsked_22 rfl (fun h22 => ?_) (fun h22 => ?_)
        · refine J_iconst (v := 0) dX9_isAsked_29 (by decide) ?_
          refine J_ireturn dX9_isAsked_30 rfl rfl (by decide) (by decide) ?_
          first | exact ⟨by rw [xx_bt (Or.inl h3)], rfl, rfl⟩ | exact ⟨by rw [xx_bt (Or.inr (Or.inl h9))], rfl, rfl⟩ | exact ⟨by rw [xx_bt (Or.inr (Or.inr (Or.inl h15)))], rfl, rfl⟩ | exact ⟨by rw [xx_bt (Or.inr (Or.inr (Or.inr h22)))], rfl, rfl⟩ | exact ⟨by rw [xx_bf (fun z => z.elim h3 (fun z => z.elim h9 (fun z => z.elim h15 h22)))], rfl, rfl⟩
        · refine J_iconst (v := 1) dX9_isAsked_25 (by decide) ?_
          refine J_goto (tgt := 30) dX9_isAsked_26 rfl ?_
          refine J_ireturn dX9_isAsked_30 rfl rfl (by decide) (by decide) ?_
          first | exact ⟨by rw [xx_bt (Or.inl h3)], rfl, rfl⟩ | exact ⟨by rw [xx_bt (Or.inr (Or.inl h9))], rfl, rfl⟩ | exact ⟨by rw [xx_bt (Or.inr (Or.inr (Or.inl h15)))], rfl, rfl⟩ | exact ⟨by rw [xx_bt (Or.inr (Or.inr (Or.inr h22)))], rfl, rfl⟩ | exact ⟨by rw [xx_bf (fun z => z.elim h3 (fun z => z.elim h9 (fun z => z.elim h15 h22)))], rfl, rfl⟩
theorem c_X9_one (hst : l.stackTraces = false) (x : Int32) : xx_C G l yX9_one mX9_one 0 0 0 0 [.int x] A n (xx_ro (some (.int (if x = 0 then 0 else 1))) A n) := by
  refine J_C hst (by decide +kernel) rfl rfl rfl (Nat.le_of_ble_eq_true rfl) ?_
  show xx_J _ _ _ _ _ _ _ _ 0 [(0, _)] [] _ _ _ _
  refine J_iload_n dX9_one_0 rfl rfl ?_
  refine J_if_eq (tgt := 8) dX9_one_1 rfl (fun h1 => ?_) (fun h1 => ?_)
  · refine J_iconst (v := 0) dX9_one_8 (by decide) ?_
    refine J_ireturn dX9_one_9 rfl rfl (by decide) (by decide) ?_
    first | exact ⟨by rw [if_pos h1], rfl, rfl⟩ | exact ⟨by rw [if_neg h1], rfl, rfl⟩
  · refine J_iconst (v := 1) dX9_one_4 (by decide) ?_
    refine J_goto (tgt := 9) dX9_one_5 rfl ?_
    refine J_ireturn dX9_one_9 rfl rfl (by decide) (by decide) ?_
    first | exact ⟨by rw [if_pos h1], rfl, rfl⟩ | exact ⟨by rw [if_neg h1], rfl, rfl⟩
set_option maxHeartbeats 4000000 in
theorem c_X9_reckon (hst : l.stackTraces = false) (order a b : Int32) : xx_C G l yX9_reckon mX9_reckon 1 21 0 0 [.int order, .int a, .int b] A n (xx_ro (some (.int (rckR order a b))) A n) := by
  refine J_C hst (by decide +kernel) rfl rfl rfl (Nat.le_of_ble_eq_true rfl) ?_
  show xx_J _ _ _ _ _ _ _ _ 0 [(0, _), (1, _), (2, _)] [] _ _ _ _
  refine J_iload_n dX9_reckon_0 rfl rfl ?_
  have hsw1 : (order).toInt = 16 ∨ (order).toInt = 18 ∨ (order).toInt = 19 ∨ (order).toInt = 101 ∨ (order).toInt = 102 ∨ (order).toInt = 103 ∨ (order).toInt = 104 ∨ (order).toInt = 106 ∨ (order).toInt = 107 ∨ (order).toInt = 108 ∨ (order).toInt = 109 ∨ (order).toInt = 110 ∨ (¬ (order).toInt = 16 ∧ ¬ (order).toInt = 18 ∧ ¬ (order).toInt = 19 ∧ ¬ (order).toInt = 101 ∧ ¬ (order).toInt = 102 ∧ ¬ (order).toInt = 103 ∧ ¬ (order).toInt = 104 ∧ ¬ (order).toInt = 106 ∧ ¬ (order).toInt = 107 ∧ ¬ (order).toInt = 108 ∧ ¬ (order).toInt = 109 ∧ ¬ (order).toInt = 110) := by omega
  rcases hsw1 with hs1 | hs1 | hs1 | hs1 | hs1 | hs1 | hs1 | hs1 | hs1 | hs1 | hs1 | hs1 | hs1
  · refine J_lookup (tgt := 214) dX9_reckon_1 (by decide) (by rw [hs1] <;> rfl) rfl ?_
    refine J_iload_n dX9_reckon_214 rfl rfl ?_
    refine J_iload_n dX9_reckon_215 rfl rfl ?_
    refine J_iand dX9_reckon_216 ?_
    refine J_ireturn dX9_reckon_217 rfl rfl (by decide) (by decide) ?_
    refine ⟨congrArg (fun v => Sum.inl (some (Value.int v))) ?_, rfl, rfl⟩
    have o1 : (if (1 : Int32) = 0 then (0 : Int32) else 1) = 1 := rfl
    have o0 : (if (0 : Int32) = 0 then (0 : Int32) else 1) = 0 := rfl
    try rw [o1]
    try rw [o0]
    unfold rckR
    first | (simp only [hs1]; done) | (simp only [hs1]; rfl) | (simp only [hs1]; split <;> first | rfl | (exfalso; simp only [i_lt, i_le, i_eq] at *; omega)) | (split <;> first | rfl | (exfalso; omega))
  · refine J_lookup (tgt := 132) dX9_reckon_1 (by decide) (by rw [hs1] <;> rfl) rfl ?_
    refine J_iload_n dX9_reckon_132 rfl rfl ?_
    refine J_iload_n dX9_reckon_133 rfl rfl ?_
    refine J_min dX9_reckon_134 ml_X9_224 ⟨by decide, Nat.le_of_ble_eq_true rfl⟩ ⟨by decide, by decide⟩ ?_
    refine J_ireturn dX9_reckon_137 rfl rfl (by decide) (by decide) ?_
    refine ⟨congrArg (fun v => Sum.inl (some (Value.int v))) ?_, rfl, rfl⟩
    have o1 : (if (1 : Int32) = 0 then (0 : Int32) else 1) = 1 := rfl
    have o0 : (if (0 : Int32) = 0 then (0 : Int32) else 1) = 0 := rfl
    try rw [o1]
    try rw [o0]
    unfold rckR
    first | (simp only [hs1]; done) | (simp only [hs1]; rfl) | (simp only [hs1]; split <;> first | rfl | (exfalso; simp only [i_lt, i_le, i_eq] at *; omega)) | (split <;> first | rfl | (exfalso; omega))
  · refine J_lookup (tgt := 138) dX9_reckon_1 (by decide) (by rw [hs1] <;> rfl) rfl ?_
    refine J_iload_n dX9_reckon_138 rfl rfl ?_
    refine J_iload_n dX9_reckon_139 rfl rfl ?_
    refine J_max dX9_reckon_140 ml_X9_229 ⟨by decide, Nat.le_of_ble_eq_true rfl⟩ ⟨by decide, by decide⟩ ?_
    refine J_ireturn dX9_reckon_143 rfl rfl (by decide) (by decide) ?_
    refine ⟨congrArg (fun v => Sum.inl (some (Value.int v))) ?_, rfl, rfl⟩
    have o1 : (if (1 : Int32) = 0 then (0 : Int32) else 1) = 1 := rfl
    have o0 : (if (0 : Int32) = 0 then (0 : Int32) else 1) = 0 := rfl
    try rw [o1]
    try rw [o0]
    unfold rckR
    first | (simp only [hs1]; done) | (simp only [hs1]; rfl) | (simp only [hs1]; split <;> first | rfl | (exfalso; simp only [i_lt, i_le, i_eq] at *; omega)) | (split <;> first | rfl | (exfalso; omega))
  · refine J_lookup (tgt := 108) dX9_reckon_1 (by decide) (by rw [hs1] <;> rfl) rfl ?_
    refine J_iload_n dX9_reckon_108 rfl rfl ?_
    refine J_iload_n dX9_reckon_109 rfl rfl ?_
    refine J_iadd dX9_reckon_110 ?_
    refine J_ireturn dX9_reckon_111 rfl rfl (by decide) (by decide) ?_
    refine ⟨congrArg (fun v => Sum.inl (some (Value.int v))) ?_, rfl, rfl⟩
    have o1 : (if (1 : Int32) = 0 then (0 : Int32) else 1) = 1 := rfl
    have o0 : (if (0 : Int32) = 0 then (0 : Int32) else 1) = 0 := rfl
    try rw [o1]
    try rw [o0]
    unfold rckR
    first | (simp only [hs1]; done) | (simp only [hs1]; rfl) | (simp only [hs1]; split <;> first | rfl | (exfalso; simp only [i_lt, i_le, i_eq] at *; omega)) | (split <;> first | rfl | (exfalso; omega))
  · refine J_lookup (tgt := 112) dX9_reckon_1 (by decide) (by rw [hs1] <;> rfl) rfl ?_
    refine J_iload_n dX9_reckon_112 rfl rfl ?_
    refine J_iload_n dX9_reckon_113 rfl rfl ?_
    refine J_isub dX9_reckon_114 ?_
    refine J_ireturn dX9_reckon_115 rfl rfl (by decide) (by decide) ?_
    refine ⟨congrArg (fun v => Sum.inl (some (Value.int v))) ?_, rfl, rfl⟩
    have o1 : (if (1 : Int32) = 0 then (0 : Int32) else 1) = 1 := rfl
    have o0 : (if (0 : Int32) = 0 then (0 : Int32) else 1) = 0 := rfl
    try rw [o1]
    try rw [o0]
    unfold rckR
    first | (simp only [hs1]; done) | (simp only [hs1]; rfl) | (simp only [hs1]; split <;> first | rfl | (exfalso; simp only [i_lt, i_le, i_eq] at *; omega)) | (split <;> first | rfl | (exfalso; omega))
  · refine J_lookup (tgt := 116) dX9_reckon_1 (by decide) (by rw [hs1] <;> rfl) rfl ?_
    refine J_iload_n dX9_reckon_116 rfl rfl ?_
    refine J_iload_n dX9_reckon_117 rfl rfl ?_
    refine J_imul dX9_reckon_118 ?_
    refine J_ireturn dX9_reckon_119 rfl rfl (by decide) (by decide) ?_
    refine ⟨congrArg (fun v => Sum.inl (some (Value.int v))) ?_, rfl, rfl⟩
    have o1 : (if (1 : Int32) = 0 then (0 : Int32) else 1) = 1 := rfl
    have o0 : (if (0 : Int32) = 0 then (0 : Int32) else 1) = 0 := rfl
    try rw [o1]
    try rw [o0]
    unfold rckR
    first | (simp only [hs1]; done) | (simp only [hs1]; rfl) | (simp only [hs1]; split <;> first | rfl | (exfalso; simp only [i_lt, i_le, i_eq] at *; omega)) | (split <;> first | rfl | (exfalso; omega))
  · refine J_lookup (tgt := 120) dX9_reckon_1 (by decide) (by rw [hs1] <;> rfl) rfl ?_
    refine J_iload_n dX9_reckon_120 rfl rfl ?_
    refine J_if_ne (tgt := 128) dX9_reckon_121 rfl (fun h121 => ?_) (fun h121 => ?_)
    · refine J_iload_n dX9_reckon_128 rfl rfl ?_
      refine J_iload_n dX9_reckon_129 rfl rfl ?_
      refine J_idiv dX9_reckon_130 h121 ?_
      refine J_ireturn dX9_reckon_131 rfl rfl (by decide) (by decide) ?_
      refine ⟨congrArg (fun v => Sum.inl (some (Value.int v))) ?_, rfl, rfl⟩
      have o1 : (if (1 : Int32) = 0 then (0 : Int32) else 1) = 1 := rfl
      have o0 : (if (0 : Int32) = 0 then (0 : Int32) else 1) = 0 := rfl
      try rw [o1]
      try rw [o0]
      unfold rckR
      first | (simp only [hs1]; done) | (simp only [hs1]; rfl) | (simp only [hs1]; split <;> first | rfl | (exfalso; simp only [i_lt, i_le, i_eq] at *; omega)) | (split <;> first | rfl | (exfalso; omega))
    · refine J_iconst (v := 0) dX9_reckon_124 (by decide) ?_
      refine J_goto (tgt := 131) dX9_reckon_125 rfl ?_
      refine J_ireturn dX9_reckon_131 rfl rfl (by decide) (by decide) ?_
      refine ⟨congrArg (fun v => Sum.inl (some (Value.int v))) ?_, rfl, rfl⟩
      have o1 : (if (1 : Int32) = 0 then (0 : Int32) else 1) = 1 := rfl
      have o0 : (if (0 : Int32) = 0 then (0 : Int32) else 1) = 0 := rfl
      try rw [o1]
      try rw [o0]
      unfold rckR
      first | (simp only [hs1]; done) | (simp only [hs1]; rfl) | (simp only [hs1]; split <;> first | rfl | (exfalso; simp only [i_lt, i_le, i_eq] at *; omega)) | (split <;> first | rfl | (exfalso; omega))
  · refine J_lookup (tgt := 144) dX9_reckon_1 (by decide) (by rw [hs1] <;> rfl) rfl ?_
    refine J_iload_n dX9_reckon_144 rfl rfl ?_
    refine J_iload_n dX9_reckon_145 rfl rfl ?_
    refine J_icmp_ge (tgt := 153) dX9_reckon_146 rfl (fun h146 => ?_) (fun h146 => ?_)
    · refine J_iconst (v := 0) dX9_reckon_153 (by decide) ?_
      refine J_callSr (As := [_]) dX9_reckon_154 ml_X9_232 cal_X9_one sm_X9_one rfl rfl (Nat.le_of_ble_eq_true rfl) ⟨by decide, by decide⟩ ⟨by decide, by decide⟩ (c_X9_one hst _) ?_
      refine J_ireturn dX9_reckon_157 rfl rfl (by decide) (by decide) ?_
      refine ⟨congrArg (fun v => Sum.inl (some (Value.int v))) ?_, rfl, rfl⟩
      have o1 : (if (1 : Int32) = 0 then (0 : Int32) else 1) = 1 := rfl
      have o0 : (if (0 : Int32) = 0 then (0 : Int32) else 1) = 0 := rfl
      try rw [o1]
      try rw [o0]
      unfold rckR
      first | (simp only [hs1]; done) | (simp only [hs1]; rfl) | (simp only [hs1]; split <;> first | rfl | (exfalso; simp only [i_lt, i_le, i_eq] at *; omega)) | (split <;> first | rfl | (exfalso; omega))
    · refine J_iconst (v := 1) dX9_reckon_149 (by decide) ?_
      refine J_goto (tgt := 154) dX9_reckon_150 rfl ?_
      refine J_callSr (As := [_]) dX9_reckon_154 ml_X9_232 cal_X9_one sm_X9_one rfl rfl (Nat.le_of_ble_eq_true rfl) ⟨by decide, by decide⟩ ⟨by decide, by decide⟩ (c_X9_one hst _) ?_
      refine J_ireturn dX9_reckon_157 rfl rfl (by decide) (by decide) ?_
      refine ⟨congrArg (fun v => Sum.inl (some (Value.int v))) ?_, rfl, rfl⟩
      have o1 : (if (1 : Int32) = 0 then (0 : Int32) else 1) = 1 := rfl
      have o0 : (if (0 : Int32) = 0 then (0 : Int32) else 1) = 0 := rfl
      try rw [o1]
      try rw [o0]
      unfold rckR
      first | (simp only [hs1]; done) | (simp only [hs1]; rfl) | (simp only [hs1]; split <;> first | rfl | (exfalso; simp only [i_lt, i_le, i_eq] at *; omega)) | (split <;> first | rfl | (exfalso; omega))
  · refine J_lookup (tgt := 158) dX9_reckon_1 (by decide) (by rw [hs1] <;> rfl) rfl ?_
    refine J_iload_n dX9_reckon_158 rfl rfl ?_
    refine J_iload_n dX9_reckon_159 rfl rfl ?_
    refine J_icmp_le (tgt := 167) dX9_reckon_160 rfl (fun h160 => ?_) (fun h160 => ?_)
    · refine J_iconst (v := 0) dX9_reckon_167 (by decide) ?_
      refine J_callSr (As := [_]) dX9_reckon_168 ml_X9_232 cal_X9_one sm_X9_one rfl rfl (Nat.le_of_ble_eq_true rfl) ⟨by decide, by decide⟩ ⟨by decide, by decide⟩ (c_X9_one hst _) ?_
      refine J_ireturn dX9_reckon_171 rfl rfl (by decide) (by decide) ?_
      refine ⟨congrArg (fun v => Sum.inl (some (Value.int v))) ?_, rfl, rfl⟩
      have o1 : (if (1 : Int32) = 0 then (0 : Int32) else 1) = 1 := rfl
      have o0 : (if (0 : Int32) = 0 then (0 : Int32) else 1) = 0 := rfl
      try rw [o1]
      try rw [o0]
      unfold rckR
      first | (simp only [hs1]; done) | (simp only [hs1]; rfl) | (simp only [hs1]; split <;> first | rfl | (exfalso; simp only [i_lt, i_le, i_eq] at *; omega)) | (split <;> first | rfl | (exfalso; omega))
    · refine J_iconst (v := 1) dX9_reckon_163 (by decide) ?_
      refine J_goto (tgt := 168) dX9_reckon_164 rfl ?_
      refine J_callSr (As := [_]) dX9_reckon_168 ml_X9_232 cal_X9_one sm_X9_one rfl rfl (Nat.le_of_ble_eq_true rfl) ⟨by decide, by decide⟩ ⟨by decide, by decide⟩ (c_X9_one hst _) ?_
      refine J_ireturn dX9_reckon_171 rfl rfl (by decide) (by decide) ?_
      refine ⟨congrArg (fun v => Sum.inl (some (Value.int v))) ?_, rfl, rfl⟩
      have o1 : (if (1 : Int32) = 0 then (0 : Int32) else 1) = 1 := rfl
      have o0 : (if (0 : Int32) = 0 then (0 : Int32) else 1) = 0 := rfl
      try rw [o1]
      try rw [o0]
      unfold rckR
      first | (simp only [hs1]; done) | (simp only [hs1]; rfl) | (simp only [hs1]; split <;> first | rfl | (exfalso; simp only [i_lt, i_le, i_eq] at *; omega)) | (split <;> first | rfl | (exfalso; omega))
  · refine J_lookup (tgt := 172) dX9_reckon_1 (by decide) (by rw [hs1] <;> rfl) rfl ?_
    refine J_iload_n dX9_reckon_172 rfl rfl ?_
    refine J_iload_n dX9_reckon_173 rfl rfl ?_
    refine J_icmp_ne (tgt := 181) dX9_reckon_174 rfl (fun h174 => ?_) (fun h174 => ?_)
    · refine J_iconst (v := 0) dX9_reckon_181 (by decide) ?_
      refine J_callSr (As := [_]) dX9_reckon_182 ml_X9_232 cal_X9_one sm_X9_one rfl rfl (Nat.le_of_ble_eq_true rfl) ⟨by decide, by decide⟩ ⟨by decide, by decide⟩ (c_X9_one hst _) ?_
      refine J_ireturn dX9_reckon_185 rfl rfl (by decide) (by decide) ?_
      refine ⟨congrArg (fun v => Sum.inl (some (Value.int v))) ?_, rfl, rfl⟩
      have o1 : (if (1 : Int32) = 0 then (0 : Int32) else 1) = 1 := rfl
      have o0 : (if (0 : Int32) = 0 then (0 : Int32) else 1) = 0 := rfl
      try rw [o1]
      try rw [o0]
      unfold rckR
      first | (simp only [hs1]; done) | (simp only [hs1]; rfl) | (simp only [hs1]; split <;> first | rfl | (exfalso; simp only [i_lt, i_le, i_eq] at *; omega)) | (split <;> first | rfl | (exfalso; omega))
    · refine J_iconst (v := 1) dX9_reckon_177 (by decide) ?_
      refine J_goto (tgt := 182) dX9_reckon_178 rfl ?_
      refine J_callSr (As := [_]) dX9_reckon_182 ml_X9_232 cal_X9_one sm_X9_one rfl rfl (Nat.le_of_ble_eq_true rfl) ⟨by decide, by decide⟩ ⟨by decide, by decide⟩ (c_X9_one hst _) ?_
      refine J_ireturn dX9_reckon_185 rfl rfl (by decide) (by decide) ?_
      refine ⟨congrArg (fun v => Sum.inl (some (Value.int v))) ?_, rfl, rfl⟩
      have o1 : (if (1 : Int32) = 0 then (0 : Int32) else 1) = 1 := rfl
      have o0 : (if (0 : Int32) = 0 then (0 : Int32) else 1) = 0 := rfl
      try rw [o1]
      try rw [o0]
      unfold rckR
      first | (simp only [hs1]; done) | (simp only [hs1]; rfl) | (simp only [hs1]; split <;> first | rfl | (exfalso; simp only [i_lt, i_le, i_eq] at *; omega)) | (split <;> first | rfl | (exfalso; omega))
  · refine J_lookup (tgt := 186) dX9_reckon_1 (by decide) (by rw [hs1] <;> rfl) rfl ?_
    refine J_iload_n dX9_reckon_186 rfl rfl ?_
    refine J_iload_n dX9_reckon_187 rfl rfl ?_
    refine J_icmp_gt (tgt := 195) dX9_reckon_188 rfl (fun h188 => ?_) (fun h188 => ?_)
    · refine J_iconst (v := 0) dX9_reckon_195 (by decide) ?_
      refine J_callSr (As := [_]) dX9_reckon_196 ml_X9_232 cal_X9_one sm_X9_one rfl rfl (Nat.le_of_ble_eq_true rfl) ⟨by decide, by decide⟩ ⟨by decide, by decide⟩ (c_X9_one hst _) ?_
      refine J_ireturn dX9_reckon_199 rfl rfl (by decide) (by decide) ?_
      refine ⟨congrArg (fun v => Sum.inl (some (Value.int v))) ?_, rfl, rfl⟩
      have o1 : (if (1 : Int32) = 0 then (0 : Int32) else 1) = 1 := rfl
      have o0 : (if (0 : Int32) = 0 then (0 : Int32) else 1) = 0 := rfl
      try rw [o1]
      try rw [o0]
      unfold rckR
      first | (simp only [hs1]; done) | (simp only [hs1]; rfl) | (simp only [hs1]; split <;> first | rfl | (exfalso; simp only [i_lt, i_le, i_eq] at *; omega)) | (split <;> first | rfl | (exfalso; omega))
    · refine J_iconst (v := 1) dX9_reckon_191 (by decide) ?_
      refine J_goto (tgt := 196) dX9_reckon_192 rfl ?_
      refine J_callSr (As := [_]) dX9_reckon_196 ml_X9_232 cal_X9_one sm_X9_one rfl rfl (Nat.le_of_ble_eq_true rfl) ⟨by decide, by decide⟩ ⟨by decide, by decide⟩ (c_X9_one hst _) ?_
      refine J_ireturn dX9_reckon_199 rfl rfl (by decide) (by decide) ?_
      refine ⟨congrArg (fun v => Sum.inl (some (Value.int v))) ?_, rfl, rfl⟩
      have o1 : (if (1 : Int32) = 0 then (0 : Int32) else 1) = 1 := rfl
      have o0 : (if (0 : Int32) = 0 then (0 : Int32) else 1) = 0 := rfl
      try rw [o1]
      try rw [o0]
      unfold rckR
      first | (simp only [hs1]; done) | (simp only [hs1]; rfl) | (simp only [hs1]; split <;> first | rfl | (exfalso; simp only [i_lt, i_le, i_eq] at *; omega)) | (split <;> first | rfl | (exfalso; omega))
  · refine J_lookup (tgt := 200) dX9_reckon_1 (by decide) (by rw [hs1] <;> rfl) rfl ?_
    refine J_iload_n dX9_reckon_200 rfl rfl ?_
    refine J_iload_n dX9_reckon_201 rfl rfl ?_
    refine J_icmp_lt (tgt := 209) dX9_reckon_202 rfl (fun h202 => ?_) (fun h202 => ?_)
    · refine J_iconst (v := 0) dX9_reckon_209 (by decide) ?_
      refine J_callSr (As := [_]) dX9_reckon_210 ml_X9_232 cal_X9_one sm_X9_one rfl rfl (Nat.le_of_ble_eq_true rfl) ⟨by decide, by decide⟩ ⟨by decide, by decide⟩ (c_X9_one hst _) ?_
      refine J_ireturn dX9_reckon_213 rfl rfl (by decide) (by decide) ?_
      refine ⟨congrArg (fun v => Sum.inl (some (Value.int v))) ?_, rfl, rfl⟩
      have o1 : (if (1 : Int32) = 0 then (0 : Int32) else 1) = 1 := rfl
      have o0 : (if (0 : Int32) = 0 then (0 : Int32) else 1) = 0 := rfl
      try rw [o1]
      try rw [o0]
      unfold rckR
      first | (simp only [hs1]; done) | (simp only [hs1]; rfl) | (simp only [hs1]; split <;> first | rfl | (exfalso; simp only [i_lt, i_le, i_eq] at *; omega)) | (split <;> first | rfl | (exfalso; omega))
    · refine J_iconst (v := 1) dX9_reckon_205 (by decide) ?_
      refine J_goto (tgt := 210) dX9_reckon_206 rfl ?_
      refine J_callSr (As := [_]) dX9_reckon_210 ml_X9_232 cal_X9_one sm_X9_one rfl rfl (Nat.le_of_ble_eq_true rfl) ⟨by decide, by decide⟩ ⟨by decide, by decide⟩ (c_X9_one hst _) ?_
      refine J_ireturn dX9_reckon_213 rfl rfl (by decide) (by decide) ?_
      refine ⟨congrArg (fun v => Sum.inl (some (Value.int v))) ?_, rfl, rfl⟩
      have o1 : (if (1 : Int32) = 0 then (0 : Int32) else 1) = 1 := rfl
      have o0 : (if (0 : Int32) = 0 then (0 : Int32) else 1) = 0 := rfl
      try rw [o1]
      try rw [o0]
      unfold rckR
      first | (simp only [hs1]; done) | (simp only [hs1]; rfl) | (simp only [hs1]; split <;> first | rfl | (exfalso; simp only [i_lt, i_le, i_eq] at *; omega)) | (split <;> first | rfl | (exfalso; omega))
  · refine J_lookup (tgt := 218) dX9_reckon_1 (by decide) (lk_dflt hs1) rfl ?_
    refine J_iload_n dX9_reckon_218 rfl rfl ?_
    refine J_iload_n dX9_reckon_219 rfl rfl ?_
    refine J_ior dX9_reckon_220 ?_
    refine J_ireturn dX9_reckon_221 rfl rfl (by decide) (by decide) ?_
    refine ⟨congrArg (fun v => Sum.inl (some (Value.int v))) ?_, rfl, rfl⟩
    have o1 : (if (1 : Int32) = 0 then (0 : Int32) else 1) = 1 := rfl
    have o0 : (if (0 : Int32) = 0 then (0 : Int32) else 1) = 0 := rfl
    try rw [o1]
    try rw [o0]
    unfold rckR
    first | (simp only [hs1]; done) | (simp only [hs1]; rfl) | (simp only [hs1]; split <;> first | rfl | (exfalso; simp only [i_lt, i_le, i_eq] at *; omega)) | (split <;> first | rfl | (exfalso; omega))
set_option maxHeartbeats 4000000 in
theorem c_X9_holds (hst : l.stackTraces = false) (hM : xx_w bm (layM bp vL bn ba bm M) A) (hN : xx_w bp (layN nl bp P) A) (hS : xx_w bs (layS bs S) A) (hap : apR bm bp bs) {q : Nat} {x : Int32} (hxq : x = nI q) (hq : q < 6) {i j : Nat} (hr : S.2 11 q = nI i) (hi : i < 12) (hl : S.2 12 q = nI j) (hj : j < 12) {r f t : Nat} {z : Int32} (hz : z = nI r) (hr16 : r < 16) (hf : P.2 5 r = nI f) (ht : P.2 6 r = nI t) (hft : f ≤ t) (ht4 : t ≤ 400) {sf : List Int32} (hrun : runR S P i j (t - f) f [] = some sf) (hsf : sf.length ≤ 1) : xx_C G l yX9_holds mX9_holds 2 47 0 0 [.ref bm, .ref bs, .int x, .int z] A n (xx_wr (some (.int (xx_b (sf.headD 1 = 1)))) n (fun A' => ∃ M', scr M M' ∧ xx_w bm (layM bp vL bn ba bm M') A' ∧ xx_mf bm A A')) := by
  obtain ⟨x0_, hx0_⟩ : ∃ y, y = x := ⟨_, rfl⟩
  subst hx0_
  refine J_C hst (by decide +kernel) rfl rfl rfl (Nat.le_of_ble_eq_true rfl) ?_
  show xx_J _ _ _ _ _ _ _ _ 0 [(0, _), (1, _), (2, _), (3, _)] [] _ _ _ _
  refine J_iconst (v := 0) dX9_holds_0 (by decide) ?_
  refine J_istore (L' := [(4, _), (0, _), (1, _), (2, _), (3, _)]) dX9_holds_1 (by decide) rfl ?_
  refine J_aload_n dX9_holds_3 rfl rfl ?_
  refine J_getf dX9_holds_4 fl_X9_20 (hM.at 0 rfl) rfl ?_
  refine J_getf dX9_holds_7 fl_X9_236 (hN.at 0 rfl) rfl ?_
  refine J_iload_n dX9_holds_10 rfl rfl ?_
  refine J_ialdN r dX9_holds_11 (hN.at 5 rfl) hz (by omega) (by decide) ?_
  refine J_istore (L' := [(5, _), (4, _), (0, _), (1, _), (2, _), (3, _)]) dX9_holds_12 (by decide) rfl ?_
  have loop : ∀ p, p ≤ t → ∀ (x y : Int32) (A1 : xx_H) (M1 : xS) (s : List Int32), (x = nI p) → (y = nI s.length) → (f ≤ p) → (xx_w bm (layM bp vL bn ba bm M1) A1) → (xx_w bp (layN nl bp P) A1) → (xx_w bs (layS bs S) A1) → (xx_mf bm A A1) → (scr M M1) → (rp (M1.2 47) s) → (s.length ≤ p - f) → (runR S P i j (t - p) p s = some sf) → xx_J G l mX9_holds 2 47 0 0 (xx_wr (some (.int (xx_b (sf.headD 1 = 1)))) n (fun A' => ∃ M', scr M M' ∧ xx_w bm (layM bp vL bn ba bm M') A' ∧ xx_mf bm A A')) 14 [(5, .int x), (4, .int y), (0, .ref bm), (1, .ref bs), (2, .int x0_), (3, .int z)] [] A1 n 0 0 := by
    refine xx_dn ?_ ?_
    · intro x y  A1  M1  s  hx hy hfp hM1 hN1 hS1 hs1 hsc hrp hln hv
      have ex : x.toInt = t := by rw [hx]; exact i_n (by omega)
      have et : (nI t).toInt = t := i_n (by omega)
      have et2 : (P.2 6 r).toInt = t := by rw [ht]; exact et
      have hsfe : s = sf := by rw [Nat.sub_self] at hv; exact Option.some.inj hv
      refine J_iload dX9_holds_14 rfl ?_
      refine J_aload_n dX9_holds_16 rfl rfl ?_
      refine J_getf dX9_holds_17 fl_X9_20 (hM1.at 0 rfl) rfl ?_
      refine J_getf dX9_holds_20 fl_X9_239 (hN1.at 0 rfl) rfl ?_
      refine J_iload_n dX9_holds_23 rfl rfl ?_
      refine J_ialdN r dX9_holds_24 (hN1.at 6 rfl) hz (by omega) (by decide) ?_
      refine J_icmp_ge (tgt := 177) dX9_holds_25 rfl (fun h25 => ?_) (fun h25 => ?_)
      · refine J_iload dX9_holds_177 rfl ?_
        refine J_if_eq (tgt := 192) dX9_holds_179 rfl (fun h179 => ?_) (fun h179 => ?_)
        · refine J_iconst (v := 1) dX9_holds_192 (by decide) ?_
          refine J_goto (tgt := 197) dX9_holds_193 rfl ?_
          refine J_ireturn dX9_holds_197 rfl rfl (by decide) (by decide) ?_
          refine ⟨congrArg (fun v => Sum.inl (some (Value.int v))) ?_, rfl, M1, hsc, hM1, hs1⟩
          first
            | (have e0 : s = [] := List.length_eq_zero_iff.mp (by rw [hy, i_eq, i_n (by omega), i_0] at h179; omega)
               rw [← hsfe, e0]; rfl)
            | (obtain ⟨v, e0⟩ : ∃ v, s = [v] := by
                 rcases s with _ | ⟨v, _ | ⟨w, s0⟩⟩
                 · exact absurd (by rw [hy]; rfl) h179
                 · exact ⟨v, rfl⟩
                 · rw [← hsfe] at hsf; simp at hsf
               have ev : M1.2 47 0 = v := by rw [hrp.2 0 (by rw [e0]; exact Nat.zero_lt_one), e0]; rfl
               rw [← hsfe, e0]
               rw [ev] at h189
               first | exact (xx_bt (show List.headD [v] 1 = 1 from h189)).symm | exact (xx_bf (show ¬ List.headD [v] 1 = 1 from h189)).symm)
        · refine J_aload_n dX9_holds_182 rfl rfl ?_
          refine J_getf dX9_holds_183 fl_X9_59 (hM1.at 0 rfl) rfl ?_
          refine J_iconst (v := 0) dX9_holds_186 (by decide) ?_
          refine J_ialdN 0 dX9_holds_187 (hM1.at 10 rfl) rfl (by decide) (by decide) ?_
          refine J_iconst (v := 1) dX9_holds_188 (by decide) ?_
          refine J_icmp_ne (tgt := 196) dX9_holds_189 rfl (fun h189 => ?_) (fun h189 => ?_)
          · refine J_iconst (v := 0) dX9_holds_196 (by decide) ?_
            refine J_ireturn dX9_holds_197 rfl rfl (by decide) (by decide) ?_
            refine ⟨congrArg (fun v => Sum.inl (some (Value.int v))) ?_, rfl, M1, hsc, hM1, hs1⟩
            first
              | (have e0 : s = [] := List.length_eq_zero_iff.mp (by rw [hy, i_eq, i_n (by omega), i_0] at h179; omega)
                 rw [← hsfe, e0]; rfl)
              | (obtain ⟨v, e0⟩ : ∃ v, s = [v] := by
                   rcases s with _ | ⟨v, _ | ⟨w, s0⟩⟩
                   · exact absurd (by rw [hy]; rfl) h179
                   · exact ⟨v, rfl⟩
                   · rw [← hsfe] at hsf; simp at hsf
                 have ev : M1.2 47 0 = v := by rw [hrp.2 0 (by rw [e0]; exact Nat.zero_lt_one), e0]; rfl
                 rw [← hsfe, e0]
                 rw [ev] at h189
                 first | exact (xx_bt (show List.headD [v] 1 = 1 from h189)).symm | exact (xx_bf (show ¬ List.headD [v] 1 = 1 from h189)).symm)
          · refine J_iconst (v := 1) dX9_holds_192 (by decide) ?_
            refine J_goto (tgt := 197) dX9_holds_193 rfl ?_
            refine J_ireturn dX9_holds_197 rfl rfl (by decide) (by decide) ?_
            refine ⟨congrArg (fun v => Sum.inl (some (Value.int v))) ?_, rfl, M1, hsc, hM1, hs1⟩
            first
              | (have e0 : s = [] := List.length_eq_zero_iff.mp (by rw [hy, i_eq, i_n (by omega), i_0] at h179; omega)
                 rw [← hsfe, e0]; rfl)
              | (obtain ⟨v, e0⟩ : ∃ v, s = [v] := by
                   rcases s with _ | ⟨v, _ | ⟨w, s0⟩⟩
                   · exact absurd (by rw [hy]; rfl) h179
                   · exact ⟨v, rfl⟩
                   · rw [← hsfe] at hsf; simp at hsf
                 have ev : M1.2 47 0 = v := by rw [hrp.2 0 (by rw [e0]; exact Nat.zero_lt_one), e0]; rfl
                 rw [← hsfe, e0]
                 rw [ev] at h189
                 first | exact (xx_bt (show List.headD [v] 1 = 1 from h189)).symm | exact (xx_bf (show ¬ List.headD [v] 1 = 1 from h189)).symm)
      · first | (exfalso; simp only [i_lt, i_le, i_eq, i_0, i_1, i_2, i_3, i_4, i_5, i_6, i_8, i_9, i_10, i_12, i_16, i_20, i_m1, i_400, i_2000] at h25; omega) | (exfalso; simp only [s_up, a_up, va_up, i_lt, i_le, i_eq, i_0, i_1, i_2, i_3, i_4, i_5, i_6, i_8, i_9, i_10, i_12, i_16, i_20, i_m1, i_400, i_2000, ↓reduceIte, Nat.reduceEqDiff] at h25; omega)
    · intro p hip ih x y  A1  M1  s  hx hy hfp hM1 hN1 hS1 hs1 hsc hrp hln hv
      have ex : x.toInt = p := by rw [hx]; exact i_n (by omega)
      have et : (nI t).toInt = t := i_n (by omega)
      have et2 : (P.2 6 r).toInt = t := by rw [ht]; exact et
      obtain ⟨s1, hs1a, hs1b⟩ := runR_s hv hip
      refine J_iload dX9_holds_14 rfl ?_
      refine J_aload_n dX9_holds_16 rfl rfl ?_
      refine J_getf dX9_holds_17 fl_X9_20 (hM1.at 0 rfl) rfl ?_
      refine J_getf dX9_holds_20 fl_X9_239 (hN1.at 0 rfl) rfl ?_
      refine J_iload_n dX9_holds_23 rfl rfl ?_
      refine J_ialdN r dX9_holds_24 (hN1.at 6 rfl) hz (by omega) (by decide) ?_
      refine J_icmp_ge (tgt := 177) dX9_holds_25 rfl (fun h25 => ?_) (fun h25 => ?_)
      · first | (exfalso; simp only [i_lt, i_le, i_eq, i_0, i_1, i_2, i_3, i_4, i_5, i_6, i_8, i_9, i_10, i_12, i_16, i_20, i_m1, i_400, i_2000] at h25; omega) | (exfalso; simp only [s_up, a_up, va_up, i_lt, i_le, i_eq, i_0, i_1, i_2, i_3, i_4, i_5, i_6, i_8, i_9, i_10, i_12, i_16, i_20, i_m1, i_400, i_2000, ↓reduceIte, Nat.reduceEqDiff] at h25; omega)
      · refine J_aload_n dX9_holds_28 rfl rfl ?_
        refine J_getf dX9_holds_29 fl_X9_20 (hM1.at 0 rfl) rfl ?_
        refine J_getf dX9_holds_32 fl_X9_242 (hN1.at 0 rfl) rfl ?_
        refine J_iload dX9_holds_35 rfl ?_
        refine J_ialdN p dX9_holds_37 (hN1.at 7 rfl) hx (by omega) (by decide) ?_
        refine J_istore (L' := [(6, _), (5, _), (4, _), (0, _), (1, _), (2, _), (3, _)]) dX9_holds_38 (by decide) rfl ?_
        refine J_iload dX9_holds_40 rfl ?_
        refine J_callSr (As := [_]) dX9_holds_42 ml_X9_245 cal_X9_isAsked sm_X9_isAsked rfl rfl (Nat.le_of_ble_eq_true rfl) ⟨by decide, by decide⟩ ⟨by decide, by decide⟩ (c_X9_isAsked hst _) ?_
        refine J_ifb_eq (tgt := 79) dX9_holds_45 rfl (fun h45 => ?_) (fun h45 => ?_)
        · refine J_iload dX9_holds_79 rfl ?_
          refine J_bipush (v := 105) dX9_holds_81 (by decide) ?_
          refine J_icmp_ne (tgt := 108) dX9_holds_83 rfl (fun h83 => ?_) (fun h83 => ?_)
          · refine J_iload dX9_holds_108 rfl ?_
            refine J_bipush (v := 15) dX9_holds_110 (by decide) ?_
            refine J_icmp_ne (tgt := 138) dX9_holds_112 rfl (fun h112 => ?_) (fun h112 => ?_)
            · rcases s with _ | ⟨a, _ | ⟨c, s0⟩⟩
              · exfalso; unfold stW at hs1a; rw [if_neg h45, if_neg h83, if_neg h112] at hs1a; cases hs1a
              · exfalso; unfold stW at hs1a; rw [if_neg h45, if_neg h83, if_neg h112] at hs1a; cases hs1a
              have e1 : s1 = rckR (P.2 7 p) c a :: s0 := by unfold stW at hs1a; rw [if_neg h45, if_neg h83, if_neg h112] at hs1a; exact (Option.some.inj hs1a).symm
              have ea : M1.2 47 (s0.length + 1) = a := by rw [hrp.2 _ (by simp only [List.length_cons]; omega)]; simp [List.getD]
              have ec : M1.2 47 s0.length = c := by rw [hrp.2 _ (by simp only [List.length_cons]; omega)]; simp only [List.length_cons]; rw [show s0.length + 1 + 1 - 1 - s0.length = 1 by omega]; rfl
              simp only [List.length_cons] at hln hy
              refine J_iinc (v := _ + (-1)) (L' := [(4, _), (6, _), (5, _), (0, _), (1, _), (2, _), (3, _)]) dX9_holds_138 rfl rfl (by decide) rfl ?_
              refine J_aload_n dX9_holds_141 rfl rfl ?_
              refine J_getf dX9_holds_142 fl_X9_59 (hM1.at 0 rfl) rfl ?_
              refine J_iload dX9_holds_145 rfl ?_
              refine J_iconst (v := 1) dX9_holds_147 (by decide) ?_
              refine J_isub dX9_holds_148 ?_
              refine J_iload dX9_holds_149 rfl ?_
              refine J_aload_n dX9_holds_151 rfl rfl ?_
              refine J_getf dX9_holds_152 fl_X9_59 (hM1.at 0 rfl) rfl ?_
              refine J_iload dX9_holds_155 rfl ?_
              refine J_iconst (v := 1) dX9_holds_157 (by decide) ?_
              refine J_isub dX9_holds_158 ?_
              refine J_ialdN s0.length dX9_holds_159 (hM1.at 10 rfl) (by rw [hy, show (-1 : Int32) = -(1 : Int32) from rfl, ← Int32.sub_eq_add_neg, sub1]; exact sub1 _) (by omega) (by decide) ?_
              refine J_aload_n dX9_holds_160 rfl rfl ?_
              refine J_getf dX9_holds_161 fl_X9_59 (hM1.at 0 rfl) rfl ?_
              refine J_iload dX9_holds_164 rfl ?_
              refine J_ialdN (s0.length + 1) dX9_holds_166 (hM1.at 10 rfl) (by rw [hy, show (-1 : Int32) = -(1 : Int32) from rfl, ← Int32.sub_eq_add_neg]; exact sub1 _) (by omega) (by decide) ?_
              refine J_callSr (As := [_, _, _]) dX9_holds_167 ml_X9_255 cal_X9_reckon sm_X9_reckon rfl rfl (Nat.le_of_ble_eq_true rfl) ⟨by decide, by decide⟩ ⟨by decide, by decide⟩ (c_X9_reckon hst _ _ _) ?_
              rw [ea, ec]
              refine J_iastN s0.length dX9_holds_170 (hM1.at 10 rfl) (by rw [hy, show (-1 : Int32) = -(1 : Int32) from rfl, ← Int32.sub_eq_add_neg, sub1]; exact sub1 _) (by omega) (by decide) ?_
              refine J_genA (wM_a47 hM1 _) (hs1.put (by omega) (by omega) _) (fun A51 w51 s51 o51 => ?_)
              have w51N := hN1.oP o51 hap (by unfold isM; omega)
              have w51S := hS1.oS o51 hap (by unfold isM; omega)
              refine J_iinc (v := _ + 1) (L' := [(5, _), (4, _), (6, _), (0, _), (1, _), (2, _), (3, _)]) dX9_holds_171 rfl rfl (by decide) rfl ?_
              refine J_goto (tgt := 14) dX9_holds_174 rfl ?_
              refine xx_J.pick [0, 1, 3, 4, 5, 6] rfl ?_
              exact ih _ _ _ _ (_ :: s0) (by rw [hx]; exact nI_1 p) (by rw [hy, show (-1 : Int32) = -(1 : Int32) from rfl, ← Int32.sub_eq_add_neg]; exact sub1 _) (by omega) w51 w51N w51S s51 (hsc.a (by decide)) (rp_psh (rp_tl (rp_tl hrp)) (by show s0.length < 400; omega) _) (by simp only [List.length_cons] at *; omega) (by rw [← e1]; exact hs1b)
            · rcases s with _ | ⟨a, s0⟩
              · exfalso; unfold stW at hs1a; rw [if_neg h45, if_neg h83, if_pos h112] at hs1a; cases hs1a
              have e1 : s1 = (1 - a) :: s0 := by unfold stW at hs1a; rw [if_neg h45, if_neg h83, if_pos h112] at hs1a; exact (Option.some.inj hs1a).symm
              have ea : M1.2 47 s0.length = a := by rw [hrp.2 _ (by simp only [List.length_cons]; omega)]; simp [List.getD]
              simp only [List.length_cons] at hln hy
              refine J_aload_n dX9_holds_115 rfl rfl ?_
              refine J_getf dX9_holds_116 fl_X9_59 (hM1.at 0 rfl) rfl ?_
              refine J_iload dX9_holds_119 rfl ?_
              refine J_iconst (v := 1) dX9_holds_121 (by decide) ?_
              refine J_isub dX9_holds_122 ?_
              refine J_iconst (v := 1) dX9_holds_123 (by decide) ?_
              refine J_aload_n dX9_holds_124 rfl rfl ?_
              refine J_getf dX9_holds_125 fl_X9_59 (hM1.at 0 rfl) rfl ?_
              refine J_iload dX9_holds_128 rfl ?_
              refine J_iconst (v := 1) dX9_holds_130 (by decide) ?_
              refine J_isub dX9_holds_131 ?_
              refine J_ialdN s0.length dX9_holds_132 (hM1.at 10 rfl) (by rw [hy]; exact sub1 _) (by omega) (by decide) ?_
              refine J_isub dX9_holds_133 ?_
              rw [ea]
              refine J_iastN s0.length dX9_holds_134 (hM1.at 10 rfl) (by rw [hy]; exact sub1 _) (by omega) (by decide) ?_
              refine J_genA (wM_a47 hM1 _) (hs1.put (by omega) (by omega) _) (fun A52 w52 s52 o52 => ?_)
              have w52N := hN1.oP o52 hap (by unfold isM; omega)
              have w52S := hS1.oS o52 hap (by unfold isM; omega)
              refine J_goto (tgt := 171) dX9_holds_135 rfl ?_
              refine J_iinc (v := _ + 1) (L' := [(5, _), (6, _), (4, _), (0, _), (1, _), (2, _), (3, _)]) dX9_holds_171 rfl rfl (by decide) rfl ?_
              refine J_goto (tgt := 14) dX9_holds_174 rfl ?_
              refine xx_J.pick [0, 2, 3, 4, 5, 6] rfl ?_
              exact ih _ _ _ _ (_ :: s0) (by rw [hx]; exact nI_1 p) hy (by omega) w52 w52N w52S s52 (hsc.a (by decide)) (rp_psh (rp_tl hrp) (by show s0.length < 400; omega) _) (by simp only [List.length_cons] at *; omega) (by rw [← e1]; exact hs1b)
          · rcases s with _ | ⟨a, s0⟩
            · exfalso; unfold stW at hs1a; rw [if_neg h45, if_pos h83] at hs1a; cases hs1a
            have e1 : s1 = -a :: s0 := by unfold stW at hs1a; rw [if_neg h45, if_pos h83] at hs1a; exact (Option.some.inj hs1a).symm
            have ea : M1.2 47 s0.length = a := by rw [hrp.2 _ (by simp only [List.length_cons]; omega)]; simp [List.getD]
            simp only [List.length_cons] at hln hy
            refine J_aload_n dX9_holds_86 rfl rfl ?_
            refine J_getf dX9_holds_87 fl_X9_59 (hM1.at 0 rfl) rfl ?_
            refine J_iload dX9_holds_90 rfl ?_
            refine J_iconst (v := 1) dX9_holds_92 (by decide) ?_
            refine J_isub dX9_holds_93 ?_
            refine J_aload_n dX9_holds_94 rfl rfl ?_
            refine J_getf dX9_holds_95 fl_X9_59 (hM1.at 0 rfl) rfl ?_
            refine J_iload dX9_holds_98 rfl ?_
            refine J_iconst (v := 1) dX9_holds_100 (by decide) ?_
            refine J_isub dX9_holds_101 ?_
            refine J_ialdN s0.length dX9_holds_102 (hM1.at 10 rfl) (by rw [hy]; exact sub1 _) (by omega) (by decide) ?_
            refine J_ineg dX9_holds_103 ?_
            rw [ea]
            refine J_iastN s0.length dX9_holds_104 (hM1.at 10 rfl) (by rw [hy]; exact sub1 _) (by omega) (by decide) ?_
            refine J_genA (wM_a47 hM1 _) (hs1.put (by omega) (by omega) _) (fun A53 w53 s53 o53 => ?_)
            have w53N := hN1.oP o53 hap (by unfold isM; omega)
            have w53S := hS1.oS o53 hap (by unfold isM; omega)
            refine J_goto (tgt := 171) dX9_holds_105 rfl ?_
            refine J_iinc (v := _ + 1) (L' := [(5, _), (6, _), (4, _), (0, _), (1, _), (2, _), (3, _)]) dX9_holds_171 rfl rfl (by decide) rfl ?_
            refine J_goto (tgt := 14) dX9_holds_174 rfl ?_
            refine xx_J.pick [0, 2, 3, 4, 5, 6] rfl ?_
            exact ih _ _ _ _ (_ :: s0) (by rw [hx]; exact nI_1 p) hy (by omega) w53 w53N w53S s53 (hsc.a (by decide)) (rp_psh (rp_tl hrp) (by show s0.length < 400; omega) _) (by simp only [List.length_cons] at *; omega) (by rw [← e1]; exact hs1b)
        · have e1 : s1 = askR S P i j (P.2 7 p) (P.2 8 p) :: s := by unfold stW at hs1a; rw [if_pos h45] at hs1a; exact (Option.some.inj hs1a).symm
          refine J_aload_n dX9_holds_48 rfl rfl ?_
          refine J_getf dX9_holds_49 fl_X9_59 (hM1.at 0 rfl) rfl ?_
          refine J_iload dX9_holds_52 rfl ?_
          refine J_aload_n dX9_holds_54 rfl rfl ?_
          refine J_aload_n dX9_holds_55 rfl rfl ?_
          refine J_iload_n dX9_holds_56 rfl rfl ?_
          refine J_iload dX9_holds_57 rfl ?_
          refine J_aload_n dX9_holds_59 rfl rfl ?_
          refine J_getf dX9_holds_60 fl_X9_20 (hM1.at 0 rfl) rfl ?_
          refine J_getf dX9_holds_63 fl_X9_248 (hN1.at 0 rfl) rfl ?_
          refine J_iload dX9_holds_66 rfl ?_
          refine J_ialdN p dX9_holds_68 (hN1.at 8 rfl) hx (by omega) (by decide) ?_
          refine J_callVr (As := [_, _, _, _]) dX9_holds_69 ml_X9_251 cal_X9_ask im_X9_ask se_X9_ask (hM1.at 0 rfl) rfl rfl rfl (Nat.le_of_ble_eq_true rfl) ⟨by decide, by decide⟩ ⟨by decide, by decide⟩ (c_X9_ask hst hM1 hN1 hS1 hxq hq hr hi hl hj _ _) ?_
          refine J_iastN s.length dX9_holds_72 (hM1.at 10 rfl) hy (by omega) (by decide) ?_
          refine J_genA (wM_a47 hM1 _) (hs1.put (by omega) (by omega) _) (fun A54 w54 s54 o54 => ?_)
          have w54N := hN1.oP o54 hap (by unfold isM; omega)
          have w54S := hS1.oS o54 hap (by unfold isM; omega)
          refine J_iinc (v := _ + 1) (L' := [(4, _), (6, _), (5, _), (0, _), (1, _), (2, _), (3, _)]) dX9_holds_73 rfl rfl (by decide) rfl ?_
          refine J_goto (tgt := 171) dX9_holds_76 rfl ?_
          refine J_iinc (v := _ + 1) (L' := [(5, _), (4, _), (6, _), (0, _), (1, _), (2, _), (3, _)]) dX9_holds_171 rfl rfl (by decide) rfl ?_
          refine J_goto (tgt := 14) dX9_holds_174 rfl ?_
          refine xx_J.pick [0, 1, 3, 4, 5, 6] rfl ?_
          exact ih _ _ _ _ (_ :: s) (by rw [hx]; exact nI_1 p) (by rw [hy]; exact nI_1 _) (by omega) w54 w54N w54S s54 (hsc.a (by decide)) (rp_psh hrp (by omega) _) (by simp only [List.length_cons] at *; omega) (by rw [← e1]; exact hs1b)
  refine xx_J.pick [0, 1, 2, 3, 4, 5] rfl ?_
  exact loop f (by omega) _ _ _ M [] hf rfl (Nat.le_refl _) hM hN hS (xx_mf.rf (bm := bm)) scr.rf (⟨Nat.zero_le _, fun q hq => absurd hq (Nat.not_lt_zero q)⟩) (Nat.zero_le _) hrun
end XS8
