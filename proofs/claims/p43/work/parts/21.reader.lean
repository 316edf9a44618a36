/-! THE LANGUAGE: one parser for both sides, over the tokens' kinds (tk) and numbers (num) -/
section XPR
/-- fits; at which token; the steps emitted -/
abbrev Res : Type := Bool × Nat × List (Int32 × Int32)
def bnd (r : Res) (f : Nat → Res) : Res := if r.1 = true then ((f r.2.1).1, (f r.2.1).2.1, r.2.2 ++ (f r.2.1).2.2) else r
theorem bnd_t {r : Res} {f : Nat → Res} (h : r.1 = true) : bnd r f = ((f r.2.1).1, (f r.2.1).2.1, r.2.2 ++ (f r.2.1).2.2) := if_pos h
theorem bnd_f {r : Res} {f : Nat → Res} (h : ¬ r.1 = true) : bnd r f = r := if_neg h
def emt (op x : Int32) (k : Nat) : Res := (true, k, [(op, x)])
def eat (tk : Nat → Nat) (v k : Nat) : Res := if tk k = v then (true, k + 1, []) else (false, k, [])
def dpt (tk : Nat → Nat) (d v k : Nat) : Res := if d < 8 ∧ tk k = v then (true, k + 1, []) else (false, k, [])
def cntT (t : Nat) : Int32 := if t = 1 then 0 else if t = 11 then 2 else if t = 13 then 6 else if t = 14 then 7 else if t = 4 then 5 else if t = 2 then 1 else 10
def cmpT (t : Nat) : Int32 := if t = 30 then 14 else if t = 31 then 15 else if t = 32 then 16 else if t = 33 then 17 else if t = 34 then 18 else 0
/-- p, then any number of operators (op of a token; 0: none) with another p behind -/
def lpW (tk : Nat → Nat) (op : Nat → Int32) (p : Nat → Res) : Nat → Nat → Res
  | 0, k => (true, k, [])
  | f + 1, k => if op (tk k) = 0 then (true, k, []) else bnd (p (k + 1)) (fun k1 => bnd (emt (op (tk k)) 0 k1) (lpW tk op p f))
def chW (tk : Nat → Nat) (op : Nat → Int32) (p : Nat → Res) (k : Nat) : Res := bnd (p k) (lpW tk op p 401)
def opP (t : Nat) : Int32 := if t = 28 then 10 else if t = 29 then 11 else 0
def opS (t : Nat) : Int32 := if t = 26 then 8 else if t = 27 then 9 else 0
def opA (t : Nat) : Int32 := if t = 16 then 19 else 0
def opO (t : Nat) : Int32 := if t = 17 then 20 else 0
def sidW (tk : Nat → Nat) (c : Int32) (k : Nat) : Res := if tk (k + 1) = 6 then (true, k + 2, [(3, c)]) else if tk (k + 1) = 7 then (true, k + 2, [(4, c)]) else (false, k + 1, [])
def negW (tk : Nat → Nat) (d : Nat) (pv : Nat → Res) (k : Nat) : Res := bnd (dpt tk d 27 k) (fun k => bnd (pv k) (emt 6 0))
def choW (tk : Nat → Nat) (d : Nat) (ps : Nat → Res) (k : Nat) : Res := bnd (dpt tk d 20 (k + 1)) (fun k1 => bnd (ps k1) (fun k2 => bnd (eat tk 25 k2) (fun k3 => bnd (ps k3) (fun k4 => bnd (eat tk 21 k4) (emt (if tk k = 18 then 12 else 13) 0)))))
def parW (tk : Nat → Nat) (d o c : Nat) (ps : Nat → Res) (k : Nat) : Res := bnd (dpt tk d o k) (fun k1 => bnd (ps k1) (eat tk c))
def valW (tk : Nat → Nat) (num : Nat → Int32) (d : Nat) (pv ps : Nat → Res) (k : Nat) : Res :=
  if tk k = 36 then (true, k + 1, [(1, num k)]) else if tk k = 10 then (true, k + 1, [(2, 0)]) else if tk k = 27 then negW tk d pv k
  else if tk k = 20 then parW tk d 20 21 ps k else if tk k = 18 ∨ tk k = 19 then choW tk d ps k else if cntT (tk k) = 10 then (false, k, []) else sidW tk (cntT (tk k)) k
def cmpW (tk : Nat → Nat) (ps : Nat → Res) (k : Nat) : Res := bnd (ps k) (fun k1 => if cmpT (tk k1) = 0 then (false, k1, []) else bnd (ps (k1 + 1)) (emt (cmpT (tk k1)) 0))
def notW (tk : Nat → Nat) (d : Nat) (p1 : Nat → Res) (k : Nat) : Res := bnd (dpt tk d 15 k) (fun k => bnd (p1 k) (emt 7 0))
def sngW (tk : Nat → Nat) (d : Nat) (p1 pt pc : Nat → Res) (k : Nat) : Res := if tk k = 15 then notW tk d p1 k else if tk k = 22 then parW tk d 22 23 pt k else if tk k = 12 then (true, k + 1, [(5, 0)]) else pc k
def failW (k : Nat) : Res := (false, k, [])
variable (tk : Nat → Nat) (num : Nat → Int32)
def sumW (pv : Nat → Res) : Nat → Res := chW tk opS (chW tk opP pv)
def pV : Nat → Nat → Res
  | 0 => valW tk num 8 failW failW
  | h + 1 => valW tk num (8 - (h + 1)) (pV h) (sumW tk (pV h))
def tstW (p1 : Nat → Res) : Nat → Res := chW tk opO (chW tk opA p1)
def p1 : Nat → Nat → Res
  | 0 => sngW tk 8 failW failW (cmpW tk (sumW tk (pV tk num 0)))
  | h + 1 => sngW tk (8 - (h + 1)) (p1 h) (tstW tk (p1 h)) (cmpW tk (sumW tk (pV tk num (h + 1))))
def pT : Nat → Res := tstW tk (p1 tk num 8)
variable {tk : Nat → Nat} {num : Nat → Int32} {tok : Nat}
/-- what a parser does to the place -/
def pOK (tok : Nat) (p : Nat → Res) : Prop := ∀ k, k < tok → k ≤ (p k).2.1 ∧ (p k).2.1 < tok ∧ (p k).2.2.length + k ≤ (p k).2.1
/-- behind each token but the last one there is another one -/
def nxt (tk : Nat → Nat) (tok : Nat) : Prop := ∀ k, k < tok → ¬ tk k = 37 → ¬ tk k = 38 → k + 1 < tok
theorem bnd_ok {r : Res} {f : Nat → Res} {k : Nat} (h : k ≤ r.2.1 ∧ r.2.1 < tok ∧ r.2.2.length + k ≤ r.2.1) (hf : r.2.1 ≤ (f r.2.1).2.1 ∧ (f r.2.1).2.1 < tok ∧ (f r.2.1).2.2.length + r.2.1 ≤ (f r.2.1).2.1) : k ≤ (bnd r f).2.1 ∧ (bnd r f).2.1 < tok ∧ (bnd r f).2.2.length + k ≤ (bnd r f).2.1 := by
  by_cases hr : r.1 = true
  · rw [bnd_t hr]
    simp only [List.length_append]
    omega
  · rw [bnd_f hr]; exact h
theorem ok_fail : pOK tok failW := fun k hk => ⟨Nat.le_refl _, hk, by simp [failW]⟩
theorem ok_eat (hn : nxt tk tok) {v : Nat} (h1 : ¬ v = 37) (h2 : ¬ v = 38) : pOK tok (eat tk v) := by
  intro k hk
  unfold eat
  split
  · rename_i h
    have := hn k hk (by rw [h]; exact h1) (by rw [h]; exact h2)
    exact ⟨Nat.le_succ _, this, by simp⟩
  · exact ⟨Nat.le_refl _, hk, by simp⟩
theorem ok_dpt (hn : nxt tk tok) {d v : Nat} (h1 : ¬ v = 37) (h2 : ¬ v = 38) : pOK tok (dpt tk d v) := by
  intro k hk
  unfold dpt
  split
  · rename_i h
    have := hn k hk (by rw [h.2]; exact h1) (by rw [h.2]; exact h2)
    exact ⟨Nat.le_succ _, this, by simp⟩
  · exact ⟨Nat.le_refl _, hk, by simp⟩
theorem opP_n {t : Nat} (h : ¬ opP t = 0) : ¬ t = 37 ∧ ¬ t = 38 := ⟨fun e => h (by rw [e]; rfl), fun e => h (by rw [e]; rfl)⟩
theorem opS_n {t : Nat} (h : ¬ opS t = 0) : ¬ t = 37 ∧ ¬ t = 38 := ⟨fun e => h (by rw [e]; rfl), fun e => h (by rw [e]; rfl)⟩
theorem opA_n {t : Nat} (h : ¬ opA t = 0) : ¬ t = 37 ∧ ¬ t = 38 := ⟨fun e => h (by rw [e]; rfl), fun e => h (by rw [e]; rfl)⟩
theorem opO_n {t : Nat} (h : ¬ opO t = 0) : ¬ t = 37 ∧ ¬ t = 38 := ⟨fun e => h (by rw [e]; rfl), fun e => h (by rw [e]; rfl)⟩
theorem cmpT_n {t : Nat} (h : ¬ cmpT t = 0) : ¬ t = 37 ∧ ¬ t = 38 := ⟨fun e => h (by rw [e]; rfl), fun e => h (by rw [e]; rfl)⟩
theorem cntT_n {t : Nat} (h : ¬ cntT t = 10) : ¬ t = 37 ∧ ¬ t = 38 := ⟨fun e => h (by rw [e]; rfl), fun e => h (by rw [e]; rfl)⟩
theorem ok_lp (hn : nxt tk tok) {op : Nat → Int32} (ho : ∀ t, ¬ op t = 0 → ¬ t = 37 ∧ ¬ t = 38) {p : Nat → Res} (hp : pOK tok p) : ∀ f, pOK tok (lpW tk op p f) := by
  intro f
  induction f with
  | zero => intro k hk; exact ⟨Nat.le_refl _, hk, by simp [lpW]⟩
  | succ f ih =>
    intro k hk
    simp only [lpW]
    split
    · exact ⟨Nat.le_refl _, hk, by simp⟩
    · rename_i h
      have h1 := hn k hk (ho _ h).1 (ho _ h).2
      have h2 := hp (k + 1) h1
      by_cases hr : (p (k + 1)).1 = true
      · rw [bnd_t hr]
        have h3 := ih _ h2.2.1
        simp only [bnd, emt, if_true, List.length_append, List.length_cons, List.length_nil]
        omega
      · rw [bnd_f hr]; omega
theorem ok_ch (hn : nxt tk tok) {op : Nat → Int32} (ho : ∀ t, ¬ op t = 0 → ¬ t = 37 ∧ ¬ t = 38) {p : Nat → Res} (hp : pOK tok p) : pOK tok (chW tk op p) :=
  fun k hk => bnd_ok (hp k hk) (ok_lp hn ho hp 401 _ (hp k hk).2.1)
theorem ok_sum (hn : nxt tk tok) {pv : Nat → Res} (hp : pOK tok pv) : pOK tok (sumW tk pv) := ok_ch hn (fun _ => opS_n) (ok_ch hn (fun _ => opP_n) hp)
theorem ok_tst (hn : nxt tk tok) {pv : Nat → Res} (hp : pOK tok pv) : pOK tok (tstW tk pv) := ok_ch hn (fun _ => opO_n) (ok_ch hn (fun _ => opA_n) hp)
/-- a sign, then p, then a step -/
theorem ok_emt {k0 : Nat} {r : Res} {op x : Int32} (h : k0 < r.2.1 ∧ r.2.1 < tok ∧ r.2.2.length + k0 < r.2.1) : k0 ≤ (bnd r (emt op x)).2.1 ∧ (bnd r (emt op x)).2.1 < tok ∧ (bnd r (emt op x)).2.2.length + k0 ≤ (bnd r (emt op x)).2.1 := by
  by_cases hr : r.1 = true
  · rw [bnd_t hr]
    simp only [emt, List.length_append, List.length_cons, List.length_nil]
    omega
  · rw [bnd_f hr]; omega
theorem ok_dp2 (hn : nxt tk tok) {d v : Nat} (h1 : ¬ v = 37) (h2 : ¬ v = 38) {f : Nat → Res} {k : Nat} (hk : k < tok) (hf : k + 1 < tok → k ≤ (f (k + 1)).2.1 ∧ (f (k + 1)).2.1 < tok ∧ (f (k + 1)).2.2.length + k ≤ (f (k + 1)).2.1) : k ≤ (bnd (dpt tk d v k) f).2.1 ∧ (bnd (dpt tk d v k) f).2.1 < tok ∧ (bnd (dpt tk d v k) f).2.2.length + k ≤ (bnd (dpt tk d v k) f).2.1 := by
  unfold dpt
  split
  · rename_i h
    have := hf (hn k hk (by rw [h.2]; exact h1) (by rw [h.2]; exact h2))
    simpa [bnd] using this
  · simp [bnd]; omega
theorem ok_neg (hn : nxt tk tok) {d v : Nat} (h1 : ¬ v = 37) (h2 : ¬ v = 38) {op : Int32} {p : Nat → Res} (hp : pOK tok p) : pOK tok (fun k => bnd (dpt tk d v k) (fun k => bnd (p k) (emt op 0))) := fun k hk =>
  ok_dp2 hn h1 h2 hk fun h => by
    have := hp (k + 1) h
    exact ok_emt (by omega)
theorem ok_par (hn : nxt tk tok) {d o c : Nat} (h1 : ¬ o = 37) (h2 : ¬ o = 38) (h3 : ¬ c = 37) (h4 : ¬ c = 38) {ps : Nat → Res} (hp : pOK tok ps) : pOK tok (parW tk d o c ps) := fun k hk =>
  ok_dp2 hn h1 h2 hk fun h => by
    have := bnd_ok (hp (k + 1) h) (ok_eat hn h3 h4 _ (hp (k + 1) h).2.1)
    omega
theorem ok_ee (hn : nxt tk tok) {v : Nat} {op x : Int32} (h1 : ¬ v = 37) (h2 : ¬ v = 38) {k : Nat} (hk : k < tok) : k ≤ (bnd (eat tk v k) (emt op x)).2.1 ∧ (bnd (eat tk v k) (emt op x)).2.1 < tok ∧ (bnd (eat tk v k) (emt op x)).2.2.length + k ≤ (bnd (eat tk v k) (emt op x)).2.1 := by
  unfold eat
  split
  · rename_i h
    have := hn k hk (by rw [h]; exact h1) (by rw [h]; exact h2)
    simp [bnd, emt]
    omega
  · simp [bnd]; exact hk
theorem ok_cho (hn : nxt tk tok) {d : Nat} {ps : Nat → Res} (hp : pOK tok ps) {k : Nat} (hk : k < tok) (hk1 : tk k = 18 ∨ tk k = 19) : k ≤ (choW tk d ps k).2.1 ∧ (choW tk d ps k).2.1 < tok ∧ (choW tk d ps k).2.2.length + k ≤ (choW tk d ps k).2.1 := by
  have hk2 : k + 1 < tok := hn k hk (by omega) (by omega)
  have key := ok_dp2 (d := d) (v := 20) (f := fun k1 => bnd (ps k1) (fun k2 => bnd (eat tk 25 k2) (fun k3 => bnd (ps k3) (fun k4 => bnd (eat tk 21 k4) (emt (if tk k = 18 then 12 else 13) 0))))) hn (by omega) (by omega) hk2 fun h => by
    have a := hp (k + 1 + 1) h
    have b9 := bnd_ok (f := fun k3 => bnd (ps k3) (fun k4 => bnd (eat tk 21 k4) (emt (if tk k = 18 then 12 else 13) 0))) (ok_eat (v := 25) hn (by omega) (by omega) _ a.2.1) (by
      have b := ok_eat (v := 25) hn (by omega) (by omega) _ a.2.1
      exact bnd_ok (f := fun k4 => bnd (eat tk 21 k4) (emt (if tk k = 18 then 12 else 13) 0)) (hp _ b.2.1) (ok_ee hn (by omega) (by omega) (hp _ b.2.1).2.1))
    have := bnd_ok (f := fun k2 => bnd (eat tk 25 k2) (fun k3 => bnd (ps k3) (fun k4 => bnd (eat tk 21 k4) (emt (if tk k = 18 then 12 else 13) 0)))) a b9
    omega
  unfold choW
  omega
theorem ok_val (hn : nxt tk tok) {d : Nat} {pv ps : Nat → Res} (hv : pOK tok pv) (hs : pOK tok ps) : pOK tok (valW tk num d pv ps) := by
  intro k hk
  have nx : ∀ v, tk k = v → ¬ v = 37 → ¬ v = 38 → k + 1 < tok := fun v h h1 h2 => hn k hk (by rw [h]; exact h1) (by rw [h]; exact h2)
  unfold valW
  split
  · rename_i h; have := nx _ h (by omega) (by omega); simp; omega
  split
  · rename_i h; have := nx _ h (by omega) (by omega); simp; omega
  split
  · exact ok_neg hn (by omega) (by omega) hv k hk
  split
  · exact ok_par hn (by omega) (by omega) (by omega) (by omega) hs k hk
  split
  · rename_i h; exact ok_cho hn hs hk h
  split
  · simp; omega
  · rename_i h
    have h1 := hn k hk (cntT_n h).1 (cntT_n h).2
    unfold sidW
    split
    · rename_i h2; have := hn _ h1 (by rw [h2]; omega) (by rw [h2]; omega); simp; omega
    split
    · rename_i h2; have := hn _ h1 (by rw [h2]; omega) (by rw [h2]; omega); simp; omega
    · simp; omega
theorem ok_cmp (hn : nxt tk tok) {ps : Nat → Res} (hs : pOK tok ps) : pOK tok (cmpW tk ps) := by
  intro k hk
  have a := hs k hk
  refine bnd_ok a ?_
  show _ ≤ (if cmpT (tk (ps k).2.1) = 0 then (false, (ps k).2.1, []) else bnd (ps ((ps k).2.1 + 1)) (emt (cmpT (tk (ps k).2.1)) 0)).2.1 ∧ _
  split
  · simp; exact a.2.1
  · rename_i h
    have h1 := hn _ a.2.1 (cmpT_n h).1 (cmpT_n h).2
    have := hs _ h1
    exact ok_emt (by omega)
theorem ok_sng (hn : nxt tk tok) {d : Nat} {q1 qt qc : Nat → Res} (h1 : pOK tok q1) (h2 : pOK tok qt) (h3 : pOK tok qc) : pOK tok (sngW tk d q1 qt qc) := by
  intro k hk
  unfold sngW
  split
  · exact ok_neg hn (by omega) (by omega) h1 k hk
  split
  · exact ok_par hn (by omega) (by omega) (by omega) (by omega) h2 k hk
  split
  · rename_i h; have := hn k hk (by rw [h]; omega) (by rw [h]; omega); simp; omega
  · exact h3 k hk
theorem ok_pV (hn : nxt tk tok) : ∀ h, pOK tok (pV tk num h) := by
  intro h
  induction h with
  | zero => exact ok_val hn ok_fail ok_fail
  | succ h ih => exact ok_val hn ih (ok_sum hn ih)
theorem ok_p1 (hn : nxt tk tok) : ∀ h, pOK tok (p1 tk num h) := by
  intro h
  induction h with
  | zero => exact ok_sng hn ok_fail ok_fail (ok_cmp hn (ok_sum hn (ok_pV hn 0)))
  | succ h ih => exact ok_sng hn ih (ok_tst hn ih) (ok_cmp hn (ok_sum hn (ok_pV hn (h + 1))))
theorem ok_pT (hn : nxt tk tok) : pOK tok (pT tk num) := ok_tst hn (ok_p1 hn 8)
end XPR
/-! READER, its small methods -/
section XRD
def layD (bt : Nat) (bu : Nat) (b : Nat) (F : xS) : List (Nat × va_E) := [(0, .inr (2, [.ref (bt), .ref (bu), .ref (b + 12), .ref (b + 13), .ref (b + 14), .int (F.1 5), .int (F.1 6), .int (F.1 7), .int (F.1 8)])), (12, .inl (0, 12, .inl (F.2 12))), (13, .inl (0, 12, .inl (F.2 13))), (14, .inl (0, 3, .inl (F.2 14)))]
theorem wD_s0_5 {bt : Nat} {bu : Nat} {b : Nat} {F : xS} {A : xx_H} (h : xx_w b (layD bt bu b F) A) (x : Int32) : xx_w b (layD bt bu b (s_up F 5 x)) (xx_up A (b + 0) (.inr (2, [Value.ref (bt), .ref (bu), .ref (b + 12), .ref (b + 13), .ref (b + 14), .int (F.1 5), .int (F.1 6), .int (F.1 7), .int (F.1 8)].set 5 (.int x)))) := h.put 0 _ rfl rfl
theorem wD_s0_6 {bt : Nat} {bu : Nat} {b : Nat} {F : xS} {A : xx_H} (h : xx_w b (layD bt bu b F) A) (x : Int32) : xx_w b (layD bt bu b (s_up F 6 x)) (xx_up A (b + 0) (.inr (2, [Value.ref (bt), .ref (bu), .ref (b + 12), .ref (b + 13), .ref (b + 14), .int (F.1 5), .int (F.1 6), .int (F.1 7), .int (F.1 8)].set 6 (.int x)))) := h.put 0 _ rfl rfl
theorem wD_s0_7 {bt : Nat} {bu : Nat} {b : Nat} {F : xS} {A : xx_H} (h : xx_w b (layD bt bu b F) A) (x : Int32) : xx_w b (layD bt bu b (s_up F 7 x)) (xx_up A (b + 0) (.inr (2, [Value.ref (bt), .ref (bu), .ref (b + 12), .ref (b + 13), .ref (b + 14), .int (F.1 5), .int (F.1 6), .int (F.1 7), .int (F.1 8)].set 7 (.int x)))) := h.put 0 _ rfl rfl
theorem wD_s0_8 {bt : Nat} {bu : Nat} {b : Nat} {F : xS} {A : xx_H} (h : xx_w b (layD bt bu b F) A) (x : Int32) : xx_w b (layD bt bu b (s_up F 8 x)) (xx_up A (b + 0) (.inr (2, [Value.ref (bt), .ref (bu), .ref (b + 12), .ref (b + 13), .ref (b + 14), .int (F.1 5), .int (F.1 6), .int (F.1 7), .int (F.1 8)].set 8 (.int x)))) := h.put 0 _ rfl rfl
theorem wD_a12 {bt : Nat} {bu : Nat} {b : Nat} {F : xS} {A : xx_H} (h : xx_w b (layD bt bu b F) A) (f : Nat → Int32) : xx_w b (layD bt bu b (a_up F 12 f)) (xx_up A (b + 12) (.inl (0, 12, .inl f))) := h.put 1 _ rfl rfl
theorem wD_a13 {bt : Nat} {bu : Nat} {b : Nat} {F : xS} {A : xx_H} (h : xx_w b (layD bt bu b F) A) (f : Nat → Int32) : xx_w b (layD bt bu b (a_up F 13 f)) (xx_up A (b + 13) (.inl (0, 12, .inl f))) := h.put 2 _ rfl rfl
theorem wD_a14 {bt : Nat} {bu : Nat} {b : Nat} {F : xS} {A : xx_H} (h : xx_w b (layD bt bu b F) A) (f : Nat → Int32) : xx_w b (layD bt bu b (a_up F 14 f)) (xx_up A (b + 14) (.inl (0, 3, .inl f))) := h.put 3 _ rfl rfl
variable {G : xx_G} {l : Launch} {A A' : xx_H} {n : Nat} {b bt bu : Nat} {D T R : xS} {sg : Nat → Option Nat}
theorem layD_z {z : Nat} (h : z ∈ (layD bt bu b D).map Prod.fst) : z = 0 ∨ z = 12 ∨ z = 13 ∨ z = 14 := by
  simpa [layD] using h
theorem layD_o {q : Nat} (h : xx_w b (layD bt bu b D) A) (o : ∀ z, z ≠ q → A' z = A z) (h1 : q ≠ b) (h2 : q < b + 12 ∨ b + 15 ≤ q) : xx_w b (layD bt bu b D) A' := fun i z e he => by
  have hz := layD_z (List.mem_map.mpr ⟨_, List.mem_of_getElem? he, rfl⟩)
  rw [o _ (by simp only at hz; omega)]
  exact h i z e he
theorem layD_s {b0 e0 : Nat} (h : xx_w b (layD bt bu b D) A) (hs : xx_same b0 e0 A A') (h1 : b < b0 ∨ e0 ≤ b) (h2 : b + 15 ≤ b0 ∨ e0 ≤ b + 12) : xx_w b (layD bt bu b D) A' := h.same hs fun z hz => by
  have hz := layD_z hz
  omega
/-- a Reader with its tape and its rules -/
def rdW (b : Nat) (D T R : xS) (sg : Nat → Option Nat) (A : xx_H) : Prop := xx_w b (layD (b + 1) (b + 6) b D) A ∧ xx_w (b + 1) (layT sg (b + 1) T) A ∧ xx_w (b + 6) (layR (b + 6) R) A
abbrev atD (D : xS) (k : Nat) : xS := s_up D 6 (nI k)
theorem atD_1 {k : Nat} (h : xx_w b (layD bt bu b (s_up (atD D k) 6 ((atD D k).1 6 + 1))) A) : xx_w b (layD bt bu b (atD D (k + 1))) A := by
  have e : s_up (atD D k) 6 ((atD D k).1 6 + 1) = atD D (k + 1) := by
    rw [show (atD D k).1 6 + 1 = nI (k + 1) from nI_1 k]
    exact s_up_u
  rw [e] at h
  exact h
/-- what scan has laid -/
def tkc (T0 : xS) (len tok : Nat) (sg : Nat → Option Nat) (T : xS) : Prop := T0.1 1 = nI len ∧ len ≤ 2000 ∧ 0 < tok ∧ tok ≤ 401 ∧ scn T0 len tok sg T ∧ nxt (scG T0 len) tok ∧ (scG T0 len (tok - 1) = 37 ∨ scG T0 len (tok - 1) = 38)
/-- the number that token k tells -/
def tkN (T0 : xS) (len k : Nat) : Int32 := nmF T0 len (scE T0 len k - scS T0 len k) (scS T0 len k) 0
variable {T0 : xS} {len tok : Nat}
theorem c_X2_sees (hst : l.stackTraces = false) {k : Nat} (hW : rdW b (atD D k) T R sg A) (hc : tkc T0 len tok sg T) (hk : k < tok) {v : Nat} (hv : v < 39) : xx_C G l yX2_sees mX2_sees 0 0 0 0 [.ref b, .ref v] A n (xx_ro (some (.int (xx_b (scG T0 len k = v)))) A n) := by
  obtain ⟨hD, hT, hR⟩ := hW
  obtain ⟨hl1, hl2, ht0, ht1, hscn, hnx, hlast⟩ := hc
  have htok := hscn.1
  have eat : (nI k).toInt = k := i_n (by omega)
  have etok : (T.1 5).toInt = tok := by rw [htok]; exact i_n (by omega)
  have hsg := (hscn.2.2.2 k hk).1
  refine J_C hst (by decide +kernel) rfl rfl rfl (Nat.le_of_ble_eq_true rfl) ?_
  show xx_J _ _ _ _ _ _ _ _ 0 [(0, _), (1, _)] [] _ _ _ _
  refine J_aload_n dX2_sees_0 rfl rfl ?_
  refine J_getf dX2_sees_1 fl_X2_39 (hD.at 0 rfl) rfl ?_
  refine J_if_lt (tgt := 41) dX2_sees_4 rfl (fun h4 => ?_) (fun h4 => ?_)
  · first | (exfalso; simp only [i_lt, i_le, i_eq, i_0, i_1, i_2, i_3, i_4, i_5, i_6, i_8, i_9, i_10, i_12, i_16, i_20, i_m1, i_400, i_2000] at h4; omega) | (exfalso; simp only [s_up, a_up, va_up, i_lt, i_le, i_eq, i_0, i_1, i_2, i_3, i_4, i_5, i_6, i_8, i_9, i_10, i_12, i_16, i_20, i_m1, i_400, i_2000, ↓reduceIte, Nat.reduceEqDiff] at h4; omega)
  · refine J_aload_n dX2_sees_7 rfl rfl ?_
    refine J_getf dX2_sees_8 fl_X2_39 (hD.at 0 rfl) rfl ?_
    refine J_aload_n dX2_sees_11 rfl rfl ?_
    refine J_getf dX2_sees_12 fl_X2_12 (hD.at 0 rfl) rfl ?_
    refine J_getf dX2_sees_15 fl_X2_273 (hT.at 0 rfl) rfl ?_
    refine J_icmp_ge (tgt := 41) dX2_sees_18 rfl (fun h18 => ?_) (fun h18 => ?_)
    · first | (exfalso; simp only [i_lt, i_le, i_eq, i_0, i_1, i_2, i_3, i_4, i_5, i_6, i_8, i_9, i_10, i_12, i_16, i_20, i_m1, i_400, i_2000] at h18; omega) | (exfalso; simp only [s_up, a_up, va_up, i_lt, i_le, i_eq, i_0, i_1, i_2, i_3, i_4, i_5, i_6, i_8, i_9, i_10, i_12, i_16, i_20, i_m1, i_400, i_2000, ↓reduceIte, Nat.reduceEqDiff] at h18; omega)
    · refine J_aload_n dX2_sees_21 rfl rfl ?_
      refine J_getf dX2_sees_22 fl_X2_12 (hD.at 0 rfl) rfl ?_
      refine J_getf dX2_sees_25 fl_X2_276 (hT.at 0 rfl) rfl ?_
      refine J_aload_n dX2_sees_28 rfl rfl ?_
      refine J_getf dX2_sees_29 fl_X2_39 (hD.at 0 rfl) rfl ?_
      refine J_aaldN k dX2_sees_32 (hT.at 2 rfl) rfl (by omega) (by decide) ?_
      refine J_aload_n dX2_sees_33 rfl rfl ?_
      refine J_acmp_ne (tgt := 41) (rx := sg k) (ry := some v) dX2_sees_34 rfl (fun q h => by rw [hsg] at h; cases h; exact scG_lt k) (fun q h => by cases h; exact hv) (fun h34 => ?_) (fun h34 => ?_)
      · have hz : ¬ scG T0 len k = v := fun z => h34 (by rw [hsg, z])
        refine J_iconst (v := 0) dX2_sees_41 (by decide) ?_
        refine J_ireturn dX2_sees_42 rfl rfl (by decide) (by decide) ?_
        first | exact ⟨by rw [xx_bf hz], rfl, rfl⟩ | exact ⟨by rw [xx_bt hz], rfl, rfl⟩
      · have hz : scG T0 len k = v := by rw [hsg] at h34; exact Option.some.inj h34
        refine J_iconst (v := 1) dX2_sees_37 (by decide) ?_
        refine J_goto (tgt := 42) dX2_sees_38 rfl ?_
        refine J_ireturn dX2_sees_42 rfl rfl (by decide) (by decide) ?_
        first | exact ⟨by rw [xx_bf hz], rfl, rfl⟩ | exact ⟨by rw [xx_bt hz], rfl, rfl⟩
/-- what a parser leaves behind -/
def emS (R : xS) (q : Int32 × Int32) : xS := emF R (R.1 3).toNatClampNeg q.1 q.2
def emL (R : xS) (em : List (Int32 × Int32)) : xS := em.foldl emS R
theorem emL_app (a c : List (Int32 × Int32)) : emL R (a ++ c) = emL (emL R a) c := List.foldl_append
theorem emS_3 {m : Nat} (h : R.1 3 = nI m) (q : Int32 × Int32) : (emS R q).1 3 = nI (m + 1) := by
  show va_up R.1 3 (R.1 3 + 1) 3 = _
  rw [h, nI_1]
  rfl
theorem emL_3 : ∀ (em : List (Int32 × Int32)) {R : xS} {m : Nat}, R.1 3 = nI m → (emL R em).1 3 = nI (m + em.length) := by
  intro em
  induction em with
  | nil => intro R m h; exact h
  | cons q em ih =>
    intro R m h
    show (emL (emS R q) em).1 3 = _
    rw [ih (emS_3 h q), List.length_cons]
    congr 1
    omega
theorem emF_L {m : Nat} (hm : R.1 3 = nI m) (h : m < 2 ^ 31) (op x : Int32) : emF R m op x = emL R [(op, x)] := by
  show _ = emF R (R.1 3).toNatClampNeg op x
  rw [hm, nI_clamp h]
theorem wR_emL {bu m : Nat} {op x : Int32} (hm : R.1 3 = nI m) (h : m < 2 ^ 31) (w : xx_w bu (layR bu (emF R m op x)) A) : xx_w bu (layR bu (emL R [(op, x)])) A := by
  rw [← emF_L hm h]; exact w
def rdQ (b n : Nat) (D T R : xS) (sg : Nat → Option Nat) (r : Res) (A : xx_H) : xx_Q := xx_wr (some (.int (xx_b (r.1 = true)))) n (fun A' => rdW b (atD D r.2.1) T (emL R r.2.2) sg A' ∧ xx_same b (b + 15) A A')
/-- .. that lays no step -/
def rdQ0 (b n : Nat) (D T R : xS) (sg : Nat → Option Nat) (r : Res) (A : xx_H) : xx_Q := xx_wr (some (.int (xx_b (r.1 = true)))) n (fun A' => rdW b (atD D r.2.1) T R sg A' ∧ xx_same b (b + 15) A A')
theorem rdL {r : Res} {v : Int32} {R' : xS} (ok : Bool) (k' : Nat) (em : List (Int32 × Int32)) (e : r = (ok, k', em)) (hv : v = xx_b (ok = true)) (hD : xx_w b (layD (b + 1) (b + 6) b (atD D k')) A') (hT : xx_w (b + 1) (layT sg (b + 1) T) A') (hR : xx_w (b + 6) (layR (b + 6) R') A') (he : R' = emL R em) (hs : xx_same b (b + 15) A A') : rdQ b n D T R sg r A (.inl (some (.int v))) A' n := by
  subst e hv he
  exact ⟨rfl, rfl, ⟨hD, hT, hR⟩, hs⟩
theorem rdL0 {r : Res} {v : Int32} (ok : Bool) (k' : Nat) (e : r = (ok, k', [])) (hv : v = xx_b (ok = true)) (hD : xx_w b (layD (b + 1) (b + 6) b (atD D k')) A') (hT : xx_w (b + 1) (layT sg (b + 1) T) A') (hR : xx_w (b + 6) (layR (b + 6) R) A') (hs : xx_same b (b + 15) A A') : rdQ0 b n D T R sg r A (.inl (some (.int v))) A' n := by
  subst e hv
  exact ⟨rfl, rfl, ⟨hD, hT, hR⟩, hs⟩
theorem nar_b {P : Prop} [Decidable P] : narrow .boolean (.int (xx_b P)) = .int (xx_b P) := by unfold xx_b; split <;> rfl
theorem eat_t {tk : Nat → Nat} {v k : Nat} : (eat tk v k).1 = true ↔ tk k = v := by unfold eat; split <;> simp_all
theorem eat_t2 {tk : Nat → Nat} {v k : Nat} (h : tk k = v) : (eat tk v k).2.1 = k + 1 := by unfold eat; rw [if_pos h]
theorem eat_f2 {tk : Nat → Nat} {v k : Nat} (h : ¬ tk k = v) : (eat tk v k).2.1 = k := by unfold eat; rw [if_neg h]
theorem dpt_t {tk : Nat → Nat} {d v k : Nat} : (dpt tk d v k).1 = true ↔ d < 8 ∧ tk k = v := by unfold dpt; split <;> simp_all
theorem dpt_t2 {tk : Nat → Nat} {d v k : Nat} (h : d < 8 ∧ tk k = v) : (dpt tk d v k).2.1 = k + 1 := by unfold dpt; rw [if_pos h]
theorem dpt_f2 {tk : Nat → Nat} {d v k : Nat} (h : ¬ (d < 8 ∧ tk k = v)) : (dpt tk d v k).2.1 = k := by unfold dpt; rw [if_neg h]
theorem c_X2_takes (hst : l.stackTraces = false) {k : Nat} (hW : rdW b (atD D k) T R sg A) (hc : tkc T0 len tok sg T) (hk : k < tok) {v : Nat} (hv : v < 39) : xx_C G l yX2_takes mX2_takes 1 21 0 0 [.ref b, .ref v] A n (rdQ0 b n D T R sg (eat (scG T0 len) v k) A) := by
  have hc0 := hc
  obtain ⟨hD, hT, hR⟩ := hW
  obtain ⟨hl1, hl2, ht0, ht1, hscn, hnx, hlast⟩ := hc

  refine J_C hst (by decide +kernel) rfl rfl rfl (Nat.le_of_ble_eq_true rfl) ?_
  show xx_J _ _ _ _ _ _ _ _ 0 [(0, _), (1, _)] [] _ _ _ _
  refine J_aload_n dX2_takes_0 rfl rfl ?_
  refine J_aload_n dX2_takes_1 rfl rfl ?_
  refine J_callVr (As := [_]) dX2_takes_2 ml_X2_57 cal_X2_sees im_X2_sees se_X2_sees (hD.at 0 rfl) rfl rfl rfl (Nat.le_of_ble_eq_true rfl) ⟨by decide, by decide⟩ ⟨by decide, by decide⟩ (c_X2_sees hst ⟨hD, hT, hR⟩ hc0 hk (v := v) hv) ?_
  refine J_ifb_ne (tgt := 10) dX2_takes_5 rfl (fun h5 => ?_) (fun h5 => ?_)
  · refine J_aload_n dX2_takes_10 rfl rfl ?_
    refine J_dup dX2_takes_11 rfl ?_
    refine J_getf dX2_takes_12 fl_X2_39 (hD.at 0 rfl) rfl ?_
    refine J_iconst (v := 1) dX2_takes_15 (by decide) ?_
    refine J_iadd dX2_takes_16 ?_
    refine J_putf dX2_takes_17 fp_X2_39 (fun _ => ⟨rfl, rfl⟩) (hD.at 0 rfl) (Nat.le_of_ble_eq_true rfl) ?_
    refine J_gen (wD_s0_6 hD _) ((xx_same.rf (b := b) (e := b + 15)).put (by omega) (by omega) _) (fun A1 w1 s1 o1 => ?_)
    have w1R := hR.o2 o1 (m := 6) rfl (by omega)
    have w1T := hT.o2 o1 (m := 5) rfl (by omega)
    refine J_iconst (v := 1) dX2_takes_20 (by decide) ?_
    refine J_ireturn dX2_takes_21 rfl rfl (by decide) (by decide) ?_
    first | exact rdL0 false k (by unfold eat; rw [if_neg h5]) rfl w1 w1T w1R s1 | exact rdL0 true (k + 1) (by unfold eat; rw [if_pos h5]) rfl (atD_1 w1) w1T w1R s1
  · refine J_iconst (v := 0) dX2_takes_8 (by decide) ?_
    refine J_ireturn dX2_takes_9 rfl rfl (by decide) (by decide) ?_
    first | exact rdL0 false k (by unfold eat; rw [if_neg h5]) rfl hD hT hR (xx_same.rf (b := b) (e := b + 15)) | exact rdL0 true (k + 1) (by unfold eat; rw [if_pos h5]) rfl (atD_1 hD) hT hR (xx_same.rf (b := b) (e := b + 15))
theorem c_X2_takesDeeper (hst : l.stackTraces = false) {k : Nat} (hW : rdW b (atD D k) T R sg A) (hc : tkc T0 len tok sg T) (hk : k < tok) {v : Nat} (hv : v < 39) {d : Nat} {y : Int32} (hy : y = nI d) (hd8 : d ≤ 8) : xx_C G l yX2_takesDeeper mX2_takesDeeper 1 21 0 0 [.ref b, .ref v, .int y] A n (rdQ0 b n D T R sg (dpt (scG T0 len) d v k) A) := by
  have hc0 := hc
  obtain ⟨hD, hT, hR⟩ := hW
  obtain ⟨hl1, hl2, ht0, ht1, hscn, hnx, hlast⟩ := hc
  have ey : y.toInt = d := by rw [hy]; exact i_n (by omega)
  refine J_C hst (by decide +kernel) rfl rfl rfl (Nat.le_of_ble_eq_true rfl) ?_
  show xx_J _ _ _ _ _ _ _ _ 0 [(0, _), (1, _), (2, _)] [] _ _ _ _
  refine J_iload_n dX2_takesDeeper_0 rfl rfl ?_
  refine J_bipush (v := 8) dX2_takesDeeper_1 (by decide) ?_
  refine J_icmp_ge (tgt := 14) dX2_takesDeeper_3 rfl (fun h3 => ?_) (fun h3 => ?_)
  · have h8 : ¬ d < 8 := fun z => by simp only [i_lt, i_le, i_eq, i_0, i_1, i_2, i_3, i_4, i_5, i_6, i_8, i_9, i_10, i_12, i_16, i_20, i_m1] at h3; omega
    refine J_iconst (v := 0) dX2_takesDeeper_14 (by decide) ?_
    refine J_ireturn dX2_takesDeeper_15 rfl rfl (by decide) (by decide) ?_
    first | exact rdL0 false k (by unfold dpt; rw [if_neg (fun z => h8 z.1)]) rfl hD hT hR (xx_same.rf (b := b) (e := b + 15)) | exact rdL0 false k (by unfold dpt; rw [if_neg (fun z => h11 z.2)]) rfl hD hT hR (xx_same.rf (b := b) (e := b + 15)) | exact rdL0 true (k + 1) (by unfold dpt; rw [if_pos ⟨h8, h11⟩]) rfl (atD_1 hD) hT hR (xx_same.rf (b := b) (e := b + 15))
  · have h8 : d < 8 := by simp only [i_lt, i_le, i_eq, i_0, i_1, i_2, i_3, i_4, i_5, i_6, i_8, i_9, i_10, i_12, i_16, i_20, i_m1] at h3; omega
    refine J_aload_n dX2_takesDeeper_6 rfl rfl ?_
    refine J_aload_n dX2_takesDeeper_7 rfl rfl ?_
    refine J_callVr (As := [_]) dX2_takesDeeper_8 ml_X2_57 cal_X2_sees im_X2_sees se_X2_sees (hD.at 0 rfl) rfl rfl rfl (Nat.le_of_ble_eq_true rfl) ⟨by decide, by decide⟩ ⟨by decide, by decide⟩ (c_X2_sees hst ⟨hD, hT, hR⟩ hc0 hk (v := v) hv) ?_
    refine J_ifb_ne (tgt := 16) dX2_takesDeeper_11 rfl (fun h11 => ?_) (fun h11 => ?_)
    · refine J_aload_n dX2_takesDeeper_16 rfl rfl ?_
      refine J_dup dX2_takesDeeper_17 rfl ?_
      refine J_getf dX2_takesDeeper_18 fl_X2_39 (hD.at 0 rfl) rfl ?_
      refine J_iconst (v := 1) dX2_takesDeeper_21 (by decide) ?_
      refine J_iadd dX2_takesDeeper_22 ?_
      refine J_putf dX2_takesDeeper_23 fp_X2_39 (fun _ => ⟨rfl, rfl⟩) (hD.at 0 rfl) (Nat.le_of_ble_eq_true rfl) ?_
      refine J_gen (wD_s0_6 hD _) ((xx_same.rf (b := b) (e := b + 15)).put (by omega) (by omega) _) (fun A1 w1 s1 o1 => ?_)
      have w1R := hR.o2 o1 (m := 6) rfl (by omega)
      have w1T := hT.o2 o1 (m := 5) rfl (by omega)
      refine J_iconst (v := 1) dX2_takesDeeper_26 (by decide) ?_
      refine J_ireturn dX2_takesDeeper_27 rfl rfl (by decide) (by decide) ?_
      first | exact rdL0 false k (by unfold dpt; rw [if_neg (fun z => h8 z.1)]) rfl w1 w1T w1R s1 | exact rdL0 false k (by unfold dpt; rw [if_neg (fun z => h11 z.2)]) rfl w1 w1T w1R s1 | exact rdL0 true (k + 1) (by unfold dpt; rw [if_pos ⟨h8, h11⟩]) rfl (atD_1 w1) w1T w1R s1
    · refine J_iconst (v := 0) dX2_takesDeeper_14 (by decide) ?_
      refine J_ireturn dX2_takesDeeper_15 rfl rfl (by decide) (by decide) ?_
      first | exact rdL0 false k (by unfold dpt; rw [if_neg (fun z => h8 z.1)]) rfl hD hT hR (xx_same.rf (b := b) (e := b + 15)) | exact rdL0 false k (by unfold dpt; rw [if_neg (fun z => h11 z.2)]) rfl hD hT hR (xx_same.rf (b := b) (e := b + 15)) | exact rdL0 true (k + 1) (by unfold dpt; rw [if_pos ⟨h8, h11⟩]) rfl (atD_1 hD) hT hR (xx_same.rf (b := b) (e := b + 15))
theorem c_X2_countSeen (hst : l.stackTraces = false) {k : Nat} (hW : rdW b (atD D k) T R sg A) (hc : tkc T0 len tok sg T) (hk : k < tok) : xx_C G l yX2_countSeen mX2_countSeen 1 21 0 0 [.ref b] A n (xx_ro (some (.int (cntT (scG T0 len k)))) A n) := by
  have hc0 := hc
  obtain ⟨hD, hT, hR⟩ := hW
  obtain ⟨hl1, hl2, ht0, ht1, hscn, hnx, hlast⟩ := hc

  refine J_C hst (by decide +kernel) rfl rfl rfl (Nat.le_of_ble_eq_true rfl) ?_
  show xx_J _ _ _ _ _ _ _ _ 0 [(0, _)] [] _ _ _ _
  refine J_aload_n dX2_countSeen_0 rfl rfl ?_
  refine J_gets (v := .ref 1) dX2_countSeen_1 (gs_mem 1 (by decide)) (show (1 : Nat) < 400 by decide) sl_X2_102 ?_
  refine J_callVr (As := [_]) dX2_countSeen_4 ml_X2_57 cal_X2_sees im_X2_sees se_X2_sees (hD.at 0 rfl) rfl rfl rfl (Nat.le_of_ble_eq_true rfl) ⟨by decide, by decide⟩ ⟨by decide, by decide⟩ (c_X2_sees hst ⟨hD, hT, hR⟩ hc0 hk (v := 1) (by decide)) ?_
  refine J_ifb_eq (tgt := 14) dX2_countSeen_7 rfl (fun h7 => ?_) (fun h7 => ?_)
  · refine J_aload_n dX2_countSeen_14 rfl rfl ?_
    refine J_gets (v := .ref 11) dX2_countSeen_15 (gs_mem 11 (by decide)) (show (11 : Nat) < 400 by decide) sl_X2_261 ?_
    refine J_callVr (As := [_]) dX2_countSeen_18 ml_X2_57 cal_X2_sees im_X2_sees se_X2_sees (hD.at 0 rfl) rfl rfl rfl (Nat.le_of_ble_eq_true rfl) ⟨by decide, by decide⟩ ⟨by decide, by decide⟩ (c_X2_sees hst ⟨hD, hT, hR⟩ hc0 hk (v := 11) (by decide)) ?_
    refine J_ifb_eq (tgt := 28) dX2_countSeen_21 rfl (fun h21 => ?_) (fun h21 => ?_)
    · refine J_aload_n dX2_countSeen_28 rfl rfl ?_
      refine J_gets (v := .ref 13) dX2_countSeen_29 (gs_mem 13 (by decide)) (show (13 : Nat) < 400 by decide) sl_X2_264 ?_
      refine J_callVr (As := [_]) dX2_countSeen_32 ml_X2_57 cal_X2_sees im_X2_sees se_X2_sees (hD.at 0 rfl) rfl rfl rfl (Nat.le_of_ble_eq_true rfl) ⟨by decide, by decide⟩ ⟨by decide, by decide⟩ (c_X2_sees hst ⟨hD, hT, hR⟩ hc0 hk (v := 13) (by decide)) ?_
      refine J_ifb_eq (tgt := 43) dX2_countSeen_35 rfl (fun h35 => ?_) (fun h35 => ?_)
      · refine J_aload_n dX2_countSeen_43 rfl rfl ?_
        refine J_gets (v := .ref 14) dX2_countSeen_44 (gs_mem 14 (by decide)) (show (14 : Nat) < 400 by decide) sl_X2_267 ?_
        refine J_callVr (As := [_]) dX2_countSeen_47 ml_X2_57 cal_X2_sees im_X2_sees se_X2_sees (hD.at 0 rfl) rfl rfl rfl (Nat.le_of_ble_eq_true rfl) ⟨by decide, by decide⟩ ⟨by decide, by decide⟩ (c_X2_sees hst ⟨hD, hT, hR⟩ hc0 hk (v := 14) (by decide)) ?_
        refine J_ifb_eq (tgt := 58) dX2_countSeen_50 rfl (fun h50 => ?_) (fun h50 => ?_)
        · refine J_aload_n dX2_countSeen_58 rfl rfl ?_
          refine J_gets (v := .ref 4) dX2_countSeen_59 (gs_mem 4 (by decide)) (show (4 : Nat) < 400 by decide) sl_X2_270 ?_
          refine J_callVr (As := [_]) dX2_countSeen_62 ml_X2_57 cal_X2_sees im_X2_sees se_X2_sees (hD.at 0 rfl) rfl rfl rfl (Nat.le_of_ble_eq_true rfl) ⟨by decide, by decide⟩ ⟨by decide, by decide⟩ (c_X2_sees hst ⟨hD, hT, hR⟩ hc0 hk (v := 4) (by decide)) ?_
          refine J_ifb_eq (tgt := 72) dX2_countSeen_65 rfl (fun h65 => ?_) (fun h65 => ?_)
          · refine J_aload_n dX2_countSeen_72 rfl rfl ?_
            refine J_gets (v := .ref 2) dX2_countSeen_73 (gs_mem 2 (by decide)) (show (2 : Nat) < 400 by decide) sl_X2_71 ?_
            refine J_callVr (As := [_]) dX2_countSeen_76 ml_X2_57 cal_X2_sees im_X2_sees se_X2_sees (hD.at 0 rfl) rfl rfl rfl (Nat.le_of_ble_eq_true rfl) ⟨by decide, by decide⟩ ⟨by decide, by decide⟩ (c_X2_sees hst ⟨hD, hT, hR⟩ hc0 hk (v := 2) (by decide)) ?_
            refine J_ifb_eq (tgt := 86) dX2_countSeen_79 rfl (fun h79 => ?_) (fun h79 => ?_)
            · refine J_bipush (v := 10) dX2_countSeen_86 (by decide) ?_
              refine J_ireturn dX2_countSeen_88 rfl rfl (by decide) (by decide) ?_
              refine ⟨congrArg (fun v => Sum.inl (some (Value.int v))) ?_, rfl, rfl⟩
              unfold cntT
              first | (rw [if_pos h7]; done) | (rw [if_neg h7, if_pos h21]; done) | (rw [if_neg h7, if_neg h21, if_pos h35]; done) | (rw [if_neg h7, if_neg h21, if_neg h35, if_pos h50]; done) | (rw [if_neg h7, if_neg h21, if_neg h35, if_neg h50, if_pos h65]; done) | (rw [if_neg h7, if_neg h21, if_neg h35, if_neg h50, if_neg h65, if_pos h79]; done) | (rw [if_neg h7, if_neg h21, if_neg h35, if_neg h50, if_neg h65, if_neg h79]; done)
            · refine J_iconst (v := 1) dX2_countSeen_82 (by decide) ?_
              refine J_goto (tgt := 88) dX2_countSeen_83 rfl ?_
              refine J_ireturn dX2_countSeen_88 rfl rfl (by decide) (by decide) ?_
              refine ⟨congrArg (fun v => Sum.inl (some (Value.int v))) ?_, rfl, rfl⟩
              unfold cntT
              first | (rw [if_pos h7]; done) | (rw [if_neg h7, if_pos h21]; done) | (rw [if_neg h7, if_neg h21, if_pos h35]; done) | (rw [if_neg h7, if_neg h21, if_neg h35, if_pos h50]; done) | (rw [if_neg h7, if_neg h21, if_neg h35, if_neg h50, if_pos h65]; done) | (rw [if_neg h7, if_neg h21, if_neg h35, if_neg h50, if_neg h65, if_pos h79]; done) | (rw [if_neg h7, if_neg h21, if_neg h35, if_neg h50, if_neg h65, if_neg h79]; done)
          · refine J_iconst (v := 5) dX2_countSeen_68 (by decide) ?_
            refine J_goto (tgt := 88) dX2_countSeen_69 rfl ?_
            refine J_ireturn dX2_countSeen_88 rfl rfl (by decide) (by decide) ?_
            refine ⟨congrArg (fun v => Sum.inl (some (Value.int v))) ?_, rfl, rfl⟩
            unfold cntT
            first | (rw [if_pos h7]; done) | (rw [if_neg h7, if_pos h21]; done) | (rw [if_neg h7, if_neg h21, if_pos h35]; done) | (rw [if_neg h7, if_neg h21, if_neg h35, if_pos h50]; done) | (rw [if_neg h7, if_neg h21, if_neg h35, if_neg h50, if_pos h65]; done) | (rw [if_neg h7, if_neg h21, if_neg h35, if_neg h50, if_neg h65, if_pos h79]; done) | (rw [if_neg h7, if_neg h21, if_neg h35, if_neg h50, if_neg h65, if_neg h79]; done)
        · refine J_bipush (v := 7) dX2_countSeen_53 (by decide) ?_
          refine J_goto (tgt := 88) dX2_countSeen_55 rfl ?_
          refine J_ireturn dX2_countSeen_88 rfl rfl (by decide) (by decide) ?_
          refine ⟨congrArg (fun v => Sum.inl (some (Value.int v))) ?_, rfl, rfl⟩
          unfold cntT
          first | (rw [if_pos h7]; done) | (rw [if_neg h7, if_pos h21]; done) | (rw [if_neg h7, if_neg h21, if_pos h35]; done) | (rw [if_neg h7, if_neg h21, if_neg h35, if_pos h50]; done) | (rw [if_neg h7, if_neg h21, if_neg h35, if_neg h50, if_pos h65]; done) | (rw [if_neg h7, if_neg h21, if_neg h35, if_neg h50, if_neg h65, if_pos h79]; done) | (rw [if_neg h7, if_neg h21, if_neg h35, if_neg h50, if_neg h65, if_neg h79]; done)
      · refine J_bipush (v := 6) dX2_countSeen_38 (by decide) ?_
        refine J_goto (tgt := 88) dX2_countSeen_40 rfl ?_
        refine J_ireturn dX2_countSeen_88 rfl rfl (by decide) (by decide) ?_
        refine ⟨congrArg (fun v => Sum.inl (some (Value.int v))) ?_, rfl, rfl⟩
        unfold cntT
        first | (rw [if_pos h7]; done) | (rw [if_neg h7, if_pos h21]; done) | (rw [if_neg h7, if_neg h21, if_pos h35]; done) | (rw [if_neg h7, if_neg h21, if_neg h35, if_pos h50]; done) | (rw [if_neg h7, if_neg h21, if_neg h35, if_neg h50, if_pos h65]; done) | (rw [if_neg h7, if_neg h21, if_neg h35, if_neg h50, if_neg h65, if_pos h79]; done) | (rw [if_neg h7, if_neg h21, if_neg h35, if_neg h50, if_neg h65, if_neg h79]; done)
    · refine J_iconst (v := 2) dX2_countSeen_24 (by decide) ?_
      refine J_goto (tgt := 88) dX2_countSeen_25 rfl ?_
      refine J_ireturn dX2_countSeen_88 rfl rfl (by decide) (by decide) ?_
      refine ⟨congrArg (fun v => Sum.inl (some (Value.int v))) ?_, rfl, rfl⟩
      unfold cntT
      first | (rw [if_pos h7]; done) | (rw [if_neg h7, if_pos h21]; done) | (rw [if_neg h7, if_neg h21, if_pos h35]; done) | (rw [if_neg h7, if_neg h21, if_neg h35, if_pos h50]; done) | (rw [if_neg h7, if_neg h21, if_neg h35, if_neg h50, if_pos h65]; done) | (rw [if_neg h7, if_neg h21, if_neg h35, if_neg h50, if_neg h65, if_pos h79]; done) | (rw [if_neg h7, if_neg h21, if_neg h35, if_neg h50, if_neg h65, if_neg h79]; done)
  · refine J_iconst (v := 0) dX2_countSeen_10 (by decide) ?_
    refine J_goto (tgt := 88) dX2_countSeen_11 rfl ?_
    refine J_ireturn dX2_countSeen_88 rfl rfl (by decide) (by decide) ?_
    refine ⟨congrArg (fun v => Sum.inl (some (Value.int v))) ?_, rfl, rfl⟩
    unfold cntT
    first | (rw [if_pos h7]; done) | (rw [if_neg h7, if_pos h21]; done) | (rw [if_neg h7, if_neg h21, if_pos h35]; done) | (rw [if_neg h7, if_neg h21, if_neg h35, if_pos h50]; done) | (rw [if_neg h7, if_neg h21, if_neg h35, if_neg h50, if_pos h65]; done) | (rw [if_neg h7, if_neg h21, if_neg h35, if_neg h50, if_neg h65, if_pos h79]; done) | (rw [if_neg h7, if_neg h21, if_neg h35, if_neg h50, if_neg h65, if_neg h79]; done)
theorem c_X2_comparisonSeen (hst : l.stackTraces = false) {k : Nat} (hW : rdW b (atD D k) T R sg A) (hc : tkc T0 len tok sg T) (hk : k < tok) : xx_C G l yX2_comparisonSeen mX2_comparisonSeen 1 21 0 0 [.ref b] A n (xx_ro (some (.int (cmpT (scG T0 len k)))) A n) := by
  have hc0 := hc
  obtain ⟨hD, hT, hR⟩ := hW
  obtain ⟨hl1, hl2, ht0, ht1, hscn, hnx, hlast⟩ := hc

  refine J_C hst (by decide +kernel) rfl rfl rfl (Nat.le_of_ble_eq_true rfl) ?_
  show xx_J _ _ _ _ _ _ _ _ 0 [(0, _)] [] _ _ _ _
  refine J_aload_n dX2_comparisonSeen_0 rfl rfl ?_
  refine J_gets (v := .ref 30) dX2_comparisonSeen_1 (gs_mem 30 (by decide)) (show (30 : Nat) < 400 by decide) sl_X2_193 ?_
  refine J_callVr (As := [_]) dX2_comparisonSeen_4 ml_X2_57 cal_X2_sees im_X2_sees se_X2_sees (hD.at 0 rfl) rfl rfl rfl (Nat.le_of_ble_eq_true rfl) ⟨by decide, by decide⟩ ⟨by decide, by decide⟩ (c_X2_sees hst ⟨hD, hT, hR⟩ hc0 hk (v := 30) (by decide)) ?_
  refine J_ifb_eq (tgt := 15) dX2_comparisonSeen_7 rfl (fun h7 => ?_) (fun h7 => ?_)
  · refine J_aload_n dX2_comparisonSeen_15 rfl rfl ?_
    refine J_gets (v := .ref 31) dX2_comparisonSeen_16 (gs_mem 31 (by decide)) (show (31 : Nat) < 400 by decide) sl_X2_196 ?_
    refine J_callVr (As := [_]) dX2_comparisonSeen_19 ml_X2_57 cal_X2_sees im_X2_sees se_X2_sees (hD.at 0 rfl) rfl rfl rfl (Nat.le_of_ble_eq_true rfl) ⟨by decide, by decide⟩ ⟨by decide, by decide⟩ (c_X2_sees hst ⟨hD, hT, hR⟩ hc0 hk (v := 31) (by decide)) ?_
    refine J_ifb_eq (tgt := 30) dX2_comparisonSeen_22 rfl (fun h22 => ?_) (fun h22 => ?_)
    · refine J_aload_n dX2_comparisonSeen_30 rfl rfl ?_
      refine J_gets (v := .ref 32) dX2_comparisonSeen_31 (gs_mem 32 (by decide)) (show (32 : Nat) < 400 by decide) sl_X2_199 ?_
      refine J_callVr (As := [_]) dX2_comparisonSeen_34 ml_X2_57 cal_X2_sees im_X2_sees se_X2_sees (hD.at 0 rfl) rfl rfl rfl (Nat.le_of_ble_eq_true rfl) ⟨by decide, by decide⟩ ⟨by decide, by decide⟩ (c_X2_sees hst ⟨hD, hT, hR⟩ hc0 hk (v := 32) (by decide)) ?_
      refine J_ifb_eq (tgt := 45) dX2_comparisonSeen_37 rfl (fun h37 => ?_) (fun h37 => ?_)
      · refine J_aload_n dX2_comparisonSeen_45 rfl rfl ?_
        refine J_gets (v := .ref 33) dX2_comparisonSeen_46 (gs_mem 33 (by decide)) (show (33 : Nat) < 400 by decide) sl_X2_202 ?_
        refine J_callVr (As := [_]) dX2_comparisonSeen_49 ml_X2_57 cal_X2_sees im_X2_sees se_X2_sees (hD.at 0 rfl) rfl rfl rfl (Nat.le_of_ble_eq_true rfl) ⟨by decide, by decide⟩ ⟨by decide, by decide⟩ (c_X2_sees hst ⟨hD, hT, hR⟩ hc0 hk (v := 33) (by decide)) ?_
        refine J_ifb_eq (tgt := 60) dX2_comparisonSeen_52 rfl (fun h52 => ?_) (fun h52 => ?_)
        · refine J_aload_n dX2_comparisonSeen_60 rfl rfl ?_
          refine J_gets (v := .ref 34) dX2_comparisonSeen_61 (gs_mem 34 (by decide)) (show (34 : Nat) < 400 by decide) sl_X2_205 ?_
          refine J_callVr (As := [_]) dX2_comparisonSeen_64 ml_X2_57 cal_X2_sees im_X2_sees se_X2_sees (hD.at 0 rfl) rfl rfl rfl (Nat.le_of_ble_eq_true rfl) ⟨by decide, by decide⟩ ⟨by decide, by decide⟩ (c_X2_sees hst ⟨hD, hT, hR⟩ hc0 hk (v := 34) (by decide)) ?_
          refine J_ifb_eq (tgt := 75) dX2_comparisonSeen_67 rfl (fun h67 => ?_) (fun h67 => ?_)
          · refine J_iconst (v := 0) dX2_comparisonSeen_75 (by decide) ?_
            refine J_ireturn dX2_comparisonSeen_76 rfl rfl (by decide) (by decide) ?_
            refine ⟨congrArg (fun v => Sum.inl (some (Value.int v))) ?_, rfl, rfl⟩
            unfold cmpT
            first | (rw [if_pos h7]; done) | (rw [if_neg h7, if_pos h22]; done) | (rw [if_neg h7, if_neg h22, if_pos h37]; done) | (rw [if_neg h7, if_neg h22, if_neg h37, if_pos h52]; done) | (rw [if_neg h7, if_neg h22, if_neg h37, if_neg h52, if_pos h67]; done) | (rw [if_neg h7, if_neg h22, if_neg h37, if_neg h52, if_neg h67]; done)
          · refine J_bipush (v := 18) dX2_comparisonSeen_70 (by decide) ?_
            refine J_goto (tgt := 76) dX2_comparisonSeen_72 rfl ?_
            refine J_ireturn dX2_comparisonSeen_76 rfl rfl (by decide) (by decide) ?_
            refine ⟨congrArg (fun v => Sum.inl (some (Value.int v))) ?_, rfl, rfl⟩
            unfold cmpT
            first | (rw [if_pos h7]; done) | (rw [if_neg h7, if_pos h22]; done) | (rw [if_neg h7, if_neg h22, if_pos h37]; done) | (rw [if_neg h7, if_neg h22, if_neg h37, if_pos h52]; done) | (rw [if_neg h7, if_neg h22, if_neg h37, if_neg h52, if_pos h67]; done) | (rw [if_neg h7, if_neg h22, if_neg h37, if_neg h52, if_neg h67]; done)
        · refine J_bipush (v := 17) dX2_comparisonSeen_55 (by decide) ?_
          refine J_goto (tgt := 76) dX2_comparisonSeen_57 rfl ?_
          refine J_ireturn dX2_comparisonSeen_76 rfl rfl (by decide) (by decide) ?_
          refine ⟨congrArg (fun v => Sum.inl (some (Value.int v))) ?_, rfl, rfl⟩
          unfold cmpT
          first | (rw [if_pos h7]; done) | (rw [if_neg h7, if_pos h22]; done) | (rw [if_neg h7, if_neg h22, if_pos h37]; done) | (rw [if_neg h7, if_neg h22, if_neg h37, if_pos h52]; done) | (rw [if_neg h7, if_neg h22, if_neg h37, if_neg h52, if_pos h67]; done) | (rw [if_neg h7, if_neg h22, if_neg h37, if_neg h52, if_neg h67]; done)
      · refine J_bipush (v := 16) dX2_comparisonSeen_40 (by decide) ?_
        refine J_goto (tgt := 76) dX2_comparisonSeen_42 rfl ?_
        refine J_ireturn dX2_comparisonSeen_76 rfl rfl (by decide) (by decide) ?_
        refine ⟨congrArg (fun v => Sum.inl (some (Value.int v))) ?_, rfl, rfl⟩
        unfold cmpT
        first | (rw [if_pos h7]; done) | (rw [if_neg h7, if_pos h22]; done) | (rw [if_neg h7, if_neg h22, if_pos h37]; done) | (rw [if_neg h7, if_neg h22, if_neg h37, if_pos h52]; done) | (rw [if_neg h7, if_neg h22, if_neg h37, if_neg h52, if_pos h67]; done) | (rw [if_neg h7, if_neg h22, if_neg h37, if_neg h52, if_neg h67]; done)
    · refine J_bipush (v := 15) dX2_comparisonSeen_25 (by decide) ?_
      refine J_goto (tgt := 76) dX2_comparisonSeen_27 rfl ?_
      refine J_ireturn dX2_comparisonSeen_76 rfl rfl (by decide) (by decide) ?_
      refine ⟨congrArg (fun v => Sum.inl (some (Value.int v))) ?_, rfl, rfl⟩
      unfold cmpT
      first | (rw [if_pos h7]; done) | (rw [if_neg h7, if_pos h22]; done) | (rw [if_neg h7, if_neg h22, if_pos h37]; done) | (rw [if_neg h7, if_neg h22, if_neg h37, if_pos h52]; done) | (rw [if_neg h7, if_neg h22, if_neg h37, if_neg h52, if_pos h67]; done) | (rw [if_neg h7, if_neg h22, if_neg h37, if_neg h52, if_neg h67]; done)
  · refine J_bipush (v := 14) dX2_comparisonSeen_10 (by decide) ?_
    refine J_goto (tgt := 76) dX2_comparisonSeen_12 rfl ?_
    refine J_ireturn dX2_comparisonSeen_76 rfl rfl (by decide) (by decide) ?_
    refine ⟨congrArg (fun v => Sum.inl (some (Value.int v))) ?_, rfl, rfl⟩
    unfold cmpT
    first | (rw [if_pos h7]; done) | (rw [if_neg h7, if_pos h22]; done) | (rw [if_neg h7, if_neg h22, if_pos h37]; done) | (rw [if_neg h7, if_neg h22, if_neg h37, if_pos h52]; done) | (rw [if_neg h7, if_neg h22, if_neg h37, if_neg h52, if_pos h67]; done) | (rw [if_neg h7, if_neg h22, if_neg h37, if_neg h52, if_neg h67]; done)
/-- the first error only -/
def neD (D T : xS) (e : Int32) (t : Nat) : xS := if D.1 7 = 0 then s_up (s_up D 7 e) 8 (T.2 3 t) else D
theorem c_X2_noteError (hst : l.stackTraces = false) (hW : rdW b D T R sg A) (hc : tkc T0 len tok sg T) (e : Int32) {t : Nat} {y : Int32} (hy : y = nI t) (ht : t < tok) : xx_C G l yX2_noteError mX2_noteError 2 42 0 0 [.ref b, .int e, .int y] A n (xx_wr none n (fun A' => rdW b (neD D T e t) T R sg A' ∧ xx_same b (b + 15) A A')) := by
  obtain ⟨hD, hT, hR⟩ := hW
  obtain ⟨hl1, hl2, ht0, ht1, hscn, hnx, hlast⟩ := hc

  refine J_C hst (by decide +kernel) rfl rfl rfl (Nat.le_of_ble_eq_true rfl) ?_
  show xx_J _ _ _ _ _ _ _ _ 0 [(0, _), (1, _), (2, _)] [] _ _ _ _
  refine J_aload_n dX2_noteError_0 rfl rfl ?_
  refine J_getf dX2_noteError_1 fl_X2_42 (hD.at 0 rfl) rfl ?_
  refine J_if_ne (tgt := 24) dX2_noteError_4 rfl (fun h4 => ?_) (fun h4 => ?_)
  · refine J_return dX2_noteError_24 rfl (by decide) (by decide) ?_
    refine ⟨rfl, rfl, ⟨?_, hT, hR⟩, (xx_same.rf (b := b) (e := b + 15))⟩
    unfold neD
    first | (rw [if_neg h4]; exact hD) | (rw [if_pos h4]; exact hD)
  · refine J_aload_n dX2_noteError_7 rfl rfl ?_
    refine J_iload_n dX2_noteError_8 rfl rfl ?_
    refine J_putf dX2_noteError_9 fp_X2_42 (fun _ => ⟨rfl, rfl⟩) (hD.at 0 rfl) (Nat.le_of_ble_eq_true rfl) ?_
    refine J_gen (wD_s0_7 hD _) ((xx_same.rf (b := b) (e := b + 15)).put (by omega) (by omega) _) (fun A1 w1 s1 o1 => ?_)
    have w1R := hR.o2 o1 (m := 6) rfl (by omega)
    have w1T := hT.o2 o1 (m := 5) rfl (by omega)
    refine J_aload_n dX2_noteError_12 rfl rfl ?_
    refine J_aload_n dX2_noteError_13 rfl rfl ?_
    refine J_getf dX2_noteError_14 fl_X2_12 (w1.at 0 rfl) rfl ?_
    refine J_iload_n dX2_noteError_17 rfl rfl ?_
    refine J_callVr (As := [_]) dX2_noteError_18 ml_X2_86 cal_X5_start im_X5_start se_X5_start (w1T.at 0 rfl) rfl rfl rfl (Nat.le_of_ble_eq_true rfl) ⟨by decide, by decide⟩ ⟨by decide, by decide⟩ (c_X5_start hst w1T hscn.1 ht1 hy ht) ?_
    refine J_putf dX2_noteError_21 fp_X2_45 (fun _ => ⟨rfl, rfl⟩) (w1.at 0 rfl) (Nat.le_of_ble_eq_true rfl) ?_
    refine J_gen (wD_s0_8 w1 _) (s1.put (by omega) (by omega) _) (fun A2 w2 s2 o2 => ?_)
    have w2R := w1R.o2 o2 (m := 6) rfl (by omega)
    have w2T := w1T.o2 o2 (m := 5) rfl (by omega)
    refine J_return dX2_noteError_24 rfl (by decide) (by decide) ?_
    refine ⟨rfl, rfl, ⟨?_, w2T, w2R⟩, s2⟩
    unfold neD
    first | (rw [if_neg h4]; exact w2) | (rw [if_pos h4]; exact w2)
/-- a number is taken -/
def tnE (D T : xS) (v lo hi : Int32) (k : Nat) : xS := if v < lo ∨ hi < v then neD D T 5 k else D
def tnD (D T : xS) (v lo hi : Int32) (k : Nat) : xS := s_up (tnE D T v lo hi k) 6 ((tnE D T v lo hi k).1 6 + 1)
theorem num_eq (h : scn T0 len tok sg T) (k : Nat) : nmF T len (scE T0 len k - scS T0 len k) (scS T0 len k) 0 = tkN T0 len k := nmF_c h.2.2.1 _ _ _
theorem c_X2_takeNumber (hst : l.stackTraces = false) (hW : rdW b D T R sg A) (hc : tkc T0 len tok sg T) {k : Nat} (hat : D.1 6 = nI k) (hk : k < tok) (hg : scG T0 len k = 36) (lo hi : Int32) : xx_C G l yX2_takeNumber mX2_takeNumber 3 64 0 0 [.ref b, .int lo, .int hi] A n (xx_wr (some (.int (tkN T0 len k))) n (fun A' => rdW b (tnD D T (tkN T0 len k) lo hi k) T R sg A' ∧ xx_same b (b + 15) A A')) := by
  have hc0 := hc
  obtain ⟨hD, hT, hR⟩ := hW
  obtain ⟨hl1, hl2, ht0, ht1, hscn, hnx, hlast⟩ := hc
  have q9 := hscn.2.2.2 k hk
  have q8 := scE_le (T := T0) (len := len) k
  refine J_C hst (by decide +kernel) rfl rfl rfl (Nat.le_of_ble_eq_true rfl) ?_
  show xx_J _ _ _ _ _ _ _ _ 0 [(0, _), (1, _), (2, _)] [] _ _ _ _
  refine J_aload_n dX2_takeNumber_0 rfl rfl ?_
  refine J_getf dX2_takeNumber_1 fl_X2_12 (hD.at 0 rfl) rfl ?_
  refine J_aload_n dX2_takeNumber_4 rfl rfl ?_
  refine J_getf dX2_takeNumber_5 fl_X2_39 (hD.at 0 rfl) rfl ?_
  refine J_callVr (As := [_]) dX2_takeNumber_8 ml_X2_226 cal_X5_number im_X5_number se_X5_number (hT.at 0 rfl) rfl rfl rfl (Nat.le_of_ble_eq_true rfl) ⟨by decide, by decide⟩ ⟨by decide, by decide⟩ ((num_eq hscn k ▸ c_X5_number hst hT (hscn.2.1.trans hl1) hl2 hscn.1 ht1 hat hk (q9.1.trans (congrArg some hg)) q9.2.1 q9.2.2 q8.2 q8.1 : xx_C G l yX5_number mX5_number 1 21 0 0 [.ref (b + 1), .int (D.1 6)] A n (xx_ro (some (.int (tkN T0 len k))) A n))) ?_
  refine J_istore_n (L' := [(3, _), (0, _), (1, _), (2, _)]) dX2_takeNumber_11 rfl (by decide) rfl ?_
  refine J_iload_n dX2_takeNumber_12 rfl rfl ?_
  refine J_iload_n dX2_takeNumber_13 rfl rfl ?_
  refine J_icmp_lt (tgt := 22) dX2_takeNumber_14 rfl (fun h14 => ?_) (fun h14 => ?_)
  · have hh : tkN T0 len k < lo ∨ hi < tkN T0 len k := Or.inl h14
    refine J_aload_n dX2_takeNumber_22 rfl rfl ?_
    refine J_iconst (v := 5) dX2_takeNumber_23 (by decide) ?_
    refine J_aload_n dX2_takeNumber_24 rfl rfl ?_
    refine J_getf dX2_takeNumber_25 fl_X2_39 (hD.at 0 rfl) rfl ?_
    refine J_callVw (As := [_, _]) dX2_takeNumber_28 ml_X2_116 cal_X2_noteError im_X2_noteError se_X2_noteError (hD.at 0 rfl) rfl rfl rfl (Nat.le_of_ble_eq_true rfl) ⟨by decide, by decide⟩ ⟨by decide, by decide⟩ (c_X2_noteError hst ⟨hD, hT, hR⟩ hc0 5 hat hk) (fun A1 hQ1 => ?_)
    obtain ⟨⟨wD1, wT1, wR1⟩, wS1⟩ := hQ1
    refine J_aload_n dX2_takeNumber_31 rfl rfl ?_
    refine J_dup dX2_takeNumber_32 rfl ?_
    refine J_getf dX2_takeNumber_33 fl_X2_39 (wD1.at 0 rfl) rfl ?_
    refine J_iconst (v := 1) dX2_takeNumber_36 (by decide) ?_
    refine J_iadd dX2_takeNumber_37 ?_
    refine J_putf dX2_takeNumber_38 fp_X2_39 (fun _ => ⟨rfl, rfl⟩) (wD1.at 0 rfl) (Nat.le_of_ble_eq_true rfl) ?_
    refine J_gen (wD_s0_6 wD1 _) (((xx_same.rf (b := b) (e := b + 15)).trans wS1).put (by omega) (by omega) _) (fun A2 w2 s2 o2 => ?_)
    have w2R := wR1.o2 o2 (m := 6) rfl (by omega)
    have w2T := wT1.o2 o2 (m := 5) rfl (by omega)
    refine J_iload_n dX2_takeNumber_41 rfl rfl ?_
    refine J_ireturn dX2_takeNumber_42 rfl rfl (by decide) (by decide) ?_
    refine ⟨rfl, rfl, ⟨?_, w2T, w2R⟩, s2⟩
    unfold tnD tnE
    first | (rw [if_pos hh]; exact w2) | (rw [if_neg hh]; exact w2)
  · refine J_iload_n dX2_takeNumber_17 rfl rfl ?_
    refine J_iload_n dX2_takeNumber_18 rfl rfl ?_
    refine J_icmp_le (tgt := 31) dX2_takeNumber_19 rfl (fun h19 => ?_) (fun h19 => ?_)
    · have hh : ¬ (tkN T0 len k < lo ∨ hi < tkN T0 len k) := fun z => z.elim h14 (Int32.not_lt.mpr h19)
      refine J_aload_n dX2_takeNumber_31 rfl rfl ?_
      refine J_dup dX2_takeNumber_32 rfl ?_
      refine J_getf dX2_takeNumber_33 fl_X2_39 (hD.at 0 rfl) rfl ?_
      refine J_iconst (v := 1) dX2_takeNumber_36 (by decide) ?_
      refine J_iadd dX2_takeNumber_37 ?_
      refine J_putf dX2_takeNumber_38 fp_X2_39 (fun _ => ⟨rfl, rfl⟩) (hD.at 0 rfl) (Nat.le_of_ble_eq_true rfl) ?_
      refine J_gen (wD_s0_6 hD _) ((xx_same.rf (b := b) (e := b + 15)).put (by omega) (by omega) _) (fun A3 w3 s3 o3 => ?_)
      have w3R := hR.o2 o3 (m := 6) rfl (by omega)
      have w3T := hT.o2 o3 (m := 5) rfl (by omega)
      refine J_iload_n dX2_takeNumber_41 rfl rfl ?_
      refine J_ireturn dX2_takeNumber_42 rfl rfl (by decide) (by decide) ?_
      refine ⟨rfl, rfl, ⟨?_, w3T, w3R⟩, s3⟩
      unfold tnD tnE
      first | (rw [if_pos hh]; exact w3) | (rw [if_neg hh]; exact w3)
    · have hh : tkN T0 len k < lo ∨ hi < tkN T0 len k := Or.inr (Int32.not_le.mp h19)
      refine J_aload_n dX2_takeNumber_22 rfl rfl ?_
      refine J_iconst (v := 5) dX2_takeNumber_23 (by decide) ?_
      refine J_aload_n dX2_takeNumber_24 rfl rfl ?_
      refine J_getf dX2_takeNumber_25 fl_X2_39 (hD.at 0 rfl) rfl ?_
      refine J_callVw (As := [_, _]) dX2_takeNumber_28 ml_X2_116 cal_X2_noteError im_X2_noteError se_X2_noteError (hD.at 0 rfl) rfl rfl rfl (Nat.le_of_ble_eq_true rfl) ⟨by decide, by decide⟩ ⟨by decide, by decide⟩ (c_X2_noteError hst ⟨hD, hT, hR⟩ hc0 5 hat hk) (fun A4 hQ4 => ?_)
      obtain ⟨⟨wD4, wT4, wR4⟩, wS4⟩ := hQ4
      refine J_aload_n dX2_takeNumber_31 rfl rfl ?_
      refine J_dup dX2_takeNumber_32 rfl ?_
      refine J_getf dX2_takeNumber_33 fl_X2_39 (wD4.at 0 rfl) rfl ?_
      refine J_iconst (v := 1) dX2_takeNumber_36 (by decide) ?_
      refine J_iadd dX2_takeNumber_37 ?_
      refine J_putf dX2_takeNumber_38 fp_X2_39 (fun _ => ⟨rfl, rfl⟩) (wD4.at 0 rfl) (Nat.le_of_ble_eq_true rfl) ?_
      refine J_gen (wD_s0_6 wD4 _) (((xx_same.rf (b := b) (e := b + 15)).trans wS4).put (by omega) (by omega) _) (fun A5 w5 s5 o5 => ?_)
      have w5R := wR4.o2 o5 (m := 6) rfl (by omega)
      have w5T := wT4.o2 o5 (m := 5) rfl (by omega)
      refine J_iload_n dX2_takeNumber_41 rfl rfl ?_
      refine J_ireturn dX2_takeNumber_42 rfl rfl (by decide) (by decide) ?_
      refine ⟨rfl, rfl, ⟨?_, w5T, w5R⟩, s5⟩
      unfold tnD tnE
      first | (rw [if_pos hh]; exact w5) | (rw [if_neg hh]; exact w5)
end XRD
