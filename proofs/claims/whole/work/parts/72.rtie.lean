/-! THE TIE OF THE RULES: what a rule's steps do, on both sides -/
section XRT
variable {S P F F' R : xS} {T : xS} {len tok i j k q s e t d m nw nb n : Nat} {op x : Int32} {em ea ec : List (Int32 × Int32)} {Q Q1 Q2 : Int32 → Prop} {tk : Nat → Nat} {num : Nat → Int32} {rs : RuL} {en : Nat → Nat}
def smR (S P : xS) (i j : Nat) : List (Int32 × Int32) → List Int32 → Option (List Int32)
  | [], u => some u
  | x :: em, u => (stW S P i j (trO x.1 x.2) (trW x.1 x.2) u).bind (smR S P i j em)
def smL (F : xS) (i j : Nat) : List (Int32 × Int32) → List Int32 → List Int32
  | [], u => u
  | x :: em, u => smL F i j em (stepL F i j x.1 x.2 u)
theorem smR_app : ∀ (a c : List (Int32 × Int32)) (u : List Int32), smR S P i j (a ++ c) u = (smR S P i j a u).bind (smR S P i j c) := by
  intro a
  induction a with
  | nil => intro c u; rfl
  | cons x a ih =>
    intro c u
    show (stW S P i j (trO x.1 x.2) (trW x.1 x.2) u).bind (smR S P i j (a ++ c)) = ((stW S P i j (trO x.1 x.2) (trW x.1 x.2) u).bind (smR S P i j a)).bind (smR S P i j c)
    cases stW S P i j (trO x.1 x.2) (trW x.1 x.2) u with
    | none => rfl
    | some w => exact ih c w
theorem smL_app : ∀ (a c : List (Int32 × Int32)) (u : List Int32), smL F i j (a ++ c) u = smL F i j c (smL F i j a u) := by
  intro a
  induction a with
  | nil => intro c u; rfl
  | cons x a ih => intro c u; exact ih c _
/-- steps that leave one value more, and which -/
def vE (Q : Int32 → Prop) (em : List (Int32 × Int32)) : Prop := (∀ x, x ∈ em → stOK x.1 x.2) ∧ ∀ S P i j, ∃ v, Q v ∧ ∀ u, smR S P i j em u = some (v :: u) ∧ (i < 12 → j < 12 → u.length + em.length ≤ 400 → smL (fS S P) i j em u = v :: u)
theorem psh_lt {v : Int32} {u : List Int32} (h : u.length < 400) : psh v u = v :: u := if_pos h
theorem vE_1 (hs : stOK op x) (f : xS → xS → Nat → Nat → Int32) (hQ : ∀ S P i j, Q (f S P i j)) (h1 : ∀ S P i j u, stW S P i j (trO op x) (trW op x) u = some (f S P i j :: u)) (h2 : ∀ S P i j u, i < 12 → j < 12 → stepL (fS S P) i j op x u = psh (f S P i j) u) : vE Q [(op, x)] := by
  refine ⟨fun y hy => ?_, fun S P i j => ⟨f S P i j, hQ S P i j, fun u => ⟨?_, fun hi hj hl => ?_⟩⟩⟩
  · rw [List.mem_singleton.mp hy]; exact hs
  · show (stW S P i j (trO op x) (trW op x) u).bind _ = _
    rw [h1]; rfl
  · show stepL (fS S P) i j op x u = _
    rw [h2 S P i j u hi hj]
    exact psh_lt (by simp only [List.length_singleton] at hl; omega)
abbrev b2 (op : Int32) : Prop := op = 8 ∨ op = 9 ∨ op = 10 ∨ op = 11 ∨ op = 12 ∨ op = 13 ∨ op = 14 ∨ op = 15 ∨ op = 16 ∨ op = 17 ∨ op = 18 ∨ op = 19 ∨ op = 20
theorem rt_bin (h : b2 op) (a c : Int32) (u : List Int32) : stW S P i j (trO op 0) (trW op 0) (c :: a :: u) = some (opJ op a c :: u) ∧ stepL F i j op 0 (c :: a :: u) = psh (opJ op a c) u := by
  rcases h with rfl | rfl | rfl | rfl | rfl | rfl | rfl | rfl | rfl | rfl | rfl | rfl | rfl <;> exact ⟨rfl, rfl⟩
theorem b2_ok (h : b2 op) : stOK op 0 := fun z => by
  rcases h with rfl | rfl | rfl | rfl | rfl | rfl | rfl | rfl | rfl | rfl | rfl | rfl | rfl <;> rcases z with z | z <;> exact absurd z (by decide)
theorem vE_2 (ha : vE Q1 ea) (hc : vE Q2 ec) (h : b2 op) (hQ : ∀ a c, Q1 a → Q2 c → Q (opJ op a c)) : vE Q (ea ++ ec ++ [(op, 0)]) := by
  refine ⟨fun y hy => ?_, fun S P i j => ?_⟩
  · simp only [List.mem_append, List.mem_singleton] at hy
    rcases hy with (hy | hy) | hy
    · exact ha.1 y hy
    · exact hc.1 y hy
    · rw [hy]; exact b2_ok h
  · obtain ⟨a, qa, xa⟩ := ha.2 S P i j
    obtain ⟨c, qc, xc⟩ := hc.2 S P i j
    refine ⟨opJ op a c, hQ a c qa qc, fun u => ⟨?_, fun hi hj hl => ?_⟩⟩
    · rw [smR_app, smR_app, (xa u).1]
      show ((smR S P i j ec (a :: u)).bind _) = _
      rw [(xc _).1]
      show (stW S P i j (trO op 0) (trW op 0) (c :: a :: u)).bind _ = _
      rw [(rt_bin (F := x0) h a c u).1]; rfl
    · simp only [List.length_append, List.length_singleton] at hl
      rw [smL_app, smL_app, (xa u).2 hi hj (by omega), (xc _).2 hi hj (by simp only [List.length_cons]; omega)]
      show stepL (fS S P) i j op 0 (c :: a :: u) = _
      rw [(rt_bin (S := S) (P := P) h a c u).2]
      exact psh_lt (by omega)
theorem rt_un (h : op = 6 ∨ op = 7) (a : Int32) (u : List Int32) : stW S P i j (trO op 0) (trW op 0) (a :: u) = some ((if op = 6 then -a else 1 - a) :: u) ∧ stepL F i j op 0 (a :: u) = psh (if op = 6 then -a else 1 - a) u := by
  rcases h with rfl | rfl <;> exact ⟨rfl, rfl⟩
theorem vE_u (ha : vE Q1 ea) (h : op = 6 ∨ op = 7) (hQ : ∀ a, Q1 a → Q (if op = 6 then -a else 1 - a)) : vE Q (ea ++ [(op, 0)]) := by
  refine ⟨fun y hy => ?_, fun S P i j => ?_⟩
  · simp only [List.mem_append, List.mem_singleton] at hy
    rcases hy with hy | hy
    · exact ha.1 y hy
    · rw [hy]; intro z
      rcases h with rfl | rfl <;> rcases z with z | z <;> exact absurd z (by decide)
  · obtain ⟨a, qa, xa⟩ := ha.2 S P i j
    refine ⟨_, hQ a qa, fun u => ⟨?_, fun hi hj hl => ?_⟩⟩
    · rw [smR_app, (xa u).1]
      show (stW S P i j (trO op 0) (trW op 0) (a :: u)).bind _ = _
      rw [(rt_un (F := x0) h a u).1]; rfl
    · simp only [List.length_append, List.length_singleton] at hl
      rw [smL_app, (xa u).2 hi hj (by omega)]
      show stepL (fS S P) i j op 0 (a :: u) = _
      rw [(rt_un (S := S) (P := P) h a u).2]
      exact psh_lt (by omega)
abbrev qA : Int32 → Prop := fun _ => True
abbrev qB : Int32 → Prop := fun v => v = 0 ∨ v = 1
def pE (Q : Int32 → Prop) (p : Nat → Res) : Prop := ∀ k, (p k).1 = true → vE Q (p k).2.2
theorem bnd_e {r : Res} {f : Nat → Res} (h : (bnd r f).1 = true) : r.1 = true ∧ (f r.2.1).1 = true ∧ (bnd r f).2.2 = r.2.2 ++ (f r.2.1).2.2 := by
  by_cases c : r.1 = true
  · rw [bnd_t c] at h ⊢; exact ⟨c, h, rfl⟩
  · rw [bnd_f c] at h; exact absurd h c
theorem pE_fail : pE Q failW := fun _ h => absurd (show false = true from h) Bool.false_ne_true
theorem dpt_e {v : Nat} : (dpt tk d v k).2.2 = [] := by unfold dpt; split <;> rfl
theorem eat_e {v : Nat} : (eat tk v k).2.2 = [] := by unfold eat; split <;> rfl
theorem pE_lp {oq : Nat → Int32} (ho : ∀ t, ¬ oq t = 0 → b2 (oq t) ∧ ∀ a c, Q a → Q c → Q (opJ (oq t) a c)) {p : Nat → Res} (hp : pE Q p) : ∀ f k em, vE Q em → (lpW tk oq p f k).1 = true → vE Q (em ++ (lpW tk oq p f k).2.2) := by
  intro f
  induction f with
  | zero => intro k em h _; simpa [lpW] using h
  | succ f ih =>
    intro k em h hl
    simp only [lpW] at hl ⊢
    split at hl
    · rename_i c; rw [if_pos c]; simpa using h
    · rename_i c
      rw [if_neg c]
      obtain ⟨h1, h2, h3⟩ := bnd_e hl
      obtain ⟨_, h5, h6⟩ := bnd_e h2
      rw [h3, h6]
      have := ih _ (em ++ (p (k + 1)).2.2 ++ [(oq (tk k), 0)]) (vE_2 h (hp _ h1) (ho _ c).1 (ho _ c).2) h5
      simpa [emt, List.append_assoc] using this
theorem pE_ch {oq : Nat → Int32} (ho : ∀ t, ¬ oq t = 0 → b2 (oq t) ∧ ∀ a c, Q a → Q c → Q (opJ (oq t) a c)) {p : Nat → Res} (hp : pE Q p) : pE Q (chW tk oq p) := fun k h => by
  obtain ⟨h1, h2, h3⟩ := bnd_e h
  unfold chW
  rw [h3]
  exact pE_lp ho hp 401 _ _ (hp k h1) h2
theorem opP_b (h : ¬ opP t = 0) : b2 (opP t) := by
  unfold opP at h ⊢
  split at h
  · rename_i c; rw [if_pos c]; decide
  split at h
  · rename_i c c2; rw [if_neg c, if_pos c2]; decide
  · exact absurd rfl h
theorem opS_b (h : ¬ opS t = 0) : b2 (opS t) := by
  unfold opS at h ⊢
  split at h
  · rename_i c; rw [if_pos c]; decide
  split at h
  · rename_i c c2; rw [if_neg c, if_pos c2]; decide
  · exact absurd rfl h
theorem pE_sum {pv : Nat → Res} (hp : pE qA pv) : pE qA (sumW tk pv) := pE_ch (fun _ h => ⟨opS_b h, fun _ _ _ _ => trivial⟩) (pE_ch (fun _ h => ⟨opP_b h, fun _ _ _ _ => trivial⟩) hp)
theorem an_b {a c : Int32} (ha : qB a) (hc : qB c) : qB (opJ 19 a c) ∧ qB (opJ 20 a c) := by
  rcases ha with rfl | rfl <;> rcases hc with rfl | rfl <;> decide
theorem opA_b (h : ¬ opA t = 0) : b2 (opA t) ∧ ∀ a c, qB a → qB c → qB (opJ (opA t) a c) := by
  unfold opA at h ⊢
  split at h
  · rename_i c; rw [if_pos c]; exact ⟨by decide, fun a c ha hc => (an_b ha hc).1⟩
  · exact absurd rfl h
theorem opO_b (h : ¬ opO t = 0) : b2 (opO t) ∧ ∀ a c, qB a → qB c → qB (opJ (opO t) a c) := by
  unfold opO at h ⊢
  split at h
  · rename_i c; rw [if_pos c]; exact ⟨by decide, fun a c ha hc => (an_b ha hc).2⟩
  · exact absurd rfl h
theorem pE_tst {pv : Nat → Res} (hp : pE qB pv) : pE qB (tstW tk pv) := pE_ch (fun _ h => opO_b h) (pE_ch (fun _ h => opA_b h) hp)
theorem pE_par {o c : Nat} {ps : Nat → Res} (hp : pE Q ps) : pE Q (parW tk d o c ps) := fun k h => by
  obtain ⟨_, h2, h3⟩ := bnd_e h
  obtain ⟨h4, _, h6⟩ := bnd_e h2
  unfold parW
  rw [h3, h6, dpt_e, eat_e, List.nil_append, List.append_nil]
  exact hp _ h4
theorem pE_un {o : Nat} (ho : op = 6 ∨ op = 7) (hQ : ∀ a, Q1 a → Q (if op = 6 then -a else 1 - a)) {p : Nat → Res} (hp : pE Q1 p) (h : (bnd (dpt tk d o k) (fun k => bnd (p k) (emt op 0))).1 = true) : vE Q (bnd (dpt tk d o k) (fun k => bnd (p k) (emt op 0))).2.2 := by
  obtain ⟨_, h2, h3⟩ := bnd_e h
  obtain ⟨h4, _, h6⟩ := bnd_e h2
  rw [h3, h6, dpt_e, List.nil_append]
  exact vE_u (hp _ h4) ho hQ
theorem pE_cho {ps : Nat → Res} (hp : pE qA ps) (h : (choW tk d ps k).1 = true) : vE qA (choW tk d ps k).2.2 := by
  unfold choW at h ⊢
  obtain ⟨_, h2, h3⟩ := bnd_e h
  obtain ⟨h4, h5, h6⟩ := bnd_e h2
  obtain ⟨_, h8, h9⟩ := bnd_e h5
  obtain ⟨h10, h11, h12⟩ := bnd_e h8
  obtain ⟨_, _, h15⟩ := bnd_e h11
  rw [h3, h6, h9, h12, h15, dpt_e, eat_e, eat_e, List.nil_append, List.nil_append, List.nil_append, ← List.append_assoc]
  refine vE_2 (hp _ h4) (hp _ h10) ?_ (fun _ _ _ _ => trivial)
  split <;> decide
theorem cntT_q (h : ¬ cntT t = 10) : cntT t = 0 ∨ cntT t = 1 ∨ cntT t = 2 ∨ cntT t = 5 ∨ cntT t = 6 ∨ cntT t = 7 := by
  unfold cntT at h ⊢
  (repeat' split) <;> simp_all
theorem pE_sid {c : Int32} (hc : c = 0 ∨ c = 1 ∨ c = 2 ∨ c = 5 ∨ c = 6 ∨ c = 7) (h : (sidW tk c k).1 = true) : vE qA (sidW tk c k).2.2 := by
  unfold sidW at h ⊢
  split
  · refine vE_1 (fun _ => ?_) (fun S P i j => cntS S P c.toNatClampNeg i) (fun _ _ _ _ => trivial) (fun S P i j u => ?_) (fun S P i j u hi hj => ?_)
    · rcases hc with rfl | rfl | rfl | rfl | rfl | rfl
      · exact ⟨0, by decide, rfl⟩
      · exact ⟨1, by decide, rfl⟩
      · exact ⟨2, by decide, rfl⟩
      · exact ⟨5, by decide, rfl⟩
      · exact ⟨6, by decide, rfl⟩
      · exact ⟨7, by decide, rfl⟩
    · rcases hc with rfl | rfl | rfl | rfl | rfl | rfl <;> rfl
    · show psh ((fS S P).2 2 (c.toNatClampNeg * 12 + i)) u = _
      rw [fS_c hi]
  split
  · refine vE_1 (fun _ => ?_) (fun S P i j => cntS S P c.toNatClampNeg j) (fun _ _ _ _ => trivial) (fun S P i j u => ?_) (fun S P i j u hi hj => ?_)
    · rcases hc with rfl | rfl | rfl | rfl | rfl | rfl
      · exact ⟨0, by decide, rfl⟩
      · exact ⟨1, by decide, rfl⟩
      · exact ⟨2, by decide, rfl⟩
      · exact ⟨5, by decide, rfl⟩
      · exact ⟨6, by decide, rfl⟩
      · exact ⟨7, by decide, rfl⟩
    · rcases hc with rfl | rfl | rfl | rfl | rfl | rfl <;> rfl
    · show psh ((fS S P).2 2 (c.toNatClampNeg * 12 + j)) u = _
      rw [fS_c hj]
  · rename_i c1 c2
    rw [if_neg c1, if_neg c2] at h
    exact absurd (show false = true from h) Bool.false_ne_true
theorem vE_num : vE qA [(1, x)] := vE_1 (fun z => by rcases z with z | z <;> exact absurd z (by decide)) (fun _ _ _ _ => x) (fun _ _ _ _ => trivial) (fun _ _ _ _ _ => rfl) (fun _ _ _ _ _ _ _ => rfl)
theorem vE_rnd : vE qA [(2, 0)] := vE_1 (fun z => by rcases z with z | z <;> exact absurd z (by decide)) (fun S _ _ _ => S.1 0 - 1) (fun _ _ _ _ => trivial) (fun _ _ _ _ _ => rfl) (fun _ _ _ _ _ _ _ => rfl)
theorem vE_met : vE qB [(5, 0)] := vE_1 (fun z => by rcases z with z | z <;> exact absurd z (by decide)) (fun S _ i j => if 1 < S.2 10 (i * 12 + j) then 1 else 0) (fun S _ i j => by show (if _ then (1 : Int32) else 0) = 0 ∨ _; split <;> simp) (fun _ _ _ _ _ => rfl) (fun _ _ _ _ _ _ _ => rfl)
theorem pE_val {pv ps : Nat → Res} (hv : pE qA pv) (hs : pE qA ps) : pE qA (valW tk num d pv ps) := by
  intro k h
  unfold valW at h ⊢
  split
  · exact vE_num
  split
  · exact vE_rnd
  rename_i c1 c2
  rw [if_neg c1, if_neg c2] at h
  split
  · rename_i c3
    rw [if_pos c3] at h
    exact pE_un (Or.inl rfl) (fun _ _ => trivial) hv h
  rename_i c3
  rw [if_neg c3] at h
  split
  · rename_i c4
    rw [if_pos c4] at h
    exact pE_par hs k h
  rename_i c4
  rw [if_neg c4] at h
  split
  · rename_i c5
    rw [if_pos c5] at h
    exact pE_cho hs h
  rename_i c5
  rw [if_neg c5] at h
  split
  · rename_i c6
    rw [if_pos c6] at h
    exact absurd (show false = true from h) Bool.false_ne_true
  · rename_i c6
    rw [if_neg c6] at h
    exact pE_sid (cntT_q c6) h
theorem cmpT_b (h : ¬ cmpT t = 0) : b2 (cmpT t) ∧ ∀ a c, qB (opJ (cmpT t) a c) := by
  have e : cmpT t = 14 ∨ cmpT t = 15 ∨ cmpT t = 16 ∨ cmpT t = 17 ∨ cmpT t = 18 := by
    unfold cmpT at h ⊢
    (repeat' split) <;> simp_all
  refine ⟨by rcases e with e | e | e | e | e <;> rw [e] <;> decide, fun a c => ?_⟩
  have g : ∀ (p : Prop) [Decidable p], qB (if p then 1 else 0) := fun p _ => by
    show (if p then (1 : Int32) else 0) = 0 ∨ (if p then (1 : Int32) else 0) = 1
    split <;> simp
  rcases e with e | e | e | e | e <;> rw [e] <;> exact g _
theorem pE_cmp {ps : Nat → Res} (hs : pE qA ps) : pE qB (cmpW tk ps) := fun k h => by
  unfold cmpW at h ⊢
  obtain ⟨h1, h2, h3⟩ := bnd_e h
  rw [h3]
  by_cases c : cmpT (tk (ps k).2.1) = 0
  · rw [if_pos c] at h2
    exact absurd (show false = true from h2) Bool.false_ne_true
  · rw [if_neg c] at h2 ⊢
    obtain ⟨h4, _, h6⟩ := bnd_e h2
    rw [h6, ← List.append_assoc]
    exact vE_2 (hs _ h1) (hs _ h4) (cmpT_b c).1 (fun a c2 _ _ => (cmpT_b c).2 a c2)
theorem not_b {a : Int32} (h : qB a) : qB (if (7 : Int32) = 6 then -a else 1 - a) := by
  rcases h with rfl | rfl <;> decide
theorem pE_sng {q1 qt qc : Nat → Res} (h1 : pE qB q1) (h2 : pE qB qt) (h3 : pE qB qc) : pE qB (sngW tk d q1 qt qc) := by
  intro k h
  unfold sngW at h ⊢
  split
  · rename_i c
    rw [if_pos c] at h
    exact pE_un (Or.inr rfl) (fun _ => not_b) h1 h
  rename_i c
  rw [if_neg c] at h
  split
  · rename_i c2
    rw [if_pos c2] at h
    exact pE_par h2 k h
  rename_i c2
  rw [if_neg c2] at h
  split
  · exact vE_met
  · rename_i c3
    rw [if_neg c3] at h
    exact h3 k h
theorem pE_pV : ∀ h, pE qA (pV tk num h) := by
  intro h
  induction h with
  | zero => exact pE_val pE_fail pE_fail
  | succ h ih => exact pE_val ih (pE_sum ih)
theorem pE_p1 : ∀ h, pE qB (p1 tk num h) := by
  intro h
  induction h with
  | zero => exact pE_sng pE_fail pE_fail (pE_cmp (pE_sum (pE_pV 0)))
  | succ h ih => exact pE_sng ih (pE_tst ih) (pE_cmp (pE_sum (pE_pV (h + 1))))
theorem pE_pT : pE qB (pT tk num) := pE_tst (pE_p1 8)
/-- rules whose steps leave just one value -/
def ruV (rs : RuL) : Prop := ∀ y, y ∈ rs → (y.1 = 0 ∨ y.1 = 1 ∨ y.1 = 2) ∧ (y.2 = [] ∨ vE qB y.2)
theorem ouc_v : (oucW tk k).1 = -1 ∨ (oucW tk k).1 = 0 ∨ (oucW tk k).1 = 1 ∨ (oucW tk k).1 = 2 := by
  unfold oucW
  (repeat' split) <;> simp
theorem lin_v (h : (linW tk num k).1 = true) : ruV (linW tk num k).2.2.2 := by
  unfold linW at h ⊢
  split
  · intro y hy
    have e : (wrsW tk (k + 1)).2.2.2 = [] := by unfold wrsW; (repeat' split) <;> rfl
    rw [e] at hy; exact absurd hy List.not_mem_nil
  rename_i c1
  rw [if_neg c1] at h
  split
  · intro y hy
    have e : (ptsW tk (k + 1)).2.2.2 = [] := by unfold ptsW; (repeat' split) <;> rfl
    rw [e] at hy; exact absurd hy List.not_mem_nil
  rename_i c2
  rw [if_neg c2] at h
  split
  · rename_i c3
    rw [if_pos c3] at h
    unfold rulW at h ⊢
    split
    · intro y hy; exact absurd hy List.not_mem_nil
    rename_i c4
    rw [if_neg c4] at h
    have ho := ouc_v (tk := tk) (k := k + 1)
    have ho := ho.resolve_left c4
    split
    · rename_i c5
      rw [if_pos c5] at h
      by_cases c6 : (pT tk num ((oucW tk (k + 1)).2 + 1)).1 = true
      · rw [if_pos c6]
        intro y hy
        rw [List.mem_singleton.mp hy]
        exact ⟨ho, Or.inr (pE_pT _ c6)⟩
      · rw [if_neg c6]
        intro y hy; exact absurd hy List.not_mem_nil
    · intro y hy
      rw [List.mem_singleton.mp hy]
      exact ⟨ho, Or.inl rfl⟩
  · intro y hy; exact absurd hy List.not_mem_nil
theorem bok_v : ∀ f k (its : List (Nat × Nat)) (rs : RuL), ruV rs → ruV (bokW tk num f k its rs).2.2.2 := by
  intro f
  induction f with
  | zero => intro k its rs h; exact h
  | succ f ih =>
    intro k its rs h
    simp only [bokW]
    split
    · exact h
    split
    · rename_i c
      split
      · refine ih _ _ _ (fun y hy => ?_)
        rcases List.mem_append.mp hy with z | z
        · exact h y z
        · exact lin_v c y z
      · exact h
    · exact h
theorem bok_l (hn : nxt tk tok) : ∀ f k (its : List (Nat × Nat)) (rs : RuL), k < tok → (flatR rs).length ≤ k → (flatR (bokW tk num f k its rs).2.2.2).length < tok := by
  intro f
  induction f with
  | zero => intro k its rs hk h; show (flatR rs).length < tok; omega
  | succ f ih =>
    intro k its rs hk h
    simp only [bokW]
    split
    · show (flatR rs).length < tok; omega
    split
    · split
      · rename_i c
        have h1 := rul_em (num := num) hn hk
        have h2 := lin_ok (num := num) hn hk
        have h3 := hn _ h2.2 (by omega) (by omega)
        refine ih _ _ _ h3 ?_
        rw [flatR_app, List.length_append]
        omega
      · show (flatR rs).length < tok; omega
    · show (flatR rs).length < tok; omega
/-- where the tokens end -/
theorem nt_ex (f : Nat → Nat) (h : f 400 = 37 ∨ f 400 = 38) : ∃ nt, 0 < nt ∧ nt ≤ 401 ∧ nxt f nt := by
  have key : ∀ m, m ≤ 400 → (∃ nt, 0 < nt ∧ nt ≤ 401 ∧ nxt f nt) ∨ ∀ q, q < m → ¬ f q = 37 ∧ ¬ f q = 38 := by
    intro m
    induction m with
    | zero => intro _; exact Or.inr (fun q hq => absurd hq (Nat.not_lt_zero q))
    | succ m ih =>
      intro hm
      rcases ih (by omega) with g | g
      · exact Or.inl g
      · by_cases c : f m = 37 ∨ f m = 38
        · refine Or.inl ⟨m + 1, by omega, by omega, fun k hk h1 h2 => ?_⟩
          by_cases ck : k = m
          · subst ck; exact (c.elim h1 h2).elim
          · omega
        · refine Or.inr (fun q hq => ?_)
          by_cases cq : q = m
          · subst cq; omega
          · exact g q (by omega)
  rcases key 400 (by omega) with g | g
  · exact g
  · refine ⟨401, by omega, by omega, fun k hk h1 h2 => ?_⟩
    by_cases ck : k = 400
    · subst ck; exact (h.elim h1 h2).elim
    · omega
end XRT
