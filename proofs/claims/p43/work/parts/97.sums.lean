/-! SUMS of Int32; THE TIE between the tournament by hand and a Field: order, who is paired -/
section XSU
variable {n : Nat} {k j i q s e t d p : Nat}
theorem bx_s {f : Nat → Int32} {m : Nat} : bx_sum f (m + 1) = bx_sum f m + f m := rfl
theorem bx_c {f g : Nat → Int32} : ∀ m, (∀ i, i < m → f i = g i) → bx_sum f m = bx_sum g m := by
  intro m
  induction m with
  | zero => intro _; rfl
  | succ m ih => intro h; rw [bx_s, bx_s, ih (fun i hi => h i (by omega)), h m (by omega)]
theorem bx_z {f : Nat → Int32} : ∀ m, (∀ i, i < m → f i = 0) → bx_sum f m = 0 := by
  intro m
  induction m with
  | zero => intro _; rfl
  | succ m ih => intro h; rw [bx_s, ih (fun i hi => h i (by omega)), h m (by omega)]; rfl
theorem bx_add {f g : Nat → Int32} : ∀ m, bx_sum (fun i => f i + g i) m = bx_sum f m + bx_sum g m := by
  intro m
  induction m with
  | zero => rfl
  | succ m ih => rw [bx_s, bx_s, bx_s, ih]; grind
theorem bx_mul {f : Nat → Int32} {y : Int32} : ∀ m, bx_sum (fun i => f i * y) m = bx_sum f m * y := by
  intro m
  induction m with
  | zero => show (0 : Int32) = 0 * y; grind
  | succ m ih => rw [bx_s, bx_s, ih]; grind
theorem bx_sw {f : Nat → Nat → Int32} {N : Nat} : ∀ m, bx_sum (fun o => bx_sum (fun i => f o i) N) m = bx_sum (fun i => bx_sum (fun o => f o i) m) N := by
  intro m
  induction m with
  | zero => exact (bx_z N (fun _ _ => rfl)).symm
  | succ m ih =>
    rw [bx_s, ih, ← bx_add]
    exact bx_c N (fun i _ => rfl)
theorem bx_app {f : Nat → Int32} {a : Nat} : ∀ m, bx_sum f (a + m) = bx_sum f a + bx_sum (fun i => f (a + i)) m := by
  intro m
  induction m with
  | zero => show bx_sum f a = bx_sum f a + 0; grind
  | succ m ih => rw [← Nat.add_assoc, bx_s, ih, bx_s]; grind
/-- one term only -/
theorem bx_one {f : Nat → Int32} {b : Nat} : ∀ m, b < m → (∀ i, i < m → ¬ i = b → f i = 0) → bx_sum f m = f b := by
  intro m
  induction m with
  | zero => intro h; omega
  | succ m ih =>
    intro hb h
    rw [bx_s]
    by_cases c : b = m
    · subst c
      rw [bx_z b (fun i hi => h i (by omega) (by omega))]
      grind
    · rw [ih (by omega) (fun i hi hn => h i (by omega) hn), h m (by omega) (by omega)]
      grind
/-- one term has changed -/
theorem bx_ch {f g : Nat → Int32} {b : Nat} (h : ∀ i, ¬ i = b → g i = f i) : ∀ m, b < m → bx_sum g m = bx_sum f m - f b + g b := by
  intro m
  induction m with
  | zero => intro h; omega
  | succ m ih =>
    intro hb
    rw [bx_s, bx_s]
    by_cases c : b = m
    · subst c
      rw [bx_c (f := g) (g := f) b (fun i hi => h i (by omega))]
      grind
    · rw [ih (by omega), h m (by omega)]
      grind
/-- how many -/
def cnN (p : Nat → Prop) [DecidablePred p] : Nat → Nat
  | 0 => 0
  | m + 1 => cnN p m + (if p m then 1 else 0)
theorem cnN_s {P : Nat → Prop} [DecidablePred P] {m : Nat} : cnN P (m + 1) = cnN P m + (if P m then 1 else 0) := rfl
theorem cnN_le {P : Nat → Prop} [DecidablePred P] : ∀ m, cnN P m ≤ m := by
  intro m
  induction m with
  | zero => exact Nat.le_refl _
  | succ m ih => rw [cnN_s]; split <;> omega
theorem cnN_c {P : Nat → Prop} [DecidablePred P] {Q : Nat → Prop} [DecidablePred Q] : ∀ m, (∀ i, i < m → (P i ↔ Q i)) → cnN P m = cnN Q m := by
  intro m
  induction m with
  | zero => intro _; rfl
  | succ m ih =>
    intro h
    have z := h m (by omega)
    rw [cnN_s, cnN_s, ih (fun i hi => h i (by omega))]
    by_cases c : P m
    · rw [if_pos c, if_pos (z.mp c)]
    · rw [if_neg c, if_neg (fun y => c (z.mpr y))]
theorem cnN_le2 {P : Nat → Prop} [DecidablePred P] {Q : Nat → Prop} [DecidablePred Q] : ∀ m, (∀ i, i < m → P i → Q i) → cnN P m ≤ cnN Q m := by
  intro m
  induction m with
  | zero => intro _; exact Nat.le_refl _
  | succ m ih =>
    intro h
    have z := h m (by omega)
    have := ih (fun i hi => h i (by omega))
    rw [cnN_s, cnN_s]
    by_cases c : P m
    · rw [if_pos c, if_pos (z c)]; omega
    · rw [if_neg c]; split <;> omega
theorem cnN_0 {P : Nat → Prop} [DecidablePred P] : ∀ m, (∀ i, i < m → ¬ P i) → cnN P m = 0 := by
  intro m
  induction m with
  | zero => intro _; rfl
  | succ m ih => intro h; rw [cnN_s, ih (fun i hi => h i (by omega)), if_neg (h m (by omega))]
theorem cnN_app {P : Nat → Prop} [DecidablePred P] {a : Nat} : ∀ m, cnN P (a + m) = cnN P a + cnN (fun i => P (a + i)) m := by
  intro m
  induction m with
  | zero => rfl
  | succ m ih =>
    rw [← Nat.add_assoc, cnN_s, ih, cnN_s]; omega
/-- two of them that never hold together -/
theorem cnN_or {P : Nat → Prop} [DecidablePred P] {Q : Nat → Prop} [DecidablePred Q] {R : Nat → Prop} [DecidablePred R] : ∀ m, (∀ i, i < m → (P i → R i) ∧ (Q i → R i) ∧ ¬ (P i ∧ Q i)) → cnN P m + cnN Q m ≤ cnN R m := by
  intro m
  induction m with
  | zero => intro _; exact Nat.le_refl _
  | succ m ih =>
    intro h
    obtain ⟨z1, z2, z3⟩ := h m (by omega)
    have := ih (fun i hi => h i (by omega))
    rw [cnN_s, cnN_s, cnN_s]
    by_cases c : P m
    · rw [if_pos c, if_pos (z1 c), if_neg (fun y => z3 ⟨c, y⟩)]; omega
    · rw [if_neg c]
      by_cases c2 : Q m
      · rw [if_pos c2, if_pos (z2 c2)]; omega
      · rw [if_neg c2]; split <;> omega
theorem cnN_1 {P : Nat → Prop} [DecidablePred P] : ∀ m, (∀ i j, i < m → j < m → P i → P j → i = j) → cnN P m ≤ 1 := by
  intro m
  induction m with
  | zero => intro _; exact Nat.zero_le _
  | succ m ih =>
    intro h
    rw [cnN_s]
    by_cases c : P m
    · rw [if_pos c, cnN_0 m (fun i hi hp => by have := h i m (by omega) (by omega) hp c; omega)]; omega
    · rw [if_neg c]
      have := ih (fun i j hi hj => h i j (by omega) (by omega))
      omega
theorem bx_cn {P : Nat → Prop} [DecidablePred P] {f : Nat → Int32} : ∀ m, (∀ i, i < m → f i = if P i then 1 else 0) → bx_sum f m = nI (cnN P m) := by
  intro m
  induction m with
  | zero => intro _; rfl
  | succ m ih =>
    intro h
    rw [bx_s, ih (fun i hi => h i (by omega)), h m (by omega), cnN_s]
    split
    · exact nI_1 _
    · show nI _ + 0 = nI (_ + 0); grind
/-- ones and minus ones -/
theorem bx_pm {P : Nat → Prop} [DecidablePred P] {Q : Nat → Prop} [DecidablePred Q] {f : Nat → Int32} : ∀ m, m < 1000 → (∀ i, i < m → f i = if P i then 1 else if Q i then -1 else 0) → (bx_sum f m).toInt ≤ cnN (fun i => P i ∨ Q i) m ∧ -(cnN (fun i => P i ∨ Q i) m : Int) ≤ (bx_sum f m).toInt := by
  intro m
  induction m with
  | zero => intro _ _; exact ⟨Int.le_refl _, Int.le_refl _⟩
  | succ m ih =>
    intro hm h
    obtain ⟨h1, h2⟩ := ih (by omega) (fun i hi => h i (by omega))
    have hc := cnN_le (P := fun i => P i ∨ Q i) m
    have hs : cnN (fun i => P i ∨ Q i) (m + 1) = cnN (fun i => P i ∨ Q i) m + (if P m ∨ Q m then 1 else 0) := rfl
    rw [bx_s, h m (by omega), hs]
    by_cases c : P m
    · rw [if_pos c, if_pos (Or.inl c), add_i (by rw [i_1]; omega) (by rw [i_1]; omega), i_1]; omega
    · rw [if_neg c]
      by_cases c2 : Q m
      · rw [if_pos c2, if_pos (Or.inr c2)]
        have e1 : (-1 : Int32).toInt = -1 := rfl
        rw [add_i (by rw [e1]; omega) (by rw [e1]; omega), e1]; omega
      · rw [if_neg c2, if_neg (fun z => z.elim c c2)]
        rw [add_i (by rw [i_0]; omega) (by rw [i_0]; omega), i_0]; omega
theorem nI_ij {a c : Nat} (ha : a < 2 ^ 31) (hc : c < 2 ^ 31) : nI a = nI c ↔ a = c := by
  constructor
  · intro h
    have := congrArg Int32.toInt h
    rw [i_n ha, i_n hc] at this
    omega
  · intro h; rw [h]
end XSU
section XTE
variable {n : Nat} {k j i q s e t d p : Nat} {S S' : sS} {F : xS} {nw nb r : Nat}
/-- a bout by hand: in round u, a in red, c in blue -/
def btR (S : sS) (nw i u a c : Nat) : Prop := bt S i 0 = nI u ∧ bt S i 1 = nI a ∧ bt S i 2 = nI c ∧ a < nw ∧ c < nw ∧ ¬ a = c ∧ (bt S i 3 = -1 ∨ bt S i 3 = 0 ∨ bt S i 3 = 1 ∨ bt S i 3 = 2) ∧ (bt S i 4 = -1 ∨ bt S i 4 = nI a ∨ bt S i 4 = nI c)
/-- the counts of a Field are those by hand -/
def tiC (S : sS) (F : xS) (nw : Nat) : Prop := (∀ w, w < nw → F.2 2 (0 * 12 + w) = S.2.1 1 w ∧ F.2 2 (1 * 12 + w) = ptS S (nI w) ∧ F.2 2 (2 * 12 + w) = mnS S (nI w) 0 ∧ F.2 2 (3 * 12 + w) = mnS S (nI w) 1 ∧ F.2 2 (4 * 12 + w) = mnS S (nI w) 2 ∧ F.2 2 (5 * 12 + w) = rsS S (nI w) ∧ F.2 2 (6 * 12 + w) = blS S (nI w) ∧ F.2 2 (7 * 12 + w) = flS S (nI w) ∧ F.2 2 (9 * 12 + w) = wbS S (nI w) (S.2.2 1)) ∧
  (∀ w, w < nw → (S.2.1 6 w = 0 ∧ F.2 2 (8 * 12 + w) = 1) ∨ (S.2.1 6 w = 1 ∧ F.2 2 (8 * 12 + w) = 0)) ∧ (∀ i, i < 3 → F.2 1 i = S.2.1 2 i) ∧ ∀ a c, a < nw → c < nw → F.2 3 (a * 12 + c) = mtS S (nI a) (nI c) 99
/-- the bouts are of two of the wrestlers -/
def btA (S : sS) (nw : Nat) : Prop := ∀ i, i < S.2.2 1 → ∃ u a c, btR S nw i u a c ∧ u < 20
theorem mtF_v {u a c x y : Nat} (h : btR S nw i u a c) (hu : u < 20) (h12 : nw ≤ 12) (hx : x < nw) (hy : y < nw) : mtF S (nI x) (nI y) 99 i = if (a = x ∧ c = y) ∨ (a = y ∧ c = x) then 1 else 0 := by
  obtain ⟨h0, h1, h2, h3, h4, h5, -⟩ := h
  unfold mtF
  rw [h0, h1, h2]
  have e : ¬ (99 : Int32) ≤ nI u := by rw [i_le, i_n (by omega), show (99 : Int32).toInt = 99 from rfl]; omega
  have e2 : ((nI a = nI x ∧ nI c = nI y) ∨ (nI a = nI y ∧ nI c = nI x)) ↔ ((a = x ∧ c = y) ∨ (a = y ∧ c = x)) := by
    rw [nI_ij (by omega) (by omega), nI_ij (by omega) (by omega), nI_ij (by omega) (by omega), nI_ij (by omega) (by omega)]
  by_cases z : (a = x ∧ c = y) ∨ (a = y ∧ c = x)
  · rw [if_pos ⟨e, e2.mpr z⟩, if_pos z]
  · rw [if_neg (fun y => z (e2.mp y.2)), if_neg z]
/-- the points of those met, by bouts as by wrestlers -/
theorem om_rp (hC : tiC S F nw) (hB : btA S nw) (h12 : nw ≤ 12) {w : Nat} (hw : w < nw) : omS S (nI w) = rpts F nw w := by
  have e1 : rpts F nw w = bx_sum (fun o => bx_sum (fun i => mtF S (nI w) (nI o) 99 i * ptS S (nI o)) (S.2.2 1)) nw := by
    unfold rpts
    refine bx_c nw (fun o ho => ?_)
    rw [hC.2.2.2 w o hw ho, (hC.1 o ho).2.1, bx_mul]; rfl
  rw [e1, bx_sw]
  refine bx_c (S.2.2 1) (fun i hi => ?_)
  obtain ⟨u, a, c, hb, hu⟩ := hB i hi
  have hb2 := hb
  obtain ⟨h0, h1, h2, h3, h4, h5, -⟩ := hb2
  have e2 : bx_sum (fun o => mtF S (nI w) (nI o) 99 i * ptS S (nI o)) nw = bx_sum (fun o => (if (a = w ∧ c = o) ∨ (a = o ∧ c = w) then 1 else 0) * ptS S (nI o)) nw := bx_c nw (fun o ho => by rw [mtF_v hb hu h12 hw ho])
  show omF S (nI w) i = bx_sum (fun o => mtF S (nI w) (nI o) 99 i * ptS S (nI o)) nw
  rw [e2]
  unfold omF
  rw [h1, h2]
  by_cases ca : a = w
  · subst ca
    rw [if_pos rfl, bx_one nw h4 (fun o ho hn => by rw [if_neg (by omega)]; grind), if_pos (Or.inl ⟨rfl, rfl⟩)]; grind
  rw [if_neg (fun z => ca ((nI_ij (by omega) (by omega)).mp z))]
  by_cases cc : c = w
  · subst cc
    rw [if_pos rfl, bx_one nw h3 (fun o ho hn => by rw [if_neg (by omega)]; grind), if_pos (Or.inr ⟨rfl, rfl⟩)]; grind
  · rw [if_neg (fun z => cc ((nI_ij (by omega) (by omega)).mp z)), bx_z nw (fun o ho => by rw [if_neg (by omega)]; grind)]
theorem ahd_c2 {P p1 M m s1 s2 : Nat → Int32} {a c : Nat} (h1 : P a = p1 a) (h2 : P c = p1 c) (h3 : M a = m a) (h4 : M c = m c) (h5 : s1 a = s2 a) (h6 : s1 c = s2 c) : ahd P M s1 a c = ahd p1 m s2 a c := by
  unfold ahd
  rw [h1, h2, h3, h4, h5, h6]
theorem sR_f (hC : tiC S F nw) (hB : btA S nw) (h12 : nw ≤ 12) {a c : Nat} (ha : a < nw) (hc : c < nw) : sR S a c = f_R F nw a c :=
  ahd_c2 (hC.1 a ha).2.1.symm (hC.1 c hc).2.1.symm (om_rp hC hB h12 ha) (om_rp hC hB h12 hc) (hC.1 a ha).1.symm (hC.1 c hc).1.symm
theorem sR_srt (hC : tiC S F nw) (hB : btA S nw) (h12 : nw ≤ 12) {ls : List Nat} (h : srt (sR S) nw ls) : ls = lsF F nw := by
  refine lsF_eq ⟨h.1, ?_⟩
  refine List.Pairwise.imp_of_mem (fun {a c} ha hc hac => ?_) h.2
  rw [← sR_f hC hB h12 (List.mem_range.mp (h.1.mem_iff.mp ha)) (List.mem_range.mp (h.1.mem_iff.mp hc))]
  exact hac
/-- who is paired: the same -/
theorem inS_lu (hC : tiC S F nw) {ls : List Nat} (h : srt (sR S) nw ls) : inS S ls = lup F ls nw := by
  have hl : ls.length = nw := by rw [h.1.length_eq, List.length_range]
  unfold lup
  rw [List.take_of_length_le (by omega)]
  refine List.filter_congr (fun w hw => ?_)
  have hw2 := List.mem_range.mp (h.1.mem_iff.mp hw)
  show decide (S.2.1 6 w = 0) = decide (¬ F.2 2 (8 * 12 + w) = 0)
  rcases hC.2.1 w hw2 with ⟨z1, z2⟩ | ⟨z1, z2⟩
  · rw [z1, z2]; rfl
  · rw [z1, z2]; rfl
theorem inS_ltn {ls : List Nat} (h : srt (sR S) nw ls) {p : Nat} (hp : p < (inS S ls).length) : (inS S ls).getD p 0 < nw := List.mem_range.mp (h.1.mem_iff.mp (inS_in hp))
/-- a row by hand is the line of the class, the one who rests at its end -/
theorem rw_fa (hC : tiC S F nw) (h12 : nw ≤ 12) {ls : List Nat} (h : srt (sR S) nw ls) : (∀ p, p < fd_k F ls nw → rwL S (inS S ls) p = fd_a F ls nw p ∧ fd_a F ls nw p < nw) ∧ (fd_k F ls nw = (inS S ls).length - (inS S ls).length % 2) ∧ (fd_k F ls nw < (inS S ls).length → rs_r F (fd_l F ls nw) (lup F ls nw).length = nI (rwL S (inS S ls) (fd_k F ls nw)) ∧ rwL S (inS S ls) (fd_k F ls nw) < nw) ∧ (¬ fd_k F ls nw < (inS S ls).length → rs_r F (fd_l F ls nw) (lup F ls nw).length = -1) := by
  have hl := inS_lu hC h
  obtain ⟨li, hli⟩ : ∃ li, li = inS S ls := ⟨_, rfl⟩
  have hlt : ∀ p, p < li.length → li.getD p 0 < nw := fun p hp => by rw [hli] at hp ⊢; exact inS_ltn h hp
  rw [← hli] at hl ⊢
  have ek : fd_k F ls nw = rs_k li.length := by show rs_k (lup F ls nw).length = _; rw [← hl]
  have el : fd_l F ls nw = fun q => li.getD q 0 := by funext q; show (lup F ls nw).getD q 0 = _; rw [← hl]
  have ea : fd_a F ls nw = rs_l F (fun q => li.getD q 0) li.length := by show rs_l F (fd_l F ls nw) (lup F ls nw).length = _; rw [el, ← hl]
  rw [ek, ea, el, ← hl]
  unfold rs_k rs_l rs_r
  have hch : ¬ li.length % 2 = 0 → chs (rst_r F (fun q => li.getD q 0)) li.length = cdn (rsL S li) (li.length - 1) (li.length - 1) := fun ho => by
    rw [cdn_chs (by omega)]
    refine chs_congr _ (fun i hi => ?_)
    exact (hC.1 _ (hlt i hi)).2.2.2.2.2.1
  by_cases ev : li.length % 2 = 0
  · rw [if_pos ev, if_pos ev, if_pos ev]
    refine ⟨fun p hp => ⟨?_, hlt p hp⟩, by omega, fun z => by omega, fun _ => rfl⟩
    unfold rwL
    rw [if_pos ev]
  · rw [if_neg ev, if_neg ev, if_neg ev, hch ev]
    have hlc : cdn (rsL S li) (li.length - 1) (li.length - 1) < li.length := by rw [← hch ev]; exact chs_lt _ (by omega)
    refine ⟨fun p hp => ?_, by omega, fun _ => ?_, fun z => by omega⟩
    · unfold rwL
      rw [if_neg ev, if_neg (by omega)]
      refine ⟨rfl, ?_⟩
      show (if p < cdn (rsL S li) (li.length - 1) (li.length - 1) then li.getD p 0 else li.getD (p + 1) 0) < nw
      split
      · exact hlt _ (by omega)
      · exact hlt _ (by omega)
    · unfold rwL
      rw [if_neg ev, if_pos (by omega)]
      exact ⟨rfl, hlt _ hlc⟩
/-- the pairs by hand are the class's -/
theorem pr_tie (hC : tiC S F nw) (hB : btA S nw) (h12 : nw ≤ 12) {ls : List Nat} (h : srt (sR S) nw ls) {f : Nat → Int32} (hf : ∀ p, p < (inS S ls).length → f p = nI (rwL S (inS S ls) p)) {m k : Nat} (hm : m = (inS S ls).length) (hk : k = m - m % 2) : (prL S f k k).length = npF F nw ∧ (∀ p, p < npF F nw → f ((prL S f k k).getD p 0) = nI (p1F F nw p) ∧ f (mtP S f k ((prL S f k k).getD p 0)) = nI (p2F F nw p)) ∧ (if k < m then f k else -1) = rsF F nw ∧ k = 2 * npF F nw ∧ mr (metS S f) k (k / 2) (2 ^ k - 1) = mr (fd_m F (lsF F nw) nw) (fd_k F (lsF F nw) nw) (npF F nw) (2 ^ fd_k F (lsF F nw) nw - 1) := by
  have els := sR_srt hC hB h12 h
  obtain ⟨a1, a2, a3, a4⟩ := rw_fa hC h12 h
  rw [← hm, ← hk] at a2
  have hm12 : m ≤ 12 := by rw [hm]; have := inS_len (S := S) (ls := ls); have : ls.length = nw := by rw [h.1.length_eq, List.length_range]
                           omega
  have hk12 : k ≤ 12 := by omega
  have hfa : ∀ p, p < k → f p = nI (fd_a F ls nw p) ∧ fd_a F ls nw p < nw := fun p hp => by
    have z := a1 p (by omega)
    rw [hf p (by omega), z.1]; exact ⟨rfl, z.2⟩
  have hmet : ∀ a c, a < k → c < k → metS S f a c = fd_m F ls nw a c := fun a c ha hc => by
    show decide (0 < mtS S (f a) (f c) 99) = decide (0 < F.2 3 (fd_a F ls nw a * 12 + fd_a F ls nw c))
    rw [(hfa a ha).1, (hfa c hc).1, hC.2.2.2 _ _ (hfa a ha).2 (hfa c hc).2]
  have enp : npF F nw = k / 2 := by unfold npF; rw [← els, a2]
  have hk2 : k = 2 * npF F nw := by omega
  have h6 : npF F nw ≤ 6 := by omega
  have hfl : ∀ q, prM (metS S f) k (npF F nw) (2 ^ k - 1) q = prM (fd_m F ls nw) k (npF F nw) (2 ^ k - 1) q := fun q => by
    obtain ⟨g1, g2⟩ := setAt_ok (met := metS S f) hk12 hk2 0 (Nat.zero_le _)
    exact prM_c hk12 hmet _ h6 _ q g1 (by rw [Nat.sub_zero] at g2; exact g2)
  have emt : ∀ q, mtP S f k q = prM (fd_m F ls nw) k (npF F nw) (2 ^ k - 1) q := fun q => by
    show prM (metS S f) k (k / 2) (2 ^ k - 1) q = _
    rw [← enp]; exact hfl q
  have epl : prL S f k k = (List.range (npF F nw)).map (fun i => loA (fd_m F ls nw) k (npF F nw) i) := by
    rw [← prl_eq hk12 hk2]
    refine List.filter_congr (fun q _ => ?_)
    rw [emt]
  refine ⟨by rw [epl, List.length_map, List.length_range], fun p hp => ?_, ?_, hk2, ?_⟩
  · have eg : (prL S f k k).getD p 0 = loA (fd_m F ls nw) k (npF F nw) p := by
      rw [epl, List.getD_eq_getElem?_getD, List.getElem?_map, List.getElem?_range hp]; rfl
    obtain ⟨g1, g2, -⟩ := lp_1 (met := fd_m F ls nw) hk12 hk2 hp
    rw [eg, emt, (prM_p hk12 hk2 hp).1, (hfa _ (by omega)).1, (hfa _ g2).1]
    unfold p1F p2F
    rw [← els]
    unfold fd_1 fd_2
    rw [a2, show k / 2 = npF F nw by omega]
    exact ⟨rfl, rfl⟩
  · unfold rsF
    rw [← els]
    by_cases c : k < m
    · rw [if_pos c, (a3 (by omega)).1, a2, hf k (by omega)]
    · rw [if_neg c, a4 (by omega)]
  · rw [← els, a2, ← enp]
    obtain ⟨g1, g2⟩ := setAt_ok (met := metS S f) hk12 hk2 0 (Nat.zero_le _)
    rw [mr_c hk12 hmet (npF F nw) (2 ^ k - 1) g1 (by rw [Nat.sub_zero] at g2; exact g2)]
end XTE
