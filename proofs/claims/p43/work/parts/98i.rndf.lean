/-! A ROUND THAT IS PAIRED: who is in it, who rests, what it does -/
section XRF
variable {n : Nat} {k j i q s e t d p : Nat} {S S' : sS} {F : xS} {nw nb r : Nat}
theorem cn_cnt {P : Nat → Bool} : ∀ m, (List.range m).countP P = cnN (fun i => P i = true) m := by
  intro m
  induction m with
  | zero => rfl
  | succ m ih =>
    rw [List.range_succ, List.countP_append, ih, cnN_s]
    congr 1
    rw [List.countP_cons, List.countP_nil]
    simp
/-- how many are in -/
theorem in_len (hC : tiC S F nw) : bx_sum (fun w => F.2 2 (8 * 12 + w)) nw = nI (lup F (lsF F nw) nw).length := by
  have hls := lsF_ok F nw
  have hl : (lsF F nw).length = nw := by rw [hls.1.length_eq, List.length_range]
  have e : (lup F (lsF F nw) nw).length = cnN (fun i => isI F i = true) nw := by
    unfold lup
    rw [List.take_of_length_le (by omega), ← List.countP_eq_length_filter, hls.1.countP_eq, cn_cnt]
  rw [e]
  refine bx_cn nw (fun w hw => ?_)
  have hd : isI F w = true ↔ ¬ F.2 2 (8 * 12 + w) = 0 := decide_eq_true_iff
  rcases hC.2.1 w hw with ⟨-, z⟩ | ⟨-, z⟩
  · rw [if_pos (hd.mpr (by rw [z]; decide)), z]
  · rw [if_neg (fun y => hd.mp y z), z]
theorem lup_mem {w : Nat} : w ∈ lup F (lsF F nw) nw ↔ w < nw ∧ ¬ F.2 2 (8 * 12 + w) = 0 := by
  have hls := lsF_ok F nw
  have hl : (lsF F nw).length = nw := by rw [hls.1.length_eq, List.length_range]
  unfold lup
  rw [List.take_of_length_le (by omega), List.mem_filter, hls.1.mem_iff, List.mem_range]
  exact ⟨fun h => ⟨h.1, of_decide_eq_true h.2⟩, fun h => ⟨h.1, decide_eq_true h.2⟩⟩
/-- who is in is paired or rests -/
theorem in_pr (h12 : nw ≤ 12) : (∀ w, w ∈ lup F (lsF F nw) nw → (∃ q, q < npF F nw ∧ (p1F F nw q = w ∨ p2F F nw q = w)) ∨ rsF F nw = nI w) ∧ (∀ q, q < npF F nw → p1F F nw q ∈ lup F (lsF F nw) nw ∧ p2F F nw q ∈ lup F (lsF F nw) nw) ∧ (∀ w, w < 1000 → rsF F nw = nI w → w ∈ lup F (lsF F nw) nw ∧ ∀ v, v ∈ lup F (lsF F nw) nw → (F.2 2 (5 * 12 + w)).toInt ≤ (F.2 2 (5 * 12 + v)).toInt) ∧ (rsF F nw = -1 ↔ (lup F (lsF F nw) nw).length % 2 = 0) ∧ npF F nw = (lup F (lsF F nw) nw).length / 2 := by
  have hls := lsF_ok F nw
  obtain ⟨li, hli⟩ : ∃ li, li = lup F (lsF F nw) nw := ⟨_, rfl⟩
  have hl12 : li.length ≤ 12 := by rw [hli]; exact Nat.le_trans lup_len h12
  have hk12 : fd_k F (lsF F nw) nw ≤ 12 := Nat.le_trans (rs_le _) (Nat.le_trans lup_len h12)
  have hke : fd_k F (lsF F nw) nw = 2 * npF F nw := rs_ev2 _
  have hk : fd_k F (lsF F nw) nw = rs_k li.length := by rw [hli]
  have ha : ∀ x, fd_a F (lsF F nw) nw x = rs_l F (fun q => li.getD q 0) li.length x := fun x => by rw [hli]
  have e1 : ∀ q, p1F F nw q = fd_a F (lsF F nw) nw (loA (fd_m F (lsF F nw) nw) (fd_k F (lsF F nw) nw) (npF F nw) q) := fun q => rfl
  have e2 : ∀ q, p2F F nw q = fd_a F (lsF F nw) nw (prA (fd_m F (lsF F nw) nw) (fd_k F (lsF F nw) nw) (npF F nw) q) := fun q => rfl
  have hrs : rsF F nw = rs_r F (fun q => li.getD q 0) li.length := by rw [hli]; rfl
  have mem : ∀ x, x < li.length → li.getD x 0 ∈ li := fun x hx => by rw [getD_at hx]; exact List.getElem_mem hx
  have fam : ∀ x, x < fd_k F (lsF F nw) nw → fd_a F (lsF F nw) nw x ∈ li := fun x hx => by
    rw [ha]
    rw [hk] at hx
    unfold rs_k at hx
    unfold rs_l
    by_cases ev : li.length % 2 = 0
    · rw [if_pos ev] at hx ⊢; exact mem x hx
    · rw [if_neg ev] at hx ⊢
      show (if x < _ then li.getD x 0 else li.getD (x + 1) 0) ∈ li
      split
      · exact mem x (by omega)
      · exact mem (x + 1) (by omega)
  have prs : ∀ x, x < fd_k F (lsF F nw) nw → ∃ q, q < npF F nw ∧ (p1F F nw q = fd_a F (lsF F nw) nw x ∨ p2F F nw q = fd_a F (lsF F nw) nw x) := fun x hx => by
    obtain ⟨q, hq, z | z⟩ := lp_all (met := fd_m F (lsF F nw) nw) hk12 hke hx
    · exact ⟨q, hq, Or.inl (by rw [e1, ← z])⟩
    · exact ⟨q, hq, Or.inr (by rw [e2, ← z])⟩
  rw [← hli]
  refine ⟨fun w hw => ?_, fun q hq => ?_, fun w hw hr => ?_, ?_, ?_⟩
  · obtain ⟨x, hx, ex⟩ := List.getElem_of_mem hw
    have ex2 : li.getD x 0 = w := by rw [getD_at hx]; exact ex
    by_cases ev : li.length % 2 = 0
    · have hx2 : x < fd_k F (lsF F nw) nw := by rw [hk]; unfold rs_k; rw [if_pos ev]; exact hx
      have := prs x hx2
      rw [ha] at this
      unfold rs_l at this
      rw [if_pos ev] at this
      have this : ∃ q, q < npF F nw ∧ (p1F F nw q = li.getD x 0 ∨ p2F F nw q = li.getD x 0) := this
      rw [ex2] at this
      exact Or.inl this
    · obtain ⟨c, hc⟩ : ∃ c, c = chs (rst_r F (fun q => li.getD q 0)) li.length := ⟨_, rfl⟩
      by_cases exc : x = c
      · right
        rw [hrs]; unfold rs_r
        rw [if_neg ev, ← hc, ← exc]
        exact congrArg nI ex2
      · left
        have hkk : fd_k F (lsF F nw) nw = li.length - 1 := by rw [hk]; unfold rs_k; rw [if_neg ev]
        have hcl : c < li.length := by rw [hc]; exact chs_lt _ (by omega)
        have key : ∃ y, y < fd_k F (lsF F nw) nw ∧ fd_a F (lsF F nw) nw y = w := by
          by_cases lt : x < c
          · refine ⟨x, by omega, ?_⟩
            rw [ha]; unfold rs_l
            rw [if_neg ev, ← hc]
            show (if x < c then li.getD x 0 else _) = w
            rw [if_pos lt]; exact ex2
          · refine ⟨x - 1, by omega, ?_⟩
            rw [ha]; unfold rs_l
            rw [if_neg ev, ← hc]
            show (if x - 1 < c then _ else li.getD (x - 1 + 1) 0) = w
            rw [if_neg (by omega), show x - 1 + 1 = x by omega]; exact ex2
        obtain ⟨y, hy, ey⟩ := key
        have := prs y hy
        rw [ey] at this
        exact this
  · obtain ⟨a1, a2, -⟩ := lp_1 (met := fd_m F (lsF F nw) nw) hk12 hke hq
    rw [e1, e2]
    exact ⟨fam _ (by omega), fam _ a2⟩
  · rw [hrs] at hr
    unfold rs_r at hr
    by_cases ev : li.length % 2 = 0
    · rw [if_pos ev] at hr
      have := congrArg Int32.toInt hr
      rw [i_n (by omega), show (-1 : Int32).toInt = -1 from rfl] at this
      omega
    · rw [if_neg ev] at hr
      obtain ⟨h1, h2⟩ := chs_L (r := rst_r F (fun q => li.getD q 0)) li.length (by omega)
      have hlt : ∀ x, x < li.length → li.getD x 0 < nw := fun x hx => by have := mem x hx; rw [hli] at this ⊢; exact lup_lt hls this
      have hm := mem _ h1
      have hw2 := hlt _ h1
      have hr : nI (li.getD (chs (rst_r F (fun q => li.getD q 0)) li.length) 0) = nI w := hr
      rw [nI_ij (by omega) (by omega)] at hr
      rw [hr] at hm
      refine ⟨hm, fun v hv => ?_⟩
      obtain ⟨y, hy, ey⟩ := List.getElem_of_mem hv
      have z := (h2 y hy).1
      have z1 : rst_r F (fun q => li.getD q 0) (chs (rst_r F (fun q => li.getD q 0)) li.length) = F.2 2 (5 * 12 + w) := by
        show F.2 2 (5 * 12 + li.getD (chs (rst_r F (fun q => li.getD q 0)) li.length) 0) = _
        rw [hr]
      have z2 : rst_r F (fun q => li.getD q 0) y = F.2 2 (5 * 12 + v) := by
        show F.2 2 (5 * 12 + li.getD y 0) = _
        rw [getD_at hy, ey]
      rw [z1, z2] at z
      exact z
  · rw [hrs]
    unfold rs_r
    by_cases ev : li.length % 2 = 0
    · rw [if_pos ev]; exact ⟨fun _ => ev, fun _ => rfl⟩
    · rw [if_neg ev]
      refine ⟨fun z => ?_, fun z => absurd z ev⟩
      exfalso
      have h1 := chs_lt (r := rst_r F (fun q => li.getD q 0)) li.length (by omega)
      have hm := mem _ h1
      have hw2 : li.getD (chs (rst_r F (fun q => li.getD q 0)) li.length) 0 < nw := by rw [hli] at hm ⊢; exact lup_lt hls hm
      exact nI_m1 (a := li.getD (chs (rst_r F (fun q => li.getD q 0)) li.length) 0) (by omega) z
  · unfold npF
    rw [hk]
    unfold rs_k
    split <;> omega
/-- whom a wrestler would meet -/
theorem rivP_at {f g : Nat → Int32} {w : Int32} {x : Nat} : ∀ d y, y ≤ x → x < y + d → (∀ z, y ≤ z → z < x → ¬ f z = w ∧ ¬ g z = w) → (f x = w ∨ (¬ f x = w ∧ g x = w)) → rivP f g w d y = if f x = w then g x else f x := by
  intro d
  induction d with
  | zero => intro y h1 h2; omega
  | succ d ih =>
    intro y h1 h2 h3 h4
    show (if f y = w then g y else if g y = w then f y else rivP f g w d (y + 1)) = _
    by_cases c : y = x
    · subst c
      rcases h4 with z | ⟨z1, z2⟩
      · rw [if_pos z, if_pos z]
      · rw [if_neg z1, if_pos z2, if_neg z1]
    · obtain ⟨z1, z2⟩ := h3 y (Nat.le_refl _) (by omega)
      rw [if_neg z1, if_neg z2]
      exact ih (y + 1) (by omega) (by omega) (fun z a1 a2 => h3 z (by omega) a2) h4
theorem rivP_no {f g : Nat → Int32} {w : Int32} : ∀ d y, (∀ z, y ≤ z → z < y + d → ¬ f z = w ∧ ¬ g z = w) → rivP f g w d y = -1 := by
  intro d
  induction d with
  | zero => intro y _; rfl
  | succ d ih =>
    intro y h
    obtain ⟨z1, z2⟩ := h y (Nat.le_refl _) (by omega)
    show (if f y = w then g y else if g y = w then f y else rivP f g w d (y + 1)) = _
    rw [if_neg z1, if_neg z2]
    exact ih (y + 1) (fun z a1 a2 => h z (by omega) (by omega))
theorem riv_pr (h12 : nw ≤ 12) {q : Nat} (hq : q < npF F nw) : rivN F nw (nI (p1F F nw q)) = nI (p2F F nw q) ∧ rivN F nw (nI (p2F F nw q)) = nI (p1F F nw q) := by
  obtain ⟨⟨p1, p2, p3⟩, -⟩ := prD_F (F := F) (nw := nw) h12
  have lt := fun (x : Nat) hx => p1 x hx
  have ij : ∀ x y, x < nw → y < nw → (nI x = nI y ↔ x = y) := fun x y hx hy => nI_ij (by omega) (by omega)
  obtain ⟨a1, a2, a3⟩ := lt q hq
  refine ⟨?_, ?_⟩
  · have z := rivP_at (f := fun q => nI (p1F F nw q)) (g := fun q => nI (p2F F nw q)) (w := nI (p1F F nw q)) (x := q) (npF F nw) 0 (Nat.zero_le _) (by omega) (fun x _ hx => by
      have z1 := p2 x q (by omega) hq (by omega)
      have z2 := p2 q x hq (by omega) (by omega)
      obtain ⟨b1, b2, -⟩ := lt x (by omega)
      rw [ij _ _ b1 a1, ij _ _ b2 a1]
      exact ⟨z1.1, fun y => z2.2.1 y.symm⟩) (Or.inl rfl)
    rw [if_pos rfl] at z
    exact z
  · have z := rivP_at (f := fun q => nI (p1F F nw q)) (g := fun q => nI (p2F F nw q)) (w := nI (p2F F nw q)) (x := q) (npF F nw) 0 (Nat.zero_le _) (by omega) (fun x _ hx => by
      have z1 := p2 x q (by omega) hq (by omega)
      obtain ⟨b1, b2, -⟩ := lt x (by omega)
      rw [ij _ _ b1 a2, ij _ _ b2 a2]
      exact ⟨z1.2.1, z1.2.2⟩) (Or.inr ⟨by rw [ij _ _ a1 a2]; exact a3, rfl⟩)
    rw [if_neg (by rw [ij _ _ a1 a2]; exact a3)] at z
    exact z
/-- a wrestler and the round -/
theorem rnd_one (h12 : nw ≤ 12) {w : Nat} (hw : w < nw) : (F.2 2 (8 * 12 + w) = 0 → rivN F nw (nI w) = -1 ∧ ¬ rsF F nw = nI w) ∧ (¬ F.2 2 (8 * 12 + w) = 0 → (rivN F nw (nI w) = -1 ∧ rsF F nw = nI w) ∨ (¬ rsF F nw = nI w ∧ ∃ v q, v < nw ∧ q < npF F nw ∧ rivN F nw (nI w) = nI v ∧ rivN F nw (nI v) = nI w ∧ ((p1F F nw q = w ∧ p2F F nw q = v) ∨ (p1F F nw q = v ∧ p2F F nw q = w)))) := by
  obtain ⟨⟨p1, p2, p3⟩, -⟩ := prD_F (F := F) (nw := nw) h12
  obtain ⟨i1, i2, i3, i4, i5⟩ := in_pr (F := F) (nw := nw) h12
  have no : ∀ x, x < nw → (∀ q, q < npF F nw → ¬ p1F F nw q = x ∧ ¬ p2F F nw q = x) → rivN F nw (nI x) = -1 := fun x hx h => rivP_no (npF F nw) 0 (fun z _ hz => by
    obtain ⟨a1, a2, -⟩ := p1 z (by omega)
    have z9 := h z (by omega)
    show ¬ nI (p1F F nw z) = nI x ∧ ¬ nI (p2F F nw z) = nI x
    rw [nI_ij (by omega) (by omega), nI_ij (by omega) (by omega)]
    exact z9)
  constructor
  · intro h0
    have nm : ¬ w ∈ lup F (lsF F nw) nw := fun y => (lup_mem.mp y).2 h0
    refine ⟨no w hw (fun q hq => ⟨fun y => nm (by rw [← y]; exact (i2 q hq).1), fun y => nm (by rw [← y]; exact (i2 q hq).2)⟩), fun y => nm (i3 w (by omega) y).1⟩
  · intro h1
    rcases i1 w (lup_mem.mpr ⟨hw, h1⟩) with ⟨q, hq, z | z⟩ | z
    · right
      obtain ⟨r1, r2⟩ := riv_pr (F := F) h12 hq
      obtain ⟨a1, a2, a3⟩ := p1 q hq
      rw [z] at r1 r2
      refine ⟨fun y => ?_, p2F F nw q, q, a2, hq, r1, r2, Or.inl ⟨z, rfl⟩⟩
      rcases p3 with x | ⟨x, hx, ex, hd⟩
      · rw [x] at y; exact nI_m1 (by omega) y.symm
      · rw [ex, nI_ij (by omega) (by omega)] at y
        exact (hd q hq).1 (by rw [z, y])
    · right
      obtain ⟨r1, r2⟩ := riv_pr (F := F) h12 hq
      obtain ⟨a1, a2, a3⟩ := p1 q hq
      rw [z] at r1 r2
      refine ⟨fun y => ?_, p1F F nw q, q, a1, hq, r2, r1, Or.inr ⟨rfl, z⟩⟩
      rcases p3 with x | ⟨x, hx, ex, hd⟩
      · rw [x] at y; exact nI_m1 (by omega) y.symm
      · rw [ex, nI_ij (by omega) (by omega)] at y
        exact (hd q hq).2 (by rw [z, y])
    · left
      refine ⟨no w hw (fun q hq => ?_), z⟩
      rcases p3 with x | ⟨x, hx, ex, hd⟩
      · rw [x] at z; exact absurd z.symm (nI_m1 (by omega))
      · rw [ex, nI_ij (by omega) (by omega)] at z
        have := hd q hq
        rw [z] at this
        exact this
theorem mtS_sym {a c x : Int32} : mtS S a c x = mtS S c a x := bx_c _ (fun i _ => by
  unfold mtF
  by_cases z : (bt S i 1 = a ∧ bt S i 2 = c) ∨ (bt S i 1 = c ∧ bt S i 2 = a)
  · by_cases y : ¬ x ≤ bt S i 0
    · rw [if_pos ⟨y, z⟩, if_pos ⟨y, z.symm⟩]
    · rw [if_neg (fun h => y h.1), if_neg (fun h => y h.1)]
  · rw [if_neg (fun h => z h.2), if_neg (fun h => z h.2.symm)])
/-- a bout of the round -/
theorem rnd_bout (hC : tiC S F nw) (h12 : nw ≤ 12) {q : Nat} (hq : q < npF F nw) : ∃ x y, x < nw ∧ y < nw ∧ ¬ x = y ∧ ((x = p1F F nw q ∧ y = p2F F nw q) ∨ (x = p2F F nw q ∧ y = p1F F nw q)) ∧ (roundF F nw).2 4 q = nI x ∧ (roundF F nw).2 5 q = nI y ∧ F.2 2 (6 * 12 + x) ≤ F.2 2 (6 * 12 + y) ∧ (roundF F nw).2 2 (6 * 12 + x) = F.2 2 (6 * 12 + x) + 1 ∧ (roundF F nw).2 2 (6 * 12 + y) = F.2 2 (6 * 12 + y) - 1 ∧ ((roundF F nw).2 2 (7 * 12 + x) - F.2 2 (7 * 12 + x) = if F.2 2 (1 * 12 + x) ≤ F.2 2 (1 * 12 + y) then 0 else 1) ∧ ((roundF F nw).2 2 (7 * 12 + y) - F.2 2 (7 * 12 + y) = if F.2 2 (1 * 12 + y) ≤ F.2 2 (1 * 12 + x) then 0 else 1) ∧ (roundF F nw).2 3 (x * 12 + y) = F.2 3 (p1F F nw q * 12 + p2F F nw q) + 1 := by
  obtain ⟨hp, hord⟩ := prD_F (F := F) (nw := nw) h12
  obtain ⟨r9, ra, rq⟩ := rnd_at (F := F) h12
  obtain ⟨c1, c2, c3, c4, c5, c6⟩ := srL_cnt (F := sr_0 F (pX (npF F nw) (rsF F nw))) h12 hp (npF F nw) (Nat.le_refl _)
  obtain ⟨p1, p2, p3⟩ := hp
  obtain ⟨A1, A2, A3⟩ := p1 q hq
  obtain ⟨w4, w5, -⟩ := c5 q hq
  obtain ⟨a, ha⟩ : ∃ a, a = p1F F nw q := ⟨_, rfl⟩
  obtain ⟨c, hc⟩ : ∃ c, c = p2F F nw q := ⟨_, rfl⟩
  have hle : f_at F 1 c ≤ f_at F 1 a := by
    have z := hord q hq
    rw [← ha, ← hc] at z
    unfold f_R ahd at z
    by_cases g : f_pts F a = f_pts F c
    · have : f_at F 1 a = f_at F 1 c := g
      rw [this, i_le]; exact Int.le_refl _
    · rw [if_neg g, decide_eq_true_eq] at z
      exact Int32.le_of_lt z
  have fr : ∀ z, z < npF F nw → ¬ z = q → (¬ p1F F nw z = a ∧ ¬ p2F F nw z = a) ∧ ¬ p1F F nw z = c ∧ ¬ p2F F nw z = c := fun z hz hn => by
    have z1 := p2 z q hz hq hn
    have z2 := p2 q z hq hz (fun y => hn y.symm)
    rw [← ha, ← hc] at z1 z2
    exact ⟨⟨z1.1, fun y => z2.2.1 y.symm⟩, z1.2.1, z1.2.2⟩
  rw [← ha] at A1
  rw [← hc] at A2
  rw [← ha, ← hc] at A3 w4 w5
  have rb : ∀ z, (sx_r (sr_0 F (pX (npF F nw) (rsF F nw))) (p1F F nw z) (p2F F nw z) = p1F F nw z ∧ sx_b (sr_0 F (pX (npF F nw) (rsF F nw))) (p1F F nw z) (p2F F nw z) = p2F F nw z) ∨ (sx_r (sr_0 F (pX (npF F nw) (rsF F nw))) (p1F F nw z) (p2F F nw z) = p2F F nw z ∧ sx_b (sr_0 F (pX (npF F nw) (rsF F nw))) (p1F F nw z) (p2F F nw z) = p1F F nw z) := fun z => by
    unfold sx_r sx_b
    split
    · exact Or.inl ⟨rfl, rfl⟩
    · exact Or.inr ⟨rfl, rfl⟩
  obtain ⟨x, hx⟩ : ∃ x, x = sx_r (sr_0 F (pX (npF F nw) (rsF F nw))) a c := ⟨_, rfl⟩
  obtain ⟨y, hy⟩ : ∃ y, y = sx_b (sr_0 F (pX (npF F nw) (rsF F nw))) a c := ⟨_, rfl⟩
  have rq0 := rb q
  rw [← ha, ← hc, ← hx, ← hy] at rq0
  have hbel : ∀ v, v < nw → (roundF F nw).2 2 (6 * 12 + v) = F.2 2 (6 * 12 + v) + bx_sum (fun q => if sx_r (sr_0 F (pX (npF F nw) (rsF F nw))) (p1F F nw q) (p2F F nw q) = v then 1 else if sx_b (sr_0 F (pX (npF F nw) (rsF F nw))) (p1F F nw q) (p2F F nw q) = v then -1 else 0) (npF F nw) := fun v hv => by
    rw [(ra v (by omega)).2.2 6 (by omega) (by omega), (c2 v (by omega)).1]
  have hflo : ∀ v, v < nw → (roundF F nw).2 2 (7 * 12 + v) = F.2 2 (7 * 12 + v) + bx_sum (fun q => if f_at F 1 (p2F F nw q) < f_at F 1 (p1F F nw q) ∧ p1F F nw q = v then 1 else 0) (npF F nw) := fun v hv => by
    rw [(ra v (by omega)).2.2 7 (by omega) (by omega), (c2 v (by omega)).2.1]
  have fin : ∀ v, v = a ∨ v = c → ∀ z, z < npF F nw → ¬ z = q → (if sx_r (sr_0 F (pX (npF F nw) (rsF F nw))) (p1F F nw z) (p2F F nw z) = v then (1 : Int32) else if sx_b (sr_0 F (pX (npF F nw) (rsF F nw))) (p1F F nw z) (p2F F nw z) = v then -1 else 0) = 0 := fun v hv z hz hn => by
    obtain ⟨⟨f1, f2⟩, f3, f4⟩ := fr z hz hn
    have g : ¬ p1F F nw z = v ∧ ¬ p2F F nw z = v := by
      rcases hv with rfl | rfl
      · exact ⟨f1, f2⟩
      · exact ⟨f3, f4⟩
    rcases rb z with ⟨u1, u2⟩ | ⟨u1, u2⟩ <;> rw [u1, u2]
    · rw [if_neg g.1, if_neg g.2]
    · rw [if_neg g.2, if_neg g.1]
  have finF : ∀ v, v = a ∨ v = c → ∀ z, z < npF F nw → ¬ z = q → (if f_at F 1 (p2F F nw z) < f_at F 1 (p1F F nw z) ∧ p1F F nw z = v then (1 : Int32) else 0) = 0 := fun v hv z hz hn => by
    obtain ⟨⟨f1, f2⟩, f3, f4⟩ := fr z hz hn
    rw [if_neg]
    rintro ⟨-, g⟩
    rcases hv with rfl | rfl
    · exact f1 g
    · exact f3 g
  have fval : ∀ v, v < nw → (v = a ∨ v = c) → (roundF F nw).2 2 (7 * 12 + v) - F.2 2 (7 * 12 + v) = if f_at F 1 c < f_at F 1 a ∧ a = v then 1 else 0 := fun v hv hvv => by
    rw [hflo v hv, bx_one (npF F nw) hq (finF v hvv), ← ha, ← hc]
    grind
  have hxy : x < nw ∧ y < nw ∧ ¬ x = y := by
    rcases rq0 with ⟨u1, u2⟩ | ⟨u1, u2⟩ <;> rw [u1, u2]
    · exact ⟨A1, A2, A3⟩
    · exact ⟨A2, A1, fun z => A3 z.symm⟩
  have hlt : ¬ f_at F 1 a < f_at F 1 c := Int32.not_lt.mpr hle
  refine ⟨x, y, hxy.1, hxy.2.1, hxy.2.2, ?_, ?_, ?_, ?_, ?_, ?_, ?_, ?_, ?_⟩
  · rw [← ha, ← hc]
    rcases rq0 with ⟨u1, u2⟩ | ⟨u1, u2⟩
    · exact Or.inl ⟨u1, u2⟩
    · exact Or.inr ⟨u1, u2⟩
  · rw [rq 4 (by omega), w4, ← hx]
  · rw [rq 5 (by omega), w5, ← hy]
  · have hrA : redB F a c = true ↔ redA F a c := redB_eq
    have ex : x = if redB F a c = true then a else c := hx
    have ey : y = if redB F a c = true then c else a := hy
    unfold redA at hrA
    show f_at F 6 x ≤ f_at F 6 y
    by_cases g : redB F a c = true
    · rw [ex, ey, if_pos g, if_pos g]
      have z := hrA.mp g
      by_cases e : f_at F 6 a = f_at F 6 c
      · rw [e, i_le]; exact Int.le_refl _
      · rw [if_neg e] at z; exact Int32.le_of_lt z
    · rw [ex, ey, if_neg g, if_neg g]
      have z := fun y => g (hrA.mpr y)
      by_cases e : f_at F 6 a = f_at F 6 c
      · rw [e, i_le]; exact Int.le_refl _
      · rw [if_neg e] at z; exact Int32.not_lt.mp z
  · rw [hbel x hxy.1, bx_one (npF F nw) hq (fin x (by omega)), ← ha, ← hc, ← hx, if_pos rfl]
  · rw [hbel y hxy.2.1, bx_one (npF F nw) hq (fin y (by omega)), ← ha, ← hc, ← hx, ← hy, if_neg hxy.2.2, if_pos rfl]
    grind
  · rw [fval x hxy.1 (by omega)]
    have e1 : F.2 2 (1 * 12 + x) = f_at F 1 x := rfl
    have e2 : F.2 2 (1 * 12 + y) = f_at F 1 y := rfl
    rw [e1, e2]
    rcases rq0 with ⟨u1, u2⟩ | ⟨u1, u2⟩ <;> rw [u1, u2]
    · by_cases g : f_at F 1 c < f_at F 1 a
      · rw [if_pos ⟨g, rfl⟩, if_neg (Int32.not_le.mpr g)]
      · rw [if_neg (fun z => g z.1), if_pos (Int32.not_lt.mp g)]
    · rw [if_neg (fun z => A3 z.2), if_pos hle]
  · rw [fval y hxy.2.1 (by omega)]
    have e1 : F.2 2 (1 * 12 + x) = f_at F 1 x := rfl
    have e2 : F.2 2 (1 * 12 + y) = f_at F 1 y := rfl
    rw [e1, e2]
    rcases rq0 with ⟨u1, u2⟩ | ⟨u1, u2⟩ <;> rw [u1, u2]
    · rw [if_neg (fun z => A3 z.2), if_pos hle]
    · by_cases g : f_at F 1 c < f_at F 1 a
      · rw [if_pos ⟨g, rfl⟩, if_neg (Int32.not_le.mpr g)]
      · rw [if_neg (fun z => g z.1), if_pos (Int32.not_lt.mp g)]
  · rw [rq 3 (by omega), c4 x y (by omega) (by omega)]
    have e0 : (sr_0 F (pX (npF F nw) (rsF F nw))).2 3 (x * 12 + y) = F.2 3 (a * 12 + c) := by
      show F.2 3 (x * 12 + y) = _
      rcases rq0 with ⟨u1, u2⟩ | ⟨u1, u2⟩ <;> rw [u1, u2]
      rw [hC.2.2.2 c a A2 A1, hC.2.2.2 a c A1 A2, mtS_sym]
    rw [e0, ← ha, ← hc]
    congr 1
    rw [bx_one (npF F nw) hq (fun z hz hn => by
      obtain ⟨⟨f1, f2⟩, f3, f4⟩ := fr z hz hn
      rw [if_neg]
      rcases rq0 with ⟨u1, u2⟩ | ⟨u1, u2⟩ <;> rw [u1, u2] <;> omega), ← ha, ← hc, if_pos]
    rcases rq0 with ⟨u1, u2⟩ | ⟨u1, u2⟩ <;> rw [u1, u2] <;> omega
end XRF
