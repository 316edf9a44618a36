/-! THE TIE: both sides behind a teach that fits -/
section XTC
variable {S P F F' R R1 D1 : xS} {T : xS} {len tok i j k q s e t d m nw nb n r mt cr : Nat} {em : List (Int32 × Int32)} {rs : RuL} {nl : Nat → Int64} {its : List (Nat × Nat)}
theorem nC_0 {E : Int32 × Int32} {c p : Int32} (h : (noteC E c p).1 = 0) : E.1 = 0 ∧ c = 0 := by
  unfold noteC at h
  split at h
  · rename_i g; exact absurd h g.2
  · rename_i g
    refine ⟨h, ?_⟩
    by_cases c0 : c = 0
    · exact c0
    · exact absurd ⟨h, c0⟩ g
theorem nC_e {E : Int32 × Int32} {c p : Int32} (h : (noteC E c p).1 = 0) : noteC E c p = E := by
  rw [(nC_0 h).2]; exact noteC_0
abbrev wOK (s : Told) : Prop := s.2.2.2.2.1 = 0 → s.2.2.2.2.2 = -1 ∧ ∀ i, i < 3 → 0 ≤ (s.2.2.1 i).toInt ∧ (s.2.2.1 i).toInt ≤ 9
theorem chk_w1 (sam : Nat → Nat → Bool) (num pos : Nat → Int32) {s : Told} (h : wOK s) (it : Nat × Nat) : wOK (chkS sam num pos s it) := by
  unfold chkS
  split
  · intro z
    have e := nC_e z
    refine ⟨?_, (h (nC_0 z).1).2⟩
    show (noteC s.2.2.2.2 _ _).2 = -1
    rw [e]; exact (h (nC_0 z).1).1
  · intro z
    have e := nC_e z
    refine ⟨?_, (h (nC_0 z).1).2⟩
    show (noteC s.2.2.2.2 _ _).2 = -1
    rw [e]; exact (h (nC_0 z).1).1
  · intro z
    have e := nC_e z
    refine ⟨?_, (h (nC_0 z).1).2⟩
    show (noteC s.2.2.2.2 _ _).2 = -1
    rw [e]; exact (h (nC_0 z).1).1
  · intro z
    have e := nC_e z
    obtain ⟨z1, z2⟩ := nC_0 z
    refine ⟨?_, fun i hi => ?_⟩
    · show (noteC s.2.2.2.2 _ _).2 = -1
      rw [e]; exact (h z1).1
    · show 0 ≤ (upd s.2.2.1 (it.2 - 4) (num it.1) i).toInt ∧ (upd s.2.2.1 (it.2 - 4) (num it.1) i).toInt ≤ 9
      simp only [upd]
      split
      · have g : ¬ (num it.1 < 0 ∨ 9 < num it.1) := fun g => by rw [if_pos g] at z2; exact absurd z2 (by decide)
        rw [i_lt, i_lt, i_0, show (9 : Int32).toInt = 9 from rfl] at g
        omega
      · exact (h z1).2 i hi
theorem chk_w2 (sam : Nat → Nat → Bool) (num pos : Nat → Int32) : ∀ (its : List (Nat × Nat)) (s : Told), wOK s → wOK (its.foldl (chkS sam num pos) s) := by
  intro its
  induction its with
  | nil => intro s h; exact h
  | cons it its ih => intro s h; exact ih _ (chk_w1 sam num pos h it)
theorem chk_w : wOK (chkT T len its) := chk_w2 _ _ _ its _ (fun _ => ⟨rfl, fun i hi => by
  have : i = 0 ∨ i = 1 ∨ i = 2 := by omega
  rcases this with rfl | rfl | rfl <;> decide⟩)
theorem rdV_m1 (h : (rdV T len).1 = 0) : (rdV T len).2 = -1 := by
  have hb := rdV_ok h
  have e : rdV T len = (chkT T len (bokW (scG T len) (tkN T len) 401 0 [] []).2.2.1).2.2.2.2 := if_pos hb
  rw [e] at h ⊢
  exact (chk_w h).1
theorem nI_ij9 {a c : Nat} (ha : a < 2 ^ 31) (hc : c < 2 ^ 31) (h : nI a = nI c) : a = c := by
  have := congrArg Int32.toInt h
  rw [i_n ha, i_n hc] at this
  omega
theorem rs_400 : (flatR (bokW (scG T len) (tkN T len) 401 0 [] []).2.2.2).length ≤ 400 := by
  obtain ⟨nt, h1, h2, h3⟩ := nt_ex (scG T len) scG_400
  have := bok_l (num := tkN T len) h3 401 0 [] [] h1 (by simp [flatR])
  omega
/-- strengths, points, and so on, of a new tournament -/
theorem tc_agr {gs f : Nat → Int32} (hm : m ≤ 12) (hs : ∀ w, w < m → gs w = P.2 2 w) : ∀ c w, c < 10 → w < m → begC m m gs f (c * 12 + w) = cntS (s_up x0 2 (-1)) P c w := by
  intro c w hc hw
  have : c = 0 ∨ c = 8 ∨ c = 9 ∨ (1 ≤ c ∧ c ≤ 7) := by omega
  simp only [begC]
  rcases this with rfl | rfl | rfl | hc7
  · rw [if_pos (by omega), Nat.zero_mul, Nat.zero_add, hs w hw]; rfl
  · rw [if_neg (by omega), if_pos (by omega)]; rfl
  · rw [if_neg (by omega), if_neg (by omega), if_pos (by omega)]; rfl
  · rw [if_neg (by omega), if_neg (by omega), if_pos (by omega)]
    have : c = 1 ∨ c = 2 ∨ c = 3 ∨ c = 4 ∨ c = 5 ∨ c = 6 ∨ c = 7 := by omega
    rcases this with rfl | rfl | rfl | rfl | rfl | rfl | rfl <;> rfl
theorem tch_tie (hru : R.1 6 = nI mt) (hcl : clI T len tok (bokW (scG T len) (tkN T len) 401 0 [] []).2.2.1 (bokW (scG T len) (tkN T len) 401 0 [] []).2.2.2 D1 R1) (h5 : D1.1 5 = nI m) (hm : m ≤ 12) (hp : plJ T len (chkT T len (bokW (scG T len) (tkN T len) 401 0 [] []).2.2.1) false P nl) (hP : ∀ r, 4 ≤ r → P.2 r = (rsP (a_up x0 3 wo0) 0 (bokW (scG T len) (tkN T len) 401 0 [] []).2.2.2).2 r) : ∃ ru cr, ruX (cpyR R R1) ru cr ∧ eqF m 0 (beginF F m (D1.2 12) (D1.2 14)) (fS (s_up x0 2 (-1)) P) ∧ okF (beginF F m (D1.2 12) (D1.2 14)) m 0 0 ∧ sI ru cr m 0 0 (s_up x0 2 (-1)) P := by
  obtain ⟨a1, a2, a3, a4, a5, a6, a7⟩ := hcl
  obtain ⟨p1, p2, p3, p4, p5, p6, p7, p8⟩ := hp
  have hv : ruV (bokW (scG T len) (tkN T len) 401 0 [] []).2.2.2 := bok_v 401 0 [] [] (fun y hy => absurd hy List.not_mem_nil)
  have hl := rs_400 (T := T) (len := len)
  have hW := chk_w p8
  obtain ⟨rs, hrs⟩ : ∃ rs, rs = (bokW (scG T len) (tkN T len) 401 0 [] []).2.2.2 := ⟨_, rfl⟩
  obtain ⟨s, hs⟩ : ∃ s, s = chkT T len (bokW (scG T len) (tkN T len) 401 0 [] []).2.2.1 := ⟨_, rfl⟩
  rw [← hrs] at a6 a7 hP hv hl
  rw [← hs] at a1 a2 a4 a6 p1 p2 p3 p5 p6 p7 hW
  have hm0 : m = s.1.length := by
    have := h5.symm.trans a1
    have p2 : s.1.length + 0 ≤ 12 := p2
    have := nI_ij9 (by omega) (by omega) this
    omega
  obtain ⟨ru, r1, r2, r3, r4, r5⟩ := ru_tie (R := R) a7 hru (by rw [p6, a6]) hP hv (by omega) hl
  have hgs : ∀ w, w < m → D1.2 12 w = P.2 2 w := fun w hw => by rw [(p3 w (by omega)).2.1]; exact (a2 w (by omega) (by omega)).2
  have hwo : ∀ i, i < 3 → (beginF F m (D1.2 12) (D1.2 14)).2 1 i = s.2.2.1 i := fun i hi => by
    show begW 3 (D1.2 14) (F.2 1) i = _
    simp only [begW]
    rw [if_pos hi]
    exact a4 i hi
  have ha : ∀ c w, c < 10 → w < m → (beginF F m (D1.2 12) (D1.2 14)).2 2 (c * 12 + w) = cntS (s_up x0 2 (-1)) P c w := tc_agr hm hgs
  have hmt : ∀ i j, i < m → j < m → (beginF F m (D1.2 12) (D1.2 14)).2 3 (i * 12 + j) = 0 := fun i j hi hj => by
    show fil 0 144 (F.2 3) (i * 12 + j) = 0
    simp only [fil]
    exact if_pos (by omega)
  have he : eqF m 0 (beginF F m (D1.2 12) (D1.2 14)) (fS (s_up x0 2 (-1)) P) := by
    refine ⟨⟨?_, rfl, rfl, rfl⟩, fun i hi => ?_, fun c w hc hw => ?_, fun i j hi hj => ?_, fun q hq => absurd hq (Nat.not_lt_zero q)⟩
    · show nI m = P.1 0
      rw [p1, hm0]; rfl
    · exact Or.inl ((hwo i hi).trans (p5 i hi).symm)
    · rw [fS_c (by omega)]; exact ha c w hc hw
    · rw [hmt i j hi hj]; rfl
  have ho : okF (beginF F m (D1.2 12) (D1.2 14)) m 0 0 := by
    refine ⟨⟨rfl, hm⟩, ⟨rfl, by omega⟩, ⟨rfl, by omega⟩, fun w hw => ?_, fun i j hi hj => ?_, fun i hi => ?_, fun q hq => absurd hq (Nat.not_lt_zero q), fun w hw => ?_, fun q hq => absurd hq (Nat.not_lt_zero q)⟩
    · rw [ha 1 w (by omega) hw]
      show 0 ≤ (0 : Int32).toInt ∧ (0 : Int32).toInt + 9 * ((0 : Nat) : Int) ≤ 63 * ((0 : Nat) : Int)
      exact ⟨by decide, by decide⟩
    · rw [hmt i j hi hj]
      exact ⟨by decide, by decide⟩
    · rw [hwo i hi]; exact hW.2 i hi
    · rw [ha 8 w (by omega) hw]; exact Or.inr rfl
  exact ⟨ru, rs.length, r1, he, ho, he.ok ho, r2, fun S i j hi hj => r3 S i j (by omega) (by omega), r4, fun nb F F' i j => r5 m nb F F' i j, fun i _ => Or.inl rfl⟩
end XTC
