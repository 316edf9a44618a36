/-! told: a tournament that cells choose, and its text -/
section XTD
variable {G : xx_G} {l : Launch} {A A' : xx_H} {n : Nat} {k j i q s e t d : Nat}
theorem tl_len : ∀ k, k < 43 → (tl k).length ≤ 10 := by decide +kernel
theorem tl_w : ∀ k, k < 8 → (tl (11 + k)).length ≤ 8 := by decide +kernel
theorem tl_s : ∀ k, k < 6 → (tl (19 + k)).length ≤ 4 := by decide +kernel
theorem tl_s1 : ∀ k, k < 4 → (tl (19 + k)).length ≤ 1 := by decide +kernel
theorem tl_cm : ∀ k, k < 5 → (tl (25 + k)).length ≤ 2 := by decide +kernel
theorem tl_x : (tl 0).length = 6 ∧ (tl 1).length = 1 ∧ (tl 2).length = 1 ∧ (tl 3).length = 10 ∧ (tl 4).length = 10 ∧ (tl 5).length = 6 ∧ (tl 6).length = 8 ∧ (tl 7).length = 4 ∧ (tl 8).length = 9 ∧ (tl 9).length = 0 ∧ (tl 10).length = 6 := by decide +kernel
theorem tl_y : (tl 11).length = 0 ∧ (tl 30).length = 6 ∧ (tl 31).length = 5 ∧ (tl 32).length = 6 ∧ (tl 33).length = 3 ∧ (tl 34).length = 1 ∧ (tl 35).length = 1 ∧ (tl 36).length = 1 ∧ (tl 37).length = 4 ∧ (tl 38).length = 4 ∧ (tl 39).length = 1 ∧ (tl 40).length = 1 ∧ (tl 41).length = 3 ∧ (tl 42).length = 2 := by decide +kernel
theorem decB_1 {w : Nat} (h : w < 10) : (decB w).length = 1 := decB_len 1 (Nat.le_refl _) (Or.inl rfl) (by omega)
theorem decB_3 {w : Nat} (h : w < 1000) : (decB w).length ≤ 3 := by
  by_cases h1 : w < 10
  · rw [decB_1 h1]; decide
  · by_cases h2 : w < 100
    · rw [decB_len 2 (by decide) (Or.inr (by omega)) (by omega)]; decide
    · rw [decB_len 3 (by decide) (Or.inr (by omega)) (by omega)]; decide
theorem smL2 {f : Nat} {x : Int32} {d : Nat} (h1 : 1 < d) : (txL (f + 1) (smT (f + 1) x d)).length ≤ 14 := by
  show (txL (f + 1) ((smK x d, smN x (smK x d)), (smT f (x * 3 + 1) (d + 1), smT f (x * 5 + 2) (d + 1)))).length ≤ 14
  have h8 := smK_d (x := x) h1
  have hn := (smN_lt (x := x) (kd := smK x d)).1
  rw [txL_s]
  generalize smN x (smK x d) = nu at hn
  generalize smK x d = kd at h8
  obtain ⟨y1, y2, y3, y4, -⟩ := tl_y
  by_cases c0 : kd = 0
  · rw [if_pos c0]; simp only [List.length_append, List.length_nil]; have := decB_le hn; omega
  · rw [if_neg c0]
    by_cases c1 : kd = 1
    · rw [if_pos c1]; omega
    · rw [if_neg c1, if_pos h8]
      have := tl_w kd h8
      simp only [List.length_append, List.length_nil]
      split <;> omega
theorem smL1 {f : Nat} {x : Int32} : (txL (f + 2) (smT (f + 2) x 1)).length ≤ 34 := by
  show (txL (f + 2) ((smK x 1, smN x (smK x 1)), (smT (f + 1) (x * 3 + 1) 2, smT (f + 1) (x * 5 + 2) 2))).length ≤ 34
  have h8 := smK_lt (x := x) (d := 1)
  have hn := (smN_lt (x := x) (kd := smK x 1)).1
  have ha := smL2 (f := f) (x := x * 3 + 1) (d := 2) (by decide)
  have hb := smL2 (f := f) (x := x * 5 + 2) (d := 2) (by decide)
  rw [txL_s]
  generalize smN x (smK x 1) = nu at hn
  generalize smK x 1 = kd at h8
  obtain ⟨y1, y2, y3, y4, y5, y6, y7, y8, -⟩ := tl_y
  by_cases c0 : kd = 0
  · rw [if_pos c0]; simp only [List.length_append, List.length_nil]; have := decB_le hn; omega
  rw [if_neg c0]
  by_cases c1 : kd = 1
  · rw [if_pos c1]; omega
  rw [if_neg c1]
  by_cases c2 : kd < 8
  · rw [if_pos c2]
    have := tl_w kd c2
    simp only [List.length_append, List.length_nil]
    split <;> omega
  rw [if_neg c2]
  by_cases c3 : kd = 8
  · rw [if_pos c3]; simp only [List.length_append, List.length_nil]; omega
  rw [if_neg c3]
  by_cases c4 : kd < 13
  · rw [if_pos c4]
    have := tl_s1 (kd - 9) (by omega)
    simp only [List.length_append, List.length_nil]; omega
  · rw [if_neg c4, if_pos h8]
    have := tl_s (kd - 9) (by omega)
    simp only [List.length_append, List.length_nil]; omega
theorem tsT_u {f kd : Nat} {ta tb tc td : Tr f} : (txL (f + 1) ((kd, 0), if kd < 25 then (ta, tb) else (tc, td))) = if kd < 25 then txL (f + 1) ((kd, 0), (ta, tb)) else txL (f + 1) ((kd, 0), (tc, td)) := by split <;> rfl
theorem tsL_c {f kd : Nat} {ta tb : Tr f} {m : Nat} (h1 : 20 ≤ kd) (h2 : kd < 25) (ha : (txL f ta).length ≤ m) (hb : (txL f tb).length ≤ m) : (txL (f + 1) ((kd, 0), (ta, tb))).length ≤ 2 * m + 2 := by
  rw [txL_s, if_neg (by omega), if_neg (by omega), if_neg (by omega), if_neg (by omega), if_neg (by omega), if_neg (by omega), if_pos h2]
  have := tl_cm (kd - 20) (by omega)
  simp only [List.length_append, List.length_nil]; omega
theorem tsL_d {f kd : Nat} {ta tb : Tr f} {m : Nat} (h1 : 26 ≤ kd) (ha : (txL f ta).length ≤ m) (hb : (txL f tb).length ≤ m) : (txL (f + 1) ((kd, 0), (ta, tb))).length ≤ 2 * m + 7 := by
  obtain ⟨y1, y2, y3, y4, y5, y6, y7, y8, y9, y10, y11, y12, y13, y14⟩ := tl_y
  rw [txL_s, if_neg (by omega), if_neg (by omega), if_neg (by omega), if_neg (by omega), if_neg (by omega), if_neg (by omega), if_neg (by omega), if_neg (by omega)]
  by_cases c : kd = 26
  · rw [if_pos c]; simp only [List.length_append, List.length_nil]; omega
  · rw [if_neg c]; simp only [List.length_append, List.length_nil]; split <;> omega
theorem tsL_m {f : Nat} {ta tb : Tr f} : (txL (f + 1) ((25, 0), (ta, tb))).length = 4 := by
  obtain ⟨y1, y2, y3, y4, y5, y6, y7, y8, y9, -⟩ := tl_y
  rw [txL_s]; exact y9
theorem tsL2 {f : Nat} {x : Int32} : (txL (f + 2) (tsT (f + 2) x 2)).length ≤ 30 := by
  show (txL (f + 1 + 1) ((tsK x 2, 0), if tsK x 2 < 25 then (smT (f + 1) (x * 3 + 7) 3, smT (f + 1) (x * 5 + 1) 3) else (tsT (f + 1) (x * 3 + 5) 3, tsT (f + 1) (x * 7 + 3) 3))).length ≤ 30
  have h1 := (tsK_lt (x := x) (d := 2)).1
  have h2 := tsK_d (x := x) (d := 2) (by decide)
  rw [tsT_u]
  by_cases c : tsK x 2 < 25
  · rw [if_pos c]; exact tsL_c h1 c (smL2 (by decide)) (smL2 (by decide))
  · rw [if_neg c, show tsK x 2 = 25 from by omega, tsL_m]; decide
theorem tsL1 {f : Nat} {x : Int32} : (txL (f + 3) (tsT (f + 3) x 1)).length ≤ 67 := by
  show (txL (f + 2 + 1) ((tsK x 1, 0), if tsK x 1 < 25 then (smT (f + 2) (x * 3 + 7) 2, smT (f + 2) (x * 5 + 1) 2) else (tsT (f + 2) (x * 3 + 5) 2, tsT (f + 2) (x * 7 + 3) 2))).length ≤ 67
  obtain ⟨h1, h2⟩ := tsK_lt (x := x) (d := 1)
  rw [tsT_u]
  by_cases c : tsK x 1 < 25
  · rw [if_pos c]; exact Nat.le_trans (tsL_c (m := 14) h1 c (smL2 (by decide)) (smL2 (by decide))) (by decide)
  · rw [if_neg c]
    by_cases c2 : tsK x 1 = 25
    · rw [c2, tsL_m]; decide
    · exact tsL_d (m := 30) (by omega) tsL2 tsL2
theorem tsL0 {f : Nat} {x : Int32} : (txL (f + 4) (tsT (f + 4) x 0)).length ≤ 141 := by
  show (txL (f + 3 + 1) ((tsK x 0, 0), if tsK x 0 < 25 then (smT (f + 3) (x * 3 + 7) 1, smT (f + 3) (x * 5 + 1) 1) else (tsT (f + 3) (x * 3 + 5) 1, tsT (f + 3) (x * 7 + 3) 1))).length ≤ 141
  obtain ⟨h1, h2⟩ := tsK_lt (x := x) (d := 0)
  rw [tsT_u]
  by_cases c : tsK x 0 < 25
  · rw [if_pos c]; exact Nat.le_trans (tsL_c (m := 34) h1 c smL1 smL1) (by decide)
  · rw [if_neg c]
    by_cases c2 : tsK x 0 = 25
    · rw [c2, tsL_m]; decide
    · exact tsL_d (m := 67) (by omega) tsL1 tsL1
/-- what the cells choose -/
def ptV (G : xx_G) (i : Nat) : Nat := blw (shr (clv G 2) (3 * nI i)) 10
def ptX (G : xx_G) : Nat → List Int32
  | 0 => [] ++ tl 0
  | i + 1 => ptX G i ++ tl 1 ++ decB (ptV G i)
abbrev ptB (G : xx_G) : Prop := blw (clv G 1) 3 = 0
def tx1 (G : xx_G) : List Int32 := if ptB G then ptX G 3 ++ tl 2 else []
def woV (G : xx_G) (i : Nat) : Nat := if ptB G then ptV G i else if i = 1 then 1 else 2
def stV (G : xx_G) (w : Nat) : Nat := 1 + blw (shr (clv G (3 + w)) 2) (if blw (clv G 1) 2 = 0 then 999 else 4)
def wrX (G : xx_G) : Nat → List Int32
  | 0 => tx1 G
  | i + 1 => wrX G i ++ tl 3 ++ decB i ++ tl 4 ++ decB (stV G i) ++ tl 2
def nwV (G : xx_G) : Nat := 2 + blw (clv G 0) 5
def nrV (G : xx_G) : Nat := blw (clv G 15) 5
def rxV (G : xx_G) (k : Nat) : Int32 := shr (clv G (4 + k)) 3 + 17 * nI k
def outV (G : xx_G) (k : Nat) : Nat := blw (rxV G k) 3
def tsV (G : xx_G) (k : Nat) : Option (Tr 4) := if k + 1 = nrV G ∧ blw (shr (rxV G k) 2) 3 = 0 then none else some (tsT 4 (shr (rxV G k) 3) 0)
def whX : Option (Tr 4) → List Int32
  | none => tl 9
  | some t => [] ++ tl 10 ++ txL 4 t
def ouX (o : Nat) : List Int32 := if o = 0 then tl 6 else if o = 1 then tl 7 else tl 8
def rlX (G : xx_G) : Nat → List Int32
  | 0 => wrX G (nwV G)
  | i + 1 => rlX G i ++ tl 5 ++ ouX (outV G i) ++ whX (tsV G i) ++ tl 2
theorem ptV_lt {i : Nat} : ptV G i < 10 := blw_lt (by decide)
theorem stV_lt {i : Nat} : stV G i < 1000 := by
  have h : blw (shr (clv G (3 + i)) 2) (if blw (clv G 1) 2 = 0 then 999 else 4) < (if blw (clv G 1) 2 = 0 then 999 else 4) := blw_lt (by split <;> decide)
  unfold stV
  generalize blw (shr (clv G (3 + i)) 2) (if blw (clv G 1) 2 = 0 then 999 else 4) = z at h ⊢
  split at h <;> omega
theorem nwV_lt : 2 ≤ nwV G ∧ nwV G ≤ 6 := by
  have h := blw_lt (v := clv G 0) (m := 5) (by decide)
  unfold nwV; omega
theorem nrV_lt : nrV G ≤ 4 := by
  have h := blw_lt (v := clv G 15) (m := 5) (by decide)
  unfold nrV; omega
theorem ptX_len : ∀ i, (ptX G i).length = 6 + 2 * i := by
  obtain ⟨y0, y1, -⟩ := tl_x
  intro i
  induction i with
  | zero => exact y0
  | succ i ih =>
    show (ptX G i ++ tl 1 ++ decB (ptV G i)).length = _
    have := decB_1 (ptV_lt (G := G) (i := i))
    simp only [List.length_append]; omega
theorem tx1_len : (tx1 G).length ≤ 13 := by
  obtain ⟨y0, y1, y2, -⟩ := tl_x
  unfold tx1
  split
  · rw [List.length_append, ptX_len, y2]; decide
  · decide
theorem wrX_len : ∀ i, i ≤ 6 → (wrX G i).length ≤ 13 + 25 * i := by
  obtain ⟨y0, y1, y2, y3, y4, -⟩ := tl_x
  intro i
  induction i with
  | zero => intro _; exact tx1_len
  | succ i ih =>
    intro h
    have := ih (by omega)
    show (wrX G i ++ tl 3 ++ decB i ++ tl 4 ++ decB (stV G i) ++ tl 2).length ≤ _
    have h1 := decB_1 (w := i) (by omega)
    have h2 := decB_3 (stV_lt (G := G) (i := i))
    simp only [List.length_append]; omega
theorem whX_len {i : Nat} : (whX (tsV G i)).length ≤ 147 := by
  obtain ⟨y0, y1, y2, y3, y4, y5, y6, y7, y8, y9, y10⟩ := tl_x
  unfold tsV
  split
  · show (tl 9).length ≤ 147; omega
  · show ([] ++ tl 10 ++ txL 4 (tsT 4 (shr (rxV G i) 3) 0)).length ≤ 147
    have : (txL 4 (tsT 4 (shr (rxV G i) 3) 0)).length ≤ 141 := tsL0 (f := 0) (x := shr (rxV G i) 3)
    simp only [List.length_append, List.length_nil]; omega
theorem ouX_len {i : Nat} : (ouX i).length ≤ 9 := by
  obtain ⟨y0, y1, y2, y3, y4, y5, y6, y7, y8, y9, y10⟩ := tl_x
  unfold ouX
  split
  · omega
  · split <;> omega
theorem rlX_len : ∀ i, i ≤ 4 → (rlX G i).length ≤ 163 + 163 * i := by
  obtain ⟨y0, y1, y2, y3, y4, y5, -⟩ := tl_x
  intro i
  induction i with
  | zero => intro _; exact Nat.le_trans (wrX_len _ nwV_lt.2) (by have := (nwV_lt (G := G)).2; omega)
  | succ i ih =>
    intro h
    have := ih (by omega)
    show (rlX G i ++ tl 5 ++ ouX (outV G i) ++ whX (tsV G i) ++ tl 2).length ≤ _
    have h1 := whX_len (G := G) (i := i)
    have h2 := ouX_len (i := outV G i)
    simp only [List.length_append]; omega
/-- a Sim in the making at n -/
def tdW (n : Nat) (w : Int32) (st wo : Nat → Int32) (a c : Nat) (A : xx_H) : Prop := A n = some (.inr (6, [.int w, .ref (n + 1), .ref (n + 2), .ref a, .ref c, .int 0, .ref (n + 5), .ref (n + 6), .ref (n + 7)])) ∧ A (n + 1) = some (.inl (0, 12, .inl st)) ∧ A (n + 2) = some (.inl (0, 3, .inl wo)) ∧ A (n + 5) = some (.inl (2, 12, .inl (fun _ => 0))) ∧ (∃ f, A (n + 6) = some (.inl (3, 0, .inr (.inr (.inr (.inr f)))))) ∧ A (n + 7) = some (.inl (0, 0, .inl (fun _ => 0)))
def kpF (A A' : xx_H) : Prop := ∀ z c, A z = some c → (∀ q, ¬ c = .inr (9, q)) → (∀ m f, ¬ c = .inl (1, m, .inl f)) → A' z = A z
theorem tdW.keep {w : Int32} {st wo : Nat → Int32} {a c : Nat} (h : tdW n w st wo a c A) (k : kpF A A') : tdW n w st wo a c A' := by
  obtain ⟨h1, h2, h3, h4, ⟨f, h5⟩, h6⟩ := h
  exact ⟨(k _ _ h1 (fun q z => nomatch z) (fun m f z => nomatch z)).trans h1, (k _ _ h2 (fun q z => nomatch z) (fun m f z => nomatch z)).trans h2, (k _ _ h3 (fun q z => nomatch z) (fun m f z => nomatch z)).trans h3, (k _ _ h4 (fun q z => nomatch z) (fun m f z => nomatch z)).trans h4, ⟨f, (k _ _ h5 (fun q z => nomatch z) (fun m f z => nomatch z)).trans h5⟩, (k _ _ h6 (fun q z => nomatch z) (fun m f z => nomatch z)).trans h6⟩
theorem trA.keep {f v : Nat} {tr : Tr f} (h : trA A f v tr) (k : kpF A A') : trA A' f v tr := h.up _ _ _ (fun z c hz => k z _ hz (fun q z => nomatch z) (fun m f z => nomatch z))
theorem rulH.keep {S : sS} {tt : Nat → Option (Tr 4)} (h : rulH S tt A) (k : kpF A A') : rulH S tt A' := by
  obtain ⟨h1, f, h2, h3⟩ := h
  refine ⟨(k _ _ h1 (fun q z => nomatch z) (fun m f z => nomatch z)).trans h1, f, (k _ _ h2 (fun q z => nomatch z) (fun m f z => nomatch z)).trans h2, fun i hi => ?_⟩
  rcases h3 i hi with z | ⟨t, v, t1, t2, t3, t4⟩
  · exact Or.inl z
  · exact Or.inr ⟨t, v, t1, t2, t3.keep k, t4⟩
theorem kpF.up {n1 : Nat} (lt : ∀ z c, A z = some c → z < n1) (u : ∀ z, z < n1 → A' z = A z) : kpF A A' := fun z c hz _ _ => u z (lt z c hz)
/-- the text's place -/
def plV (v0 n v n1 : Nat) : Prop := v = v0 ∨ (n + 8 ≤ v ∧ v < n1)
def frF (A0 A : xx_H) (n h v0 : Nat) : Prop := ∀ z, z < n → ¬ z = h → ¬ z = v0 → A z = A0 z
theorem td_ap {A0 : xx_H} {h v0 v m n1 n' : Nat} {tx tx' : List Int32} {r : xx_R} (hW : sbW A h v m tx) (hv : plV v0 n v n1) (hn : n + 8 ≤ n1) (hF : frF A0 A n h v0) (hQ : apQ A h v n1 tx' r A' n') (lt : ∀ z c, A z = some c → z < n1) : (n1 ≤ n' ∧ n' ≤ n1 + 1) ∧ (∃ v' m', sbW A' h v' m' tx' ∧ plV v0 n v' n') ∧ n + 8 ≤ n' ∧ frF A0 A' n h v0 ∧ kpF A A' := by
  obtain ⟨-, h1, h2, v', m', h3, h4, h5⟩ := hQ
  refine ⟨⟨h1, h2⟩, ⟨v', m', h3, ?_⟩, by omega, fun z a b c => (h5 z (by omega) b (by unfold plV at hv; omega)).trans (hF z a b c), fun z c hz k1 k2 => h5 z (lt z c hz) (fun e => ?_) (fun e => ?_)⟩
  · unfold plV at hv ⊢; omega
  · subst e; rw [hW.1] at hz; exact k1 _ (Option.some.inj hz).symm
  · subst e
    obtain ⟨g, hg, -⟩ := hW.2
    rw [hg] at hz; exact k2 _ _ (Option.some.inj hz).symm
theorem td_up {A0 : xx_H} {h v0 v m n1 n' : Nat} {tx : List Int32} (hW : sbW A h v m tx) (hv : plV v0 n v n1) (hn : n + 8 ≤ n1) (hF : frF A0 A n h v0) (lt : ∀ z c, A z = some c → z < n1) (h1 : n1 ≤ n') (u : ∀ z, z < n1 → A' z = A z) : sbW A' h v m tx ∧ plV v0 n v n' ∧ n + 8 ≤ n' ∧ frF A0 A' n h v0 ∧ kpF A A' := by
  obtain ⟨g, hg, -⟩ := hW.2
  exact ⟨hW.up (u _ (lt _ _ hW.1)) (u _ (lt _ _ hg)), by unfold plV at hv ⊢; omega, by omega, fun z a b c => (u z (by omega)).trans (hF z a b c), kpF.up lt u⟩
theorem td_wr {A0 : xx_H} {h v0 v m n1 y : Nat} {tx : List Int32} (hW : sbW A h v m tx) (hv : plV v0 n v n1) (hF : frF A0 A n h v0) (hh : h < n) (hv0 : v0 < n) (h1 : n ≤ y) (h2 : y < n + 8) (u : ∀ z, ¬ z = y → A' z = A z) : sbW A' h v m tx ∧ frF A0 A' n h v0 :=
  ⟨hW.up (u _ (by omega)) (u _ (by unfold plV at hv; omega)), fun z a b c => (u z (by omega)).trans (hF z a b c)⟩
section
variable {M : xx_M} {fr lo mc ms : Nat} {Post : xx_Q} {pc : Nat} {L : List (Nat × Value)} {S : List Value}
theorem J_aloadN {i : Nat} (hd : decode M.2.2.1 pc = .ok (.aload i, 2)) (hl : L.find? (fun q => q.1 == i) = some (i, .null)) (kk : xx_J G l M fr lo mc ms Post (pc + 2) L (.null :: S) A n k j) : xx_J G l M fr lo mc ms Post pc L S A n k j := by
  intro p e s m args below meth c ad0 n0 F ad H locs ls ⟨a1, a2, a3, a4, a5, a6, a7⟩
  exact lv_aloadN F.1 F.2.1 hd (xx_ld a5 hl) (kk p e s m args below meth c ad0 n0 F ad H locs ls ⟨a1, a2, a3, a4, a5, xx_c (xx_ldw a7 hl) a6, a7⟩)
theorem J_astoreN {i : Nat} {L' : List (Nat × Value)} (hd : decode M.2.2.1 pc = .ok (.astore i, 2)) (hn : i < M.2.2.2.1) (hl : (i, .null) :: xx_f1 i L = L') (kk : xx_J G l M fr lo mc ms Post (pc + 2) L' S A n k j) : xx_J G l M fr lo mc ms Post pc L (.null :: S) A n k j := by
  intro p e s m args below meth c ad0 n0 F ad H locs ls ⟨a1, a2, a3, a4, a5, a6, a7⟩
  exact lv_astoreN F.1 F.2.1 hd a5 hn (xx_stl hl) (fun ls' h9 => kk p e s m args below meth c ad0 n0 F ad H locs ls' ⟨a1, a2, a3, a4, h9, xx_t a6, xx_stw hl (a6 _ List.mem_cons_self) a7⟩)
theorem J_aastTQ {h len v : Nat} {f : Nat → Option Nat} {fs : List Value} {i : Int32} (p : Nat) (hd : decode M.2.2.1 pc = .ok (.aastore, 1)) (hA : A h = some (.inl (5, len, .inr (.inr (.inr (.inr f)))))) (hi : i = nI p) (hp : p < len) (hl : len < 2 ^ 31) (hv : A v = some (.inr (7, fs))) (kk : ∀ A1 : xx_H, A1 h = some (.inl (5, len, .inr (.inr (.inr (.inr (va_up f p (some v))))))) → (∀ z, z ≠ h → A1 z = A z) → xx_J G l M fr lo mc ms Post (pc + 1) L S A1 n k j) : xx_J G l M fr lo mc ms Post pc L (.ref v :: .int i :: .ref h :: S) A n k j := by
  subst hi
  refine J_aastT hd hA (vp_in_nI hp hl) hv ?_
  rw [nI_clamp (by omega)]
  exact J_up kk
theorem J_aastNQ {h len : Nat} {f : Nat → Option Nat} {i : Int32} (p : Nat) (hd : decode M.2.2.1 pc = .ok (.aastore, 1)) (hA : A h = some (.inl (5, len, .inr (.inr (.inr (.inr f)))))) (hi : i = nI p) (hp : p < len) (hl : len < 2 ^ 31) (kk : ∀ A1 : xx_H, A1 h = some (.inl (5, len, .inr (.inr (.inr (.inr (va_up f p none)))))) → (∀ z, z ≠ h → A1 z = A z) → xx_J G l M fr lo mc ms Post (pc + 1) L S A1 n k j) : xx_J G l M fr lo mc ms Post pc L (.null :: .int i :: .ref h :: S) A n k j := by
  subst hi
  refine J_aastN0 hd hA (vp_in_nI hp hl) ?_
  rw [nI_clamp (by omega)]
  exact J_up kk
end
def tdS (n nw nr a c : Nat) (st wo tls : Nat → Int32) : sS := (fun q => if q = 0 then nI nw else 0, fun q => if q = 1 then st else if q = 2 then wo else if q = 3 then tls else fun _ => 0, fun q => if q = 0 then n + 6 else if q = 2 then n + 7 else if q = 4 then a else if q = 5 then c else if q = 6 then nr else 0)
/-- the rules so far -/
def tdR (nr a c : Nat) (tls : Nat → Int32) (tt : Nat → Option (Tr 4)) (A : xx_H) : Prop := A a = some (.inl (0, nr, .inl tls)) ∧ ∃ f, A c = some (.inl (5, nr, .inr (.inr (.inr (.inr f))))) ∧ ∀ i, i < nr → (tt i = none ∧ f i = none) ∨ ∃ t v, tt i = some t ∧ f i = some v ∧ trA A 4 v t ∧ trK 4 t
theorem tdR.keep {nr a c : Nat} {tls : Nat → Int32} {tt : Nat → Option (Tr 4)} (h : tdR nr a c tls tt A) (k : kpF A A') : tdR nr a c tls tt A' := by
  obtain ⟨h1, f, h2, h3⟩ := h
  refine ⟨(k _ _ h1 (fun q z => nomatch z) (fun m f z => nomatch z)).trans h1, f, (k _ _ h2 (fun q z => nomatch z) (fun m f z => nomatch z)).trans h2, fun i hi => ?_⟩
  rcases h3 i hi with z | ⟨t, v, t1, t2, t3, t4⟩
  · exact Or.inl z
  · exact Or.inr ⟨t, v, t1, t2, t3.keep k, t4⟩
theorem tdW.sim {nw nr a c : Nat} {st wo tls : Nat → Int32} (h : tdW n (nI nw) st wo a c A) : simW n (tdS n nw nr a c st wo tls) A := by
  obtain ⟨h1, h2, h3, h4, ⟨f, h5⟩, h6⟩ := h
  exact ⟨h1, h2, h3, h4, ⟨f, h5, fun i hi => absurd hi (Nat.not_lt_zero i)⟩, fun i hi => absurd hi (Nat.not_lt_zero i), h6⟩
/-- what stands between the rules: so many of them, the text so far -/
def tdJ (G : xx_G) (n h v0 : Nat) (A0 : xx_H) (m : Nat) (tx : List Int32) (n1 : Nat) (A : xx_H) : Prop := ∃ (st wo tls : Nat → Int32) (a c v mm : Nat), tdW n (nI (nwV G)) st wo a c A ∧ (∀ p, p < nwV G → st p = nI (stV G p)) ∧ (∀ p, p < 3 → wo p = nI (woV G p)) ∧ tdR m a c tls (tsV G) A ∧ (∀ p, p < m → tls p = nI (outV G p)) ∧ sbW A h v mm tx ∧ plV v0 n v n1 ∧ (n + 8 ≤ n1 ∧ n ≤ a) ∧ frF A0 A n h v0
theorem tdJ.up {h v0 m n1 n' : Nat} {A0 : xx_H} {tx : List Int32} (H : tdJ G n h v0 A0 m tx n1 A) (lt : ∀ z c, A z = some c → z < n1) (h1 : n1 ≤ n') (u : ∀ z, z < n1 → A' z = A z) : tdJ G n h v0 A0 m tx n' A' := by
  obtain ⟨st, wo, tls, a, c, v, mm, d1, d2, d3, d4, d5, d6, d7, ⟨d8, d8a⟩, d9⟩ := H
  obtain ⟨e1, e2, e3, e4, e5⟩ := td_up d6 d7 d8 d9 lt h1 u
  exact ⟨st, wo, tls, a, c, v, mm, d1.keep e5, d2, d3, d4.keep e5, d5, e1, e2, ⟨e3, d8a⟩, e4⟩
theorem tdJ.ap {h v0 m n1 : Nat} {A0 : xx_H} {tx sx : List Int32} {Q : Prop} (H : tdJ G n h v0 A0 m tx n1 A) (lt : ∀ z c, A z = some c → z < n1) (kk : ∀ v mm, sbW A h v mm tx → (∀ r A' n', apQ A h v n1 (tx ++ sx) r A' n' → n1 ≤ n' ∧ tdJ G n h v0 A0 m (tx ++ sx) n' A' ∧ kpF A A') → Q) : Q := by
  obtain ⟨st, wo, tls, a, c, v, mm, d1, d2, d3, d4, d5, d6, d7, ⟨d8, d8a⟩, d9⟩ := H
  refine kk v mm d6 (fun r A' n' hQ => ?_)
  obtain ⟨f1, ⟨v', m', f2, f3⟩, f4, f5, f6⟩ := td_ap d6 d7 d8 d9 hQ lt
  exact ⟨f1.1, ⟨st, wo, tls, a, c, v', m', d1.keep f6, d2, d3, d4.keep f6, d5, f2, f3, ⟨f4, d8a⟩, f5⟩, f6⟩
/-- the Sim's own cell is written: the rules -/
theorem tdJ.rul {h v0 m n1 a c2 : Nat} {A0 : xx_H} {tx : List Int32} {st wo tls tls2 : Nat → Int32} {c v mm : Nat} (hh : h < n) (hv0 : v0 < n) (d1 : tdW n (nI (nwV G)) st wo a c A) (d2 : ∀ p, p < nwV G → st p = nI (stV G p)) (d3 : ∀ p, p < 3 → wo p = nI (woV G p)) (d4 : tdR m a c2 tls2 (tsV G) A) (d5 : ∀ p, p < m → tls2 p = nI (outV G p)) (d6 : sbW A h v mm tx) (d7 : plV v0 n v n1) (d8 : n + 8 ≤ n1 ∧ n ≤ a) (d9 : frF A0 A n h v0) (g : A' n = some (.inr (6, [.int (nI (nwV G)), .ref (n + 1), .ref (n + 2), .ref a, .ref c2, .int 0, .ref (n + 5), .ref (n + 6), .ref (n + 7)]))) (u : ∀ z, ¬ z = n → A' z = A z) : tdJ G n h v0 A0 m tx n1 A' := by
  obtain ⟨w1, w2, w3, w4, ⟨fw, w5⟩, w6⟩ := d1
  obtain ⟨e1, e2⟩ := td_wr (y := n) d6 d7 d9 hh hv0 (Nat.le_refl _) (by omega) u
  have kp : ∀ z c, A z = some c → (∀ q, ¬ c = .inr (6, q)) → A' z = A z := fun z c hz k1 => u z (fun e => by subst e; rw [w1] at hz; exact k1 _ (Option.some.inj hz).symm)
  refine ⟨st, wo, tls2, a, c2, v, mm, ⟨g, (u _ (by omega)).trans w2, (u _ (by omega)).trans w3, (u _ (by omega)).trans w4, ⟨fw, (u _ (by omega)).trans w5⟩, (u _ (by omega)).trans w6⟩, d2, d3, ?_, d5, e1, d7, d8, e2⟩
  obtain ⟨h1, f, h2, h3⟩ := d4
  refine ⟨(kp _ _ h1 (fun q z => nomatch z)).trans h1, f, (kp _ _ h2 (fun q z => nomatch z)).trans h2, fun i hi => ?_⟩
  rcases h3 i hi with z | ⟨t, v, t1, t2, t3, t4⟩
  · exact Or.inl z
  · exact Or.inr ⟨t, v, t1, t2, t3.up _ _ _ (fun z c hz => kp z _ hz (fun q z => nomatch z)), t4⟩
/-- what stands before the rules -/
def tdB (G : xx_G) (n h v0 : Nat) (A0 : xx_H) (w : Int32) (st wo : Nat → Int32) (tx : List Int32) (n1 : Nat) (A : xx_H) : Prop := ∃ (tls : Nat → Int32) (v mm : Nat), tdW n w st wo (n + 3) (n + 4) A ∧ tdR 0 (n + 3) (n + 4) tls (tsV G) A ∧ sbW A h v mm tx ∧ plV v0 n v n1 ∧ n + 8 ≤ n1 ∧ frF A0 A n h v0
theorem tdB.w {h v0 n1 : Nat} {A0 : xx_H} {w : Int32} {st wo : Nat → Int32} {tx : List Int32} (H : tdB G n h v0 A0 w st wo tx n1 A) : tdW n w st wo (n + 3) (n + 4) A := by
  obtain ⟨tls, v, mm, d1, -⟩ := H; exact d1
theorem tdB.n8 {h v0 n1 : Nat} {A0 : xx_H} {w : Int32} {st wo : Nat → Int32} {tx : List Int32} (H : tdB G n h v0 A0 w st wo tx n1 A) : n + 8 ≤ n1 := by
  obtain ⟨tls, v, mm, d1, d2, d3, d4, d5, d6⟩ := H; exact d5
theorem tdB.ap {h v0 n1 : Nat} {A0 : xx_H} {w : Int32} {st wo : Nat → Int32} {tx sx : List Int32} {Q : Prop} (H : tdB G n h v0 A0 w st wo tx n1 A) (lt : ∀ z c, A z = some c → z < n1) (kk : ∀ v mm, sbW A h v mm tx → (∀ r A' n', apQ A h v n1 (tx ++ sx) r A' n' → n1 ≤ n' ∧ tdB G n h v0 A0 w st wo (tx ++ sx) n' A') → Q) : Q := by
  obtain ⟨tls, v, mm, d1, d4, d6, d7, d8, d9⟩ := H
  refine kk v mm d6 (fun r A' n' hQ => ?_)
  obtain ⟨f1, ⟨v', m', f2, f3⟩, f4, f5, f6⟩ := td_ap d6 d7 d8 d9 hQ lt
  exact ⟨f1.1, tls, v', m', d1.keep f6, d4.keep f6, f2, f3, f4, f5⟩
theorem tdB.rl {tls : Nat → Int32} {y : Nat} (d4 : tdR 0 (n + 3) (n + 4) tls (tsV G) A) (h3 : ¬ y = n + 3) (h4 : ¬ y = n + 4) (u : ∀ z, ¬ z = y → A' z = A z) : tdR 0 (n + 3) (n + 4) tls (tsV G) A' := by
  obtain ⟨h1, f, h2, -⟩ := d4
  exact ⟨(u _ (Ne.symm h3)).trans h1, f, (u _ (Ne.symm h4)).trans h2, fun i hi => absurd hi (Nat.not_lt_zero i)⟩
theorem tdB.st {h v0 n1 : Nat} {A0 : xx_H} {w : Int32} {st st' wo : Nat → Int32} {tx : List Int32} (H : tdB G n h v0 A0 w st wo tx n1 A) (hh : h < n) (hv0 : v0 < n) (g : A' (n + 1) = some (.inl (0, 12, .inl st'))) (u : ∀ z, ¬ z = n + 1 → A' z = A z) : tdB G n h v0 A0 w st' wo tx n1 A' := by
  obtain ⟨tls, v, mm, ⟨w1, w2, w3, w4, ⟨fw, w5⟩, w6⟩, d4, d6, d7, d8, d9⟩ := H
  obtain ⟨e1, e2⟩ := td_wr (y := n + 1) d6 d7 d9 hh hv0 (by omega) (by omega) u
  exact ⟨tls, v, mm, ⟨(u _ (by omega)).trans w1, g, (u _ (by omega)).trans w3, (u _ (by omega)).trans w4, ⟨fw, (u _ (by omega)).trans w5⟩, (u _ (by omega)).trans w6⟩, tdB.rl d4 (by omega) (by omega) u, e1, d7, d8, e2⟩
theorem tdB.wo {h v0 n1 : Nat} {A0 : xx_H} {w : Int32} {st wo wo' : Nat → Int32} {tx : List Int32} (H : tdB G n h v0 A0 w st wo tx n1 A) (hh : h < n) (hv0 : v0 < n) (g : A' (n + 2) = some (.inl (0, 3, .inl wo'))) (u : ∀ z, ¬ z = n + 2 → A' z = A z) : tdB G n h v0 A0 w st wo' tx n1 A' := by
  obtain ⟨tls, v, mm, ⟨w1, w2, w3, w4, ⟨fw, w5⟩, w6⟩, d4, d6, d7, d8, d9⟩ := H
  obtain ⟨e1, e2⟩ := td_wr (y := n + 2) d6 d7 d9 hh hv0 (by omega) (by omega) u
  exact ⟨tls, v, mm, ⟨(u _ (by omega)).trans w1, (u _ (by omega)).trans w2, g, (u _ (by omega)).trans w4, ⟨fw, (u _ (by omega)).trans w5⟩, (u _ (by omega)).trans w6⟩, tdB.rl d4 (by omega) (by omega) u, e1, d7, d8, e2⟩
/-- what told makes of n, and its text -/
def toldQ (G : xx_G) (h v0 n : Nat) (A : xx_H) : xx_Q := fun r A' n' => r = .inl (some (.ref n)) ∧ tdJ G n h v0 A (nrV G) (rlX G (nrV G)) n' A'
theorem upd_nx {f : Nat → Int32} {v : Nat → Nat} {i : Nat} (h : ∀ p, p < i → f p = nI (v p)) : ∀ p, p < i + 1 → upd f i (nI (v i)) p = nI (v p) := fun p hp => by
  by_cases e : p = i
  · subst e; exact pk_us
  · rw [pk_un e]; exact h p (by omega)
theorem rul_st {h v0 n1 i : Nat} {A0 A34 A35 : xx_H} {tx : List Int32} {st wo tls g : Nat → Int32} {a c v mm : Nat} {fT f' : Nat → Option Nat} (hh : h < n) (hv0 : v0 < n) (d1 : tdW n (nI (nwV G)) st wo a c A) (d2 : ∀ p, p < nwV G → st p = nI (stV G p)) (d3 : ∀ p, p < 3 → wo p = nI (woV G p)) (r3 : ∀ q, q < i → (tsV G q = none ∧ fT q = none) ∨ ∃ t v, tsV G q = some t ∧ fT q = some v ∧ trA A 4 v t ∧ trK 4 t) (d5 : ∀ p, p < i → tls p = nI (outV G p)) (d6 : sbW A h v mm tx) (d7 : plV v0 n v n1) (d8 : n + 8 ≤ n1 ∧ n ≤ a) (d9 : frF A0 A n h v0) (lt : ∀ z c, A z = some c → z < n1)
    (hob : A34 n = some (.inr (6, [.int (nI (nwV G)), .ref (n + 1), .ref (n + 2), .ref n1, .ref c, .int 0, .ref (n + 5), .ref (n + 6), .ref (n + 7)]))) (q1 : A34 n1 = some (.inl (0, i + 1, .inl g))) (q2 : ∀ p, p < i → g p = tls p) (q3 : g i = nI (outV G i)) (s1 : A34 (n1 + 1) = some (.inl (5, i + 1, .inr (.inr (.inr (.inr f')))))) (s2 : ∀ p, p < i → f' p = fT p) (s3 : (tsV G i = none ∧ f' i = none) ∨ ∃ t v, tsV G i = some t ∧ f' i = some v ∧ trA A 4 v t ∧ trK 4 t) (hq : ∀ z, z < n1 → ¬ z = n → A34 z = A z)
    (g35 : A35 n = some (.inr (6, [.int (nI (nwV G)), .ref (n + 1), .ref (n + 2), .ref n1, .ref (n1 + 1), .int 0, .ref (n + 5), .ref (n + 6), .ref (n + 7)]))) (o35 : ∀ z, ¬ z = n → A35 z = A34 z) : tdJ G n h v0 A0 (i + 1) tx (n1 + 1 + 1) A35 := by
  obtain ⟨w1, w2, w3, w4, ⟨fw, w5⟩, w6⟩ := d1
  obtain ⟨gg, hg, -⟩ := d6.2
  have ht : ∀ v t, trA A 4 v t → trA A34 4 v t := fun v t z => z.up _ _ _ (fun y c hy => hq y (lt _ _ hy) (fun e => by subst e; rw [w1] at hy; cases hy))
  have d1' : tdW n (nI (nwV G)) st wo n1 c A34 := ⟨hob, (hq _ (by omega) (by omega)).trans w2, (hq _ (by omega) (by omega)).trans w3, (hq _ (by omega) (by omega)).trans w4, ⟨fw, (hq _ (by omega) (by omega)).trans w5⟩, (hq _ (by omega) (by omega)).trans w6⟩
  refine tdJ.rul (a := n1) (c2 := n1 + 1) (tls := g) hh hv0 d1' d2 d3 (m := i + 1) (tls2 := g) ⟨q1, f', s1, fun q hq9 => ?_⟩ (fun p hp => ?_) (d6.up (hq _ (by omega) (by omega)) (hq _ (lt _ _ hg) (by unfold plV at d7; omega))) (by unfold plV at d7 ⊢; omega) (by omega) (fun z b1 b2 b3 => (hq z (by omega) (by omega)).trans (d9 z b1 b2 b3)) g35 o35
  · by_cases e : q < i
    · rw [s2 q e]
      rcases r3 q e with z | ⟨t, v, t1, t2, t3, t4⟩
      · exact Or.inl z
      · exact Or.inr ⟨t, v, t1, t2, ht _ _ t3, t4⟩
    · have e : q = i := by omega
      subst e
      rcases s3 with z | ⟨t, v, t1, t2, t3, t4⟩
      · exact Or.inl z
      · exact Or.inr ⟨t, v, t1, t2, ht _ _ t3, t4⟩
  · by_cases e : p < i
    · rw [q2 p e]; exact d5 p e
    · rw [show p = i from by omega]; exact q3
set_option maxRecDepth 100000 in
set_option maxHeartbeats 8000000 in
theorem c_L_told (hst : l.stackTraces = false) (hL : G.2.2.2 400 ≤ 3072) {h v0 m0 : Nat} (hW : sbW A h v0 m0 []) : xx_C G l yL_told mL_told 11 400 1000 1000000 [.ref 160, .int 6, .ref h] A n (toldQ G h v0 n A) := by
  have hnw := nwV_lt (G := G)
  have hnr := nrV_lt (G := G)
  refine J_C hst (by decide +kernel) rfl rfl rfl (Nat.le_of_ble_eq_true rfl) ?_
  show xx_J _ _ _ _ _ _ _ _ 0 [(0, _), (1, _), (2, _)] [] _ _ _ _
  refine J_ltA (fun lt0 => ?_)
  have hhn := lt0 _ _ hW.1
  obtain ⟨gv, hgv, -⟩ := hW.2
  have hv0n := lt0 _ _ hgv
  have loopD : ∀ i, i ≤ nrV G → ∀ (x : Int32) (A1 : xx_H) (n1 k1 j1 : Nat), x = nI i → (k1 ≤ 46 + 237 * i ∧ j1 ≤ 70000 + 231000 * i) → tdJ G n h v0 A i (rlX G i) n1 A1 → xx_J G l mL_told 11 400 1000 1000000 (toldQ G h v0 n A) 211 [(5, .int x), (4, .int (nI (nrV G))), (3, .ref n), (0, .ref 160), (1, .int 6), (2, .ref h)] [] A1 n1 k1 j1 := by
    refine xx_dn ?_ ?_
    · intro x A1 n1 k1 j1 hx hk hB20
      have ex : x.toInt = nrV G := by rw [hx]; exact i_n (by omega)
      have en : (nI (nrV G)).toInt = nrV G := i_n (by omega)
      refine J_iload dL_told_211 rfl ?_
      refine J_iload dL_told_213 rfl ?_
      refine J_icmp_ge (tgt := 421) dL_told_215 rfl (fun h215 => ?_) (fun h215 => ?_)
      · refine J_aload_n dL_told_421 rfl rfl ?_
        refine J_areturn (C := _) dL_told_422 rfl (by omega) (by omega) ?_
        exact ⟨rfl, hB20⟩
      · first | (exfalso; simp only [i_lt, i_le, i_eq, i_0, i_1, i_2, i_3, i_4, i_5, i_6, i_8, i_9, i_10, i_12, i_16, i_20, i_m1] at h215; omega) | (exfalso; simp only [s_up, a_up, va_up, i_lt, i_le, i_eq, i_0, i_1, i_2, i_3, i_4, i_5, i_6, i_8, i_9, i_10, i_12, i_16, i_20, i_m1, ↓reduceIte, Nat.reduceEqDiff] at h215; omega)
    · intro i hii ih x A1 n1 k1 j1 hx hk hB20
      subst hx
      have ex : (nI i).toInt = i := i_n (by omega)
      have en : (nI (nrV G)).toInt = nrV G := i_n (by omega)
      have hlx := rlX_len (G := G) (i + 1) (by omega)
      have hov := blw_lt (v := rxV G i) (m := 3) (by decide)
      by_cases hts : i + 1 = nrV G ∧ blw (shr (rxV G i) 2) 3 = 0
      · refine J_iload dL_told_211 rfl ?_
        refine J_iload dL_told_213 rfl ?_
        refine J_icmp_ge (tgt := 421) dL_told_215 rfl (fun h215 => ?_) (fun h215 => ?_)
        · first | (exfalso; simp only [i_lt, i_le, i_eq, i_0, i_1, i_2, i_3, i_4, i_5, i_6, i_8, i_9, i_10, i_12, i_16, i_20, i_m1] at h215; omega) | (exfalso; simp only [s_up, a_up, va_up, i_lt, i_le, i_eq, i_0, i_1, i_2, i_3, i_4, i_5, i_6, i_8, i_9, i_10, i_12, i_16, i_20, i_m1, ↓reduceIte, Nat.reduceEqDiff] at h215; omega)
        · refine J_aload_n dL_told_218 rfl rfl ?_
          refine J_iconst (v := 4) dL_told_219 (by decide) ?_
          refine J_iload dL_told_220 rfl ?_
          refine J_iadd dL_told_222 ?_
          rw [show (4 : Int32) + nI i = nI (4 + i) from nI_add 4 i]
          refine J_callSr (As := [_, _]) dL_told_223 ml_L_66 cal_L_cell sm_L_cell rfl rfl (Nat.le_of_ble_eq_true rfl) ⟨by decide, by decide⟩ ⟨by omega, by omega⟩ (c_L_cell hst (k := 4 + i) hL (by omega)) ?_
          refine J_iconst (v := 3) dL_told_226 (by decide) ?_
          refine J_ishr dL_told_227 ?_
          refine J_bipush (v := 17) dL_told_228 (by decide) ?_
          refine J_iload dL_told_230 rfl ?_
          refine J_imul dL_told_232 ?_
          refine J_iadd dL_told_233 ?_
          refine J_istore (L' := [(6, _), (5, _), (4, _), (3, _), (0, _), (1, _), (2, _)]) dL_told_234 (by decide) rfl ?_
          refine J_iload dL_told_236 rfl ?_
          refine J_iconst (v := 3) dL_told_238 (by decide) ?_
          refine J_callSr (As := [_, _]) dL_told_239 ml_L_35 cal_L_below sm_L_below rfl rfl (Nat.le_of_ble_eq_true rfl) ⟨by decide, by decide⟩ ⟨by omega, by omega⟩ (c_L_below hst (rxV G i) (m := 3) (by decide) (by decide)) ?_
          refine J_istore (L' := [(7, _), (6, _), (5, _), (4, _), (3, _), (0, _), (1, _), (2, _)]) dL_told_242 (by decide) rfl ?_
          refine J_iload dL_told_244 rfl ?_
          refine J_iconst (v := 1) dL_told_246 (by decide) ?_
          refine J_iadd dL_told_247 ?_
          refine J_iload dL_told_248 rfl ?_
          refine J_icmp_ne (tgt := 268) dL_told_250 rfl (fun h250 => ?_) (fun h250 => ?_)
          · exact absurd ((nI_1 i).trans (congrArg nI hts.1)) h250
          · refine J_iload dL_told_253 rfl ?_
            refine J_iconst (v := 2) dL_told_255 (by decide) ?_
            refine J_ishr dL_told_256 ?_
            refine J_iconst (v := 3) dL_told_257 (by decide) ?_
            refine J_callSr (As := [_, _]) dL_told_258 ml_L_35 cal_L_below sm_L_below rfl rfl (Nat.le_of_ble_eq_true rfl) ⟨by decide, by decide⟩ ⟨by omega, by omega⟩ (c_L_below hst (shr (rxV G i) 2) (m := 3) (by decide) (by decide)) ?_
            refine J_if_ne (tgt := 268) dL_told_261 rfl (fun h261 => ?_) (fun h261 => ?_)
            · exact absurd (congrArg nI hts.2) h261
            · refine J_null dL_told_264 ?_
              refine J_goto (tgt := 276) dL_told_265 rfl ?_
              obtain ⟨st, wo, tls, a, c, v1, mm, d1, d2, d3, ⟨r1, fT, r2, r3⟩, d5, d6, d7, d8, d9⟩ := hB20
              refine J_ltA (fun lt9 => ?_)
              have hcn : ¬ c = n := fun e => by have z := d1.1; rw [← e, r2] at z; cases z
              have hcl := lt9 _ _ r2
              have htv : tsV G i = none := by unfold tsV; rw [if_pos hts]
              refine J_astoreN (L' := [(8, _), (7, _), (6, _), (5, _), (4, _), (3, _), (0, _), (1, _), (2, _)]) dL_told_276 (by decide) rfl ?_
              refine J_aload_n dL_told_278 rfl rfl ?_
              refine J_aload_n dL_told_279 rfl rfl ?_
              refine J_getf dL_told_280 fl_L_99 d1.1 rfl ?_
              refine J_iload dL_told_283 rfl ?_
              refine J_callSg (As := [_, _]) dL_told_285 ml_L_102 cal_X7_with_ rfl sm_X7_with_ rfl (Nat.le_of_ble_eq_true rfl) ⟨by decide, by decide⟩ ⟨by omega, by omega⟩ (c_X7_with_ hst r1 (by omega)) (fun v8 A8 n8 _ hQ => ?_) (fun _ _ _ _ hE => absurd hE.1 (fun z => nomatch z))
              obtain ⟨e8, hn8, ⟨g, q1, q2, q3⟩, q4⟩ := hQ
              subst n8
              cases e8
              refine J_putf dL_told_288 fp_L_99 (fun _ => ⟨rfl, rfl⟩) ((q4 n (by omega)).trans d1.1) (Nat.le_of_ble_eq_true rfl) ?_
              refine J_up (fun A31 g31 o31 => ?_)
              refine J_iload dL_told_291 rfl ?_
              refine J_iconst (v := 1) dL_told_293 (by decide) ?_
              refine J_iadd dL_told_294 ?_
              rw [nI_1]
              refine J_newT (N := i + 1) dL_told_295 cl_L_32 (nI_pos (by omega)) (nI_clamp (by omega)) (by omega) (by omega) (by omega) ?_
              refine J_up (fun A32 g32 o32 => ?_)
              refine J_astore (L' := [(9, _), (8, _), (7, _), (6, _), (5, _), (4, _), (3, _), (0, _), (1, _), (2, _)]) dL_told_298 (by decide) rfl ?_
              refine J_iconst (v := 0) dL_told_300 (by decide) ?_
              refine J_istore (L' := [(10, _), (9, _), (8, _), (7, _), (6, _), (5, _), (4, _), (3, _), (0, _), (1, _), (2, _)]) dL_told_301 (by decide) rfl ?_
              have cop : ∀ K9 J9 : Nat, (K9 ≤ k1 + 17 ∧ J9 ≤ j1 + 170) → ∀ y, y ≤ i → ∀ (z0 : Int32) (A33 : xx_H) (g33 : Nat → Option Nat), z0 = nI y → A33 (n1 + 1) = some (.inl (5, i + 1, .inr (.inr (.inr (.inr g33))))) → (∀ p, p < y → g33 p = fT p) → (∀ z, ¬ z = n1 + 1 → A33 z = A32 z) → xx_J G l mL_told 11 400 1000 1000000 (toldQ G h v0 n A) 303 [(10, .int z0), (9, .ref (n1 + 1)), (8, .null), (7, .int (nI (outV G i))), (6, .int (rxV G i)), (5, .int (nI i)), (4, .int (nI (nrV G))), (3, .ref n), (0, .ref 160), (1, .int 6), (2, .ref h)] [] A33 (n1 + 1 + 1) K9 J9 := by
                intro K9 J9 hKJ
                refine xx_dn ?_ ?_
                · intro z0 A33 g33 hz0 hg33 hs33 hz33
                  have ez : z0.toInt = i := by rw [hz0]; exact i_n (by omega)
                  refine J_iload dL_told_303 rfl ?_
                  refine J_iload dL_told_305 rfl ?_
                  refine J_icmp_ge (tgt := 328) dL_told_307 rfl (fun h307 => ?_) (fun h307 => ?_)
                  · refine J_aload dL_told_328 rfl ?_
                    refine J_iload dL_told_330 rfl ?_
                    refine J_aloadN dL_told_332 rfl ?_
                    refine J_aastNQ i dL_told_334 hg33 rfl (by omega) (by omega) (fun A34 g34 o34 => ?_)
                    refine J_aload_n dL_told_335 rfl rfl ?_
                    refine J_aload dL_told_336 rfl ?_
                    refine J_putf dL_told_338 fp_L_106 (fun _ => ⟨rfl, rfl⟩) ((o34 n (by omega)).trans ((hz33 n (by omega)).trans ((o32 n (by omega)).trans g31))) (Nat.le_of_ble_eq_true rfl) ?_
                    refine J_up (fun A35 g35 o35 => ?_)
                    have hB35 : tdJ G n h v0 A (i + 1) (rlX G i) (n1 + 1 + 1) A35 := rul_st hhn hv0n d1 d2 d3 r3 d5 d6 d7 d8 d9 lt9 ((o34 n (by omega)).trans ((hz33 n (by omega)).trans ((o32 n (by omega)).trans g31))) ((o34 n1 (by omega)).trans ((hz33 n1 (by omega)).trans ((o32 n1 (by omega)).trans ((o31 n1 (by omega)).trans q1)))) q2 q3 g34 (fun p hp => (va_up_ne _ _ (by omega)).trans (hs33 p hp)) (Or.inl ⟨htv, va_up_self _ _ _⟩) (fun z hz hzn => (o34 z (by omega)).trans ((hz33 z (by omega)).trans ((o32 z (by omega)).trans ((o31 z hzn).trans (q4 z hz))))) g35 o35
                    refine J_aload_n dL_told_341 rfl rfl ?_
                    refine J_ldcS 5 dL_told_342 rfl ?_
                    refine J_ltA (fun lt35 => ?_)
                    refine hB35.ap (sx := tl 5) lt35 (fun v35 m35 hW35 hap35 => ?_)
                    refine J_callV (As := [_]) dL_told_344 ml_L_75 cal_J4_append_15ec4 im_J4_append_15ec4 se_J4_append_15ec4 hW35.1 rfl rfl rfl (Nat.le_of_ble_eq_true rfl) ⟨by decide, by decide⟩ ⟨by omega, by omega⟩ (c_J4_append_15ec4 (sx := tl 5) hst hW35 (strT (k := 5) (by decide)) (by have h9 : (rlX G i ++ tl 5 ++ ouX (outV G i) ++ whX (tsV G i) ++ tl 2).length ≤ 163 + 163 * (i + 1) := hlx; simp only [List.length_append] at h9 ⊢; omega)) (fun _ _ _ _ hE => absurd hE.1 (fun z => nomatch z)) (fun v9 A36 n36 _ hQ => ?_)
                    obtain ⟨hn36, hB36, hK36⟩ := hap35 _ _ _ hQ
                    have e9 := hQ.1
                    cases e9
                    refine J_iload dL_told_347 rfl ?_
                    refine J_if_ne (tgt := 357) dL_told_349 rfl (fun h349 => ?_) (fun h349 => ?_)
                    · have k349 : ¬ outV G i = 0 := fun z => h349 (by rw [z]; rfl)
                      refine J_iload dL_told_357 rfl ?_
                      refine J_iconst (v := 1) dL_told_359 (by decide) ?_
                      refine J_icmp_ne (tgt := 368) dL_told_360 rfl (fun h360 => ?_) (fun h360 => ?_)
                      · have k360 : ¬ outV G i = 1 := fun z => h360 (by rw [z]; rfl)
                        have hou : ouX (outV G i) = tl 8 := by unfold ouX; rw [if_neg k349, if_neg k360]
                        refine J_ldcS 8 dL_told_368 rfl ?_
                        refine J_ltA (fun lt36 => ?_)
                        refine hB36.ap (sx := ouX (outV G i)) lt36 (fun v36 m36 hW36 hap36 => ?_)
                        refine J_callV (As := [_]) dL_told_370 ml_L_75 cal_J4_append_15ec4 im_J4_append_15ec4 se_J4_append_15ec4 hW36.1 rfl rfl rfl (Nat.le_of_ble_eq_true rfl) ⟨by decide, by decide⟩ ⟨by omega, by omega⟩ (c_J4_append_15ec4 (sx := ouX (outV G i)) hst hW36 (by rw [hou]; exact strT (k := 8) (by decide)) (by have h9 : (rlX G i ++ tl 5 ++ ouX (outV G i) ++ whX (tsV G i) ++ tl 2).length ≤ 163 + 163 * (i + 1) := hlx; simp only [List.length_append] at h9 ⊢; omega)) (fun _ _ _ _ hE => absurd hE.1 (fun z => nomatch z)) (fun v9 A37 n37 _ hQ => ?_)
                        obtain ⟨hn37, hB37, hK37⟩ := hap36 _ _ _ hQ
                        have e9 := hQ.1
                        cases e9
                        refine J_aloadN dL_told_373 rfl ?_
                        refine J_ifnonnullN dL_told_375 ?_
                        refine J_ldcS 9 dL_told_378 rfl ?_
                        refine J_goto (tgt := 406) dL_told_380 rfl ?_
                        refine J_ltA (fun lt37 => ?_)
                        refine hB37.ap (sx := whX (tsV G i)) lt37 (fun v37 m37 hW37 hap37 => ?_)
                        refine J_callV (As := [_]) dL_told_406 ml_L_75 cal_J4_append_15ec4 im_J4_append_15ec4 se_J4_append_15ec4 hW37.1 rfl rfl rfl (Nat.le_of_ble_eq_true rfl) ⟨by decide, by decide⟩ ⟨by omega, by omega⟩ (c_J4_append_15ec4 (sx := whX (tsV G i)) hst hW37 (by rw [htv]; exact strT (k := 9) (by decide)) (by have h9 : (rlX G i ++ tl 5 ++ ouX (outV G i) ++ whX (tsV G i) ++ tl 2).length ≤ 163 + 163 * (i + 1) := hlx; simp only [List.length_append] at h9 ⊢; omega)) (fun _ _ _ _ hE => absurd hE.1 (fun z => nomatch z)) (fun v9 A38 n38 _ hQ => ?_)
                        obtain ⟨hn38, hB38, hK38⟩ := hap37 _ _ _ hQ
                        have e9 := hQ.1
                        cases e9
                        refine J_ldcS 2 dL_told_409 rfl ?_
                        refine J_ltA (fun lt38 => ?_)
                        refine hB38.ap (sx := tl 2) lt38 (fun v38 m38 hW38 hap38 => ?_)
                        refine J_callV (As := [_]) dL_told_411 ml_L_75 cal_J4_append_15ec4 im_J4_append_15ec4 se_J4_append_15ec4 hW38.1 rfl rfl rfl (Nat.le_of_ble_eq_true rfl) ⟨by decide, by decide⟩ ⟨by omega, by omega⟩ (c_J4_append_15ec4 (sx := tl 2) hst hW38 (strT (k := 2) (by decide)) (by have h9 : (rlX G i ++ tl 5 ++ ouX (outV G i) ++ whX (tsV G i) ++ tl 2).length ≤ 163 + 163 * (i + 1) := hlx; simp only [List.length_append] at h9 ⊢; omega)) (fun _ _ _ _ hE => absurd hE.1 (fun z => nomatch z)) (fun v9 A39 n39 _ hQ => ?_)
                        obtain ⟨hn39, hB39, hK39⟩ := hap38 _ _ _ hQ
                        have e9 := hQ.1
                        cases e9
                        refine J_pop dL_told_414 rfl ?_
                        refine J_iinc (v := _ + 1) (L' := [(5, _), (10, _), (9, _), (8, _), (7, _), (6, _), (4, _), (3, _), (0, _), (1, _), (2, _)]) dL_told_415 rfl rfl (by decide) rfl ?_
                        refine J_goto (tgt := 211) dL_told_418 rfl ?_
                        refine xx_J.pick [0, 6, 7, 8, 9, 10] rfl ?_
                        exact ih _ _ _ _ _ (nI_1 i) (by omega) (show tdJ G n h v0 A (i + 1) (rlX G i ++ tl 5 ++ ouX (outV G i) ++ whX (tsV G i) ++ tl 2) _ _ from hB39)
                      · have k360 : outV G i = 1 := (nI_eq (Nat.lt_trans (blw_lt (by decide)) (by decide)) (by decide)).mp (show nI (outV G i) = nI 1 from h360)
                        have hou : ouX (outV G i) = tl 7 := by unfold ouX; rw [if_neg k349, if_pos k360]
                        refine J_ldcS 7 dL_told_363 rfl ?_
                        refine J_goto (tgt := 370) dL_told_365 rfl ?_
                        refine J_ltA (fun lt36 => ?_)
                        refine hB36.ap (sx := ouX (outV G i)) lt36 (fun v36 m36 hW36 hap36 => ?_)
                        refine J_callV (As := [_]) dL_told_370 ml_L_75 cal_J4_append_15ec4 im_J4_append_15ec4 se_J4_append_15ec4 hW36.1 rfl rfl rfl (Nat.le_of_ble_eq_true rfl) ⟨by decide, by decide⟩ ⟨by omega, by omega⟩ (c_J4_append_15ec4 (sx := ouX (outV G i)) hst hW36 (by rw [hou]; exact strT (k := 7) (by decide)) (by have h9 : (rlX G i ++ tl 5 ++ ouX (outV G i) ++ whX (tsV G i) ++ tl 2).length ≤ 163 + 163 * (i + 1) := hlx; simp only [List.length_append] at h9 ⊢; omega)) (fun _ _ _ _ hE => absurd hE.1 (fun z => nomatch z)) (fun v9 A37 n37 _ hQ => ?_)
                        obtain ⟨hn37, hB37, hK37⟩ := hap36 _ _ _ hQ
                        have e9 := hQ.1
                        cases e9
                        refine J_aloadN dL_told_373 rfl ?_
                        refine J_ifnonnullN dL_told_375 ?_
                        refine J_ldcS 9 dL_told_378 rfl ?_
                        refine J_goto (tgt := 406) dL_told_380 rfl ?_
                        refine J_ltA (fun lt37 => ?_)
                        refine hB37.ap (sx := whX (tsV G i)) lt37 (fun v37 m37 hW37 hap37 => ?_)
                        refine J_callV (As := [_]) dL_told_406 ml_L_75 cal_J4_append_15ec4 im_J4_append_15ec4 se_J4_append_15ec4 hW37.1 rfl rfl rfl (Nat.le_of_ble_eq_true rfl) ⟨by decide, by decide⟩ ⟨by omega, by omega⟩ (c_J4_append_15ec4 (sx := whX (tsV G i)) hst hW37 (by rw [htv]; exact strT (k := 9) (by decide)) (by have h9 : (rlX G i ++ tl 5 ++ ouX (outV G i) ++ whX (tsV G i) ++ tl 2).length ≤ 163 + 163 * (i + 1) := hlx; simp only [List.length_append] at h9 ⊢; omega)) (fun _ _ _ _ hE => absurd hE.1 (fun z => nomatch z)) (fun v9 A38 n38 _ hQ => ?_)
                        obtain ⟨hn38, hB38, hK38⟩ := hap37 _ _ _ hQ
                        have e9 := hQ.1
                        cases e9
                        refine J_ldcS 2 dL_told_409 rfl ?_
                        refine J_ltA (fun lt38 => ?_)
                        refine hB38.ap (sx := tl 2) lt38 (fun v38 m38 hW38 hap38 => ?_)
                        refine J_callV (As := [_]) dL_told_411 ml_L_75 cal_J4_append_15ec4 im_J4_append_15ec4 se_J4_append_15ec4 hW38.1 rfl rfl rfl (Nat.le_of_ble_eq_true rfl) ⟨by decide, by decide⟩ ⟨by omega, by omega⟩ (c_J4_append_15ec4 (sx := tl 2) hst hW38 (strT (k := 2) (by decide)) (by have h9 : (rlX G i ++ tl 5 ++ ouX (outV G i) ++ whX (tsV G i) ++ tl 2).length ≤ 163 + 163 * (i + 1) := hlx; simp only [List.length_append] at h9 ⊢; omega)) (fun _ _ _ _ hE => absurd hE.1 (fun z => nomatch z)) (fun v9 A39 n39 _ hQ => ?_)
                        obtain ⟨hn39, hB39, hK39⟩ := hap38 _ _ _ hQ
                        have e9 := hQ.1
                        cases e9
                        refine J_pop dL_told_414 rfl ?_
                        refine J_iinc (v := _ + 1) (L' := [(5, _), (10, _), (9, _), (8, _), (7, _), (6, _), (4, _), (3, _), (0, _), (1, _), (2, _)]) dL_told_415 rfl rfl (by decide) rfl ?_
                        refine J_goto (tgt := 211) dL_told_418 rfl ?_
                        refine xx_J.pick [0, 6, 7, 8, 9, 10] rfl ?_
                        exact ih _ _ _ _ _ (nI_1 i) (by omega) (show tdJ G n h v0 A (i + 1) (rlX G i ++ tl 5 ++ ouX (outV G i) ++ whX (tsV G i) ++ tl 2) _ _ from hB39)
                    · have k349 : outV G i = 0 := (nI_eq (Nat.lt_trans (blw_lt (by decide)) (by decide)) (by decide)).mp (show nI (outV G i) = nI 0 from h349)
                      have hou : ouX (outV G i) = tl 6 := by unfold ouX; rw [if_pos k349]
                      refine J_ldcS 6 dL_told_352 rfl ?_
                      refine J_goto (tgt := 370) dL_told_354 rfl ?_
                      refine J_ltA (fun lt36 => ?_)
                      refine hB36.ap (sx := ouX (outV G i)) lt36 (fun v36 m36 hW36 hap36 => ?_)
                      refine J_callV (As := [_]) dL_told_370 ml_L_75 cal_J4_append_15ec4 im_J4_append_15ec4 se_J4_append_15ec4 hW36.1 rfl rfl rfl (Nat.le_of_ble_eq_true rfl) ⟨by decide, by decide⟩ ⟨by omega, by omega⟩ (c_J4_append_15ec4 (sx := ouX (outV G i)) hst hW36 (by rw [hou]; exact strT (k := 6) (by decide)) (by have h9 : (rlX G i ++ tl 5 ++ ouX (outV G i) ++ whX (tsV G i) ++ tl 2).length ≤ 163 + 163 * (i + 1) := hlx; simp only [List.length_append] at h9 ⊢; omega)) (fun _ _ _ _ hE => absurd hE.1 (fun z => nomatch z)) (fun v9 A37 n37 _ hQ => ?_)
                      obtain ⟨hn37, hB37, hK37⟩ := hap36 _ _ _ hQ
                      have e9 := hQ.1
                      cases e9
                      refine J_aloadN dL_told_373 rfl ?_
                      refine J_ifnonnullN dL_told_375 ?_
                      refine J_ldcS 9 dL_told_378 rfl ?_
                      refine J_goto (tgt := 406) dL_told_380 rfl ?_
                      refine J_ltA (fun lt37 => ?_)
                      refine hB37.ap (sx := whX (tsV G i)) lt37 (fun v37 m37 hW37 hap37 => ?_)
                      refine J_callV (As := [_]) dL_told_406 ml_L_75 cal_J4_append_15ec4 im_J4_append_15ec4 se_J4_append_15ec4 hW37.1 rfl rfl rfl (Nat.le_of_ble_eq_true rfl) ⟨by decide, by decide⟩ ⟨by omega, by omega⟩ (c_J4_append_15ec4 (sx := whX (tsV G i)) hst hW37 (by rw [htv]; exact strT (k := 9) (by decide)) (by have h9 : (rlX G i ++ tl 5 ++ ouX (outV G i) ++ whX (tsV G i) ++ tl 2).length ≤ 163 + 163 * (i + 1) := hlx; simp only [List.length_append] at h9 ⊢; omega)) (fun _ _ _ _ hE => absurd hE.1 (fun z => nomatch z)) (fun v9 A38 n38 _ hQ => ?_)
                      obtain ⟨hn38, hB38, hK38⟩ := hap37 _ _ _ hQ
                      have e9 := hQ.1
                      cases e9
                      refine J_ldcS 2 dL_told_409 rfl ?_
                      refine J_ltA (fun lt38 => ?_)
                      refine hB38.ap (sx := tl 2) lt38 (fun v38 m38 hW38 hap38 => ?_)
                      refine J_callV (As := [_]) dL_told_411 ml_L_75 cal_J4_append_15ec4 im_J4_append_15ec4 se_J4_append_15ec4 hW38.1 rfl rfl rfl (Nat.le_of_ble_eq_true rfl) ⟨by decide, by decide⟩ ⟨by omega, by omega⟩ (c_J4_append_15ec4 (sx := tl 2) hst hW38 (strT (k := 2) (by decide)) (by have h9 : (rlX G i ++ tl 5 ++ ouX (outV G i) ++ whX (tsV G i) ++ tl 2).length ≤ 163 + 163 * (i + 1) := hlx; simp only [List.length_append] at h9 ⊢; omega)) (fun _ _ _ _ hE => absurd hE.1 (fun z => nomatch z)) (fun v9 A39 n39 _ hQ => ?_)
                      obtain ⟨hn39, hB39, hK39⟩ := hap38 _ _ _ hQ
                      have e9 := hQ.1
                      cases e9
                      refine J_pop dL_told_414 rfl ?_
                      refine J_iinc (v := _ + 1) (L' := [(5, _), (10, _), (9, _), (8, _), (7, _), (6, _), (4, _), (3, _), (0, _), (1, _), (2, _)]) dL_told_415 rfl rfl (by decide) rfl ?_
                      refine J_goto (tgt := 211) dL_told_418 rfl ?_
                      refine xx_J.pick [0, 6, 7, 8, 9, 10] rfl ?_
                      exact ih _ _ _ _ _ (nI_1 i) (by omega) (show tdJ G n h v0 A (i + 1) (rlX G i ++ tl 5 ++ ouX (outV G i) ++ whX (tsV G i) ++ tl 2) _ _ from hB39)
                  · first | (exfalso; simp only [i_lt, i_le, i_eq, i_0, i_1, i_2, i_3, i_4, i_5, i_6, i_8, i_9, i_10, i_12, i_16, i_20, i_m1] at h307; omega) | (exfalso; simp only [s_up, a_up, va_up, i_lt, i_le, i_eq, i_0, i_1, i_2, i_3, i_4, i_5, i_6, i_8, i_9, i_10, i_12, i_16, i_20, i_m1, ↓reduceIte, Nat.reduceEqDiff] at h307; omega)
                · intro y hyi ihy z0 A33 g33 hz0 hg33 hs33 hz33
                  subst hz0
                  have ez : (nI y).toInt = y := i_n (by omega)
                  refine J_iload dL_told_303 rfl ?_
                  refine J_iload dL_told_305 rfl ?_
                  refine J_icmp_ge (tgt := 328) dL_told_307 rfl (fun h307 => ?_) (fun h307 => ?_)
                  · first | (exfalso; simp only [i_lt, i_le, i_eq, i_0, i_1, i_2, i_3, i_4, i_5, i_6, i_8, i_9, i_10, i_12, i_16, i_20, i_m1] at h307; omega) | (exfalso; simp only [s_up, a_up, va_up, i_lt, i_le, i_eq, i_0, i_1, i_2, i_3, i_4, i_5, i_6, i_8, i_9, i_10, i_12, i_16, i_20, i_m1, ↓reduceIte, Nat.reduceEqDiff] at h307; omega)
                  · refine J_aload dL_told_310 rfl ?_
                    refine J_iload dL_told_312 rfl ?_
                    refine J_aload_n dL_told_314 rfl rfl ?_
                    refine J_getf dL_told_315 fl_L_106 ((hz33 n (by omega)).trans ((o32 n (by omega)).trans g31)) rfl ?_
                    refine J_iload dL_told_318 rfl ?_
                    have hsm : ∃ t v, tsV G y = some t ∧ fT y = some v ∧ trA A1 4 v t ∧ trK 4 t := by
                      rcases r3 y (by omega) with ⟨z, -⟩ | z
                      · exfalso
                        unfold tsV at z
                        rw [if_neg (fun z2 => by omega)] at z
                        cases z
                      · exact z
                    obtain ⟨t9, y9, b1, b2, b3, b4⟩ := hsm
                    obtain ⟨f9, b5⟩ := trA.cell _ _ _ b3
                    have hyl := lt9 _ _ b5
                    have hyn : ¬ y9 = n := fun e => by have z := d1.1; rw [← e, b5] at z; cases z
                    refine J_aaldR y dL_told_320 (Or.inr (Or.inr (Or.inl rfl))) ((hz33 c (by omega)).trans ((o32 c (by omega)).trans ((o31 c hcn).trans ((q4 c hcl).trans r2)))) rfl (by omega) (by omega) b2 ?_
                    refine J_aastTQ y dL_told_321 hg33 rfl (by omega) (by omega) ((hz33 y9 (by omega)).trans ((o32 y9 (by omega)).trans ((o31 y9 hyn).trans ((q4 y9 hyl).trans b5)))) (fun A34 g34 o34 => ?_)
                    refine J_iinc (v := _ + 1) (L' := [(10, _), (9, _), (8, _), (7, _), (6, _), (5, _), (4, _), (3, _), (0, _), (1, _), (2, _)]) dL_told_322 rfl rfl (by decide) rfl ?_
                    refine J_goto (tgt := 303) dL_told_325 rfl ?_
                    refine xx_J.pick [0, 1, 2, 3, 4, 5, 6, 7, 8, 9, 10] rfl ?_
                    exact ihy _ A34 _ (nI_1 y) g34 (vup_pre hs33 b2) (fun z hz => (o34 z hz).trans (hz33 z hz))
              refine xx_J.pick [0, 1, 2, 3, 4, 5, 6, 7, 8, 9, 10] rfl ?_
              exact cop _ _ (by omega) 0 (Nat.zero_le _) _ A32 _ rfl g32 (fun p hp => absurd hp (Nat.not_lt_zero p)) (fun _ _ => rfl)
      · refine J_iload dL_told_211 rfl ?_
        refine J_iload dL_told_213 rfl ?_
        refine J_icmp_ge (tgt := 421) dL_told_215 rfl (fun h215 => ?_) (fun h215 => ?_)
        · first | (exfalso; simp only [i_lt, i_le, i_eq, i_0, i_1, i_2, i_3, i_4, i_5, i_6, i_8, i_9, i_10, i_12, i_16, i_20, i_m1] at h215; omega) | (exfalso; simp only [s_up, a_up, va_up, i_lt, i_le, i_eq, i_0, i_1, i_2, i_3, i_4, i_5, i_6, i_8, i_9, i_10, i_12, i_16, i_20, i_m1, ↓reduceIte, Nat.reduceEqDiff] at h215; omega)
        · refine J_aload_n dL_told_218 rfl rfl ?_
          refine J_iconst (v := 4) dL_told_219 (by decide) ?_
          refine J_iload dL_told_220 rfl ?_
          refine J_iadd dL_told_222 ?_
          rw [show (4 : Int32) + nI i = nI (4 + i) from nI_add 4 i]
          refine J_callSr (As := [_, _]) dL_told_223 ml_L_66 cal_L_cell sm_L_cell rfl rfl (Nat.le_of_ble_eq_true rfl) ⟨by decide, by decide⟩ ⟨by omega, by omega⟩ (c_L_cell hst (k := 4 + i) hL (by omega)) ?_
          refine J_iconst (v := 3) dL_told_226 (by decide) ?_
          refine J_ishr dL_told_227 ?_
          refine J_bipush (v := 17) dL_told_228 (by decide) ?_
          refine J_iload dL_told_230 rfl ?_
          refine J_imul dL_told_232 ?_
          refine J_iadd dL_told_233 ?_
          refine J_istore (L' := [(6, _), (5, _), (4, _), (3, _), (0, _), (1, _), (2, _)]) dL_told_234 (by decide) rfl ?_
          refine J_iload dL_told_236 rfl ?_
          refine J_iconst (v := 3) dL_told_238 (by decide) ?_
          refine J_callSr (As := [_, _]) dL_told_239 ml_L_35 cal_L_below sm_L_below rfl rfl (Nat.le_of_ble_eq_true rfl) ⟨by decide, by decide⟩ ⟨by omega, by omega⟩ (c_L_below hst (rxV G i) (m := 3) (by decide) (by decide)) ?_
          refine J_istore (L' := [(7, _), (6, _), (5, _), (4, _), (3, _), (0, _), (1, _), (2, _)]) dL_told_242 (by decide) rfl ?_
          refine J_iload dL_told_244 rfl ?_
          refine J_iconst (v := 1) dL_told_246 (by decide) ?_
          refine J_iadd dL_told_247 ?_
          refine J_iload dL_told_248 rfl ?_
          refine J_icmp_ne (tgt := 268) dL_told_250 rfl (fun h250 => ?_) (fun h250 => ?_)
          · refine J_iload dL_told_268 rfl ?_
            refine J_iconst (v := 3) dL_told_270 (by decide) ?_
            refine J_ishr dL_told_271 ?_
            refine J_iconst (v := 0) dL_told_272 (by decide) ?_
            refine J_ltA (fun lt8 => ?_)
            refine J_callSg (As := [_, _]) dL_told_273 ml_L_60 cal_L_test rfl sm_L_test rfl (Nat.le_of_ble_eq_true rfl) ⟨by decide, by decide⟩ ⟨by omega, by omega⟩ (test_all hst 3 A1 n1 0 (shr (rxV G i) 3) (by decide) (by decide) (by decide)) (fun v9 A2 n2 hn2 hQ => ?_) (fun _ _ _ _ hE => by obtain ⟨_, z, _⟩ := hE; exact nomatch z)
            obtain ⟨tv, e9, hv1, hv2, hT9, hf9⟩ := hQ
            cases e9
            have hT2 := hT9.un
            have hB21 := hB20.up lt8 hn2 hf9
            obtain ⟨st, wo, tls, a, c, v1, mm, d1, d2, d3, ⟨r1, fT, r2, r3⟩, d5, d6, d7, d8, d9⟩ := hB21
            refine J_ltA (fun lt9 => ?_)
            have hcn : ¬ c = n := fun e => by have z := d1.1; rw [← e, r2] at z; cases z
            have hcl := lt9 _ _ r2
            have htv : tsV G i = some (tsT 4 (shr (rxV G i) 3) 0) := by unfold tsV; rw [if_neg hts]
            obtain ⟨fc8, hTc⟩ := trA.cell _ _ _ hT2
            have hvn9 : ¬ tv = n := fun e => by have z := d1.1; rw [← e, hTc] at z; cases z
            have hLt : (txL 4 (tsT 4 (shr (rxV G i) 3) 0)).length ≤ 141 := tsL0 (f := 0) (x := shr (rxV G i) 3)
            have h10 := tl_x.2.2.2.2.2.2.2.2.2.2
            refine J_astore (L' := [(8, _), (7, _), (6, _), (5, _), (4, _), (3, _), (0, _), (1, _), (2, _)]) dL_told_276 (by decide) rfl ?_
            refine J_aload_n dL_told_278 rfl rfl ?_
            refine J_aload_n dL_told_279 rfl rfl ?_
            refine J_getf dL_told_280 fl_L_99 d1.1 rfl ?_
            refine J_iload dL_told_283 rfl ?_
            refine J_callSg (As := [_, _]) dL_told_285 ml_L_102 cal_X7_with_ rfl sm_X7_with_ rfl (Nat.le_of_ble_eq_true rfl) ⟨by decide, by decide⟩ ⟨by omega, by omega⟩ (c_X7_with_ hst r1 (by omega)) (fun v8 A8 n8 _ hQ => ?_) (fun _ _ _ _ hE => absurd hE.1 (fun z => nomatch z))
            obtain ⟨e8, hn8, ⟨g, q1, q2, q3⟩, q4⟩ := hQ
            subst n8
            cases e8
            refine J_putf dL_told_288 fp_L_99 (fun _ => ⟨rfl, rfl⟩) ((q4 n (by omega)).trans d1.1) (Nat.le_of_ble_eq_true rfl) ?_
            refine J_up (fun A31 g31 o31 => ?_)
            refine J_iload dL_told_291 rfl ?_
            refine J_iconst (v := 1) dL_told_293 (by decide) ?_
            refine J_iadd dL_told_294 ?_
            rw [nI_1]
            refine J_newT (N := i + 1) dL_told_295 cl_L_32 (nI_pos (by omega)) (nI_clamp (by omega)) (by omega) (by omega) (by omega) ?_
            refine J_up (fun A32 g32 o32 => ?_)
            refine J_astore (L' := [(9, _), (8, _), (7, _), (6, _), (5, _), (4, _), (3, _), (0, _), (1, _), (2, _)]) dL_told_298 (by decide) rfl ?_
            refine J_iconst (v := 0) dL_told_300 (by decide) ?_
            refine J_istore (L' := [(10, _), (9, _), (8, _), (7, _), (6, _), (5, _), (4, _), (3, _), (0, _), (1, _), (2, _)]) dL_told_301 (by decide) rfl ?_
            have cop : ∀ K9 J9 : Nat, (K9 ≤ k1 + 17 ∧ J9 ≤ j1 + 170) → ∀ y, y ≤ i → ∀ (z0 : Int32) (A33 : xx_H) (g33 : Nat → Option Nat), z0 = nI y → A33 (n2 + 1) = some (.inl (5, i + 1, .inr (.inr (.inr (.inr g33))))) → (∀ p, p < y → g33 p = fT p) → (∀ z, ¬ z = n2 + 1 → A33 z = A32 z) → xx_J G l mL_told 11 400 1000 1000000 (toldQ G h v0 n A) 303 [(10, .int z0), (9, .ref (n2 + 1)), (8, .ref tv), (7, .int (nI (outV G i))), (6, .int (rxV G i)), (5, .int (nI i)), (4, .int (nI (nrV G))), (3, .ref n), (0, .ref 160), (1, .int 6), (2, .ref h)] [] A33 (n2 + 1 + 1) K9 J9 := by
              intro K9 J9 hKJ
              refine xx_dn ?_ ?_
              · intro z0 A33 g33 hz0 hg33 hs33 hz33
                have ez : z0.toInt = i := by rw [hz0]; exact i_n (by omega)
                refine J_iload dL_told_303 rfl ?_
                refine J_iload dL_told_305 rfl ?_
                refine J_icmp_ge (tgt := 328) dL_told_307 rfl (fun h307 => ?_) (fun h307 => ?_)
                · refine J_aload dL_told_328 rfl ?_
                  refine J_iload dL_told_330 rfl ?_
                  refine J_aload dL_told_332 rfl ?_
                  refine J_aastTQ i dL_told_334 hg33 rfl (by omega) (by omega) ((hz33 tv (by omega)).trans ((o32 tv (by omega)).trans ((o31 tv hvn9).trans ((q4 tv hv2).trans hTc)))) (fun A34 g34 o34 => ?_)
                  refine J_aload_n dL_told_335 rfl rfl ?_
                  refine J_aload dL_told_336 rfl ?_
                  refine J_putf dL_told_338 fp_L_106 (fun _ => ⟨rfl, rfl⟩) ((o34 n (by omega)).trans ((hz33 n (by omega)).trans ((o32 n (by omega)).trans g31))) (Nat.le_of_ble_eq_true rfl) ?_
                  refine J_up (fun A35 g35 o35 => ?_)
                  have hB35 : tdJ G n h v0 A (i + 1) (rlX G i) (n2 + 1 + 1) A35 := rul_st hhn hv0n d1 d2 d3 r3 d5 d6 d7 d8 d9 lt9 ((o34 n (by omega)).trans ((hz33 n (by omega)).trans ((o32 n (by omega)).trans g31))) ((o34 n2 (by omega)).trans ((hz33 n2 (by omega)).trans ((o32 n2 (by omega)).trans ((o31 n2 (by omega)).trans q1)))) q2 q3 g34 (fun p hp => (va_up_ne _ _ (by omega)).trans (hs33 p hp)) (Or.inr ⟨_, tv, htv, va_up_self _ _ _, hT2, tsT_K _ _ _⟩) (fun z hz hzn => (o34 z (by omega)).trans ((hz33 z (by omega)).trans ((o32 z (by omega)).trans ((o31 z hzn).trans (q4 z hz))))) g35 o35
                  have hT35 : trA A35 4 tv (tsT 4 (shr (rxV G i) 3) 0) := hT2.up _ _ _ (fun z c hz => by
                    have hzl := lt9 _ _ hz
                    have hzn : ¬ z = n := fun e => by have y := d1.1; rw [← e, hz] at y; cases y
                    exact (o35 z hzn).trans ((o34 z (by omega)).trans ((hz33 z (by omega)).trans ((o32 z (by omega)).trans ((o31 z hzn).trans (q4 z hzl))))))
                  refine J_aload_n dL_told_341 rfl rfl ?_
                  refine J_ldcS 5 dL_told_342 rfl ?_
                  refine J_ltA (fun lt35 => ?_)
                  refine hB35.ap (sx := tl 5) lt35 (fun v35 m35 hW35 hap35 => ?_)
                  refine J_callV (As := [_]) dL_told_344 ml_L_75 cal_J4_append_15ec4 im_J4_append_15ec4 se_J4_append_15ec4 hW35.1 rfl rfl rfl (Nat.le_of_ble_eq_true rfl) ⟨by decide, by decide⟩ ⟨by omega, by omega⟩ (c_J4_append_15ec4 (sx := tl 5) hst hW35 (strT (k := 5) (by decide)) (by have h9 : (rlX G i ++ tl 5 ++ ouX (outV G i) ++ whX (tsV G i) ++ tl 2).length ≤ 163 + 163 * (i + 1) := hlx; simp only [List.length_append] at h9 ⊢; omega)) (fun _ _ _ _ hE => absurd hE.1 (fun z => nomatch z)) (fun v9 A36 n36 _ hQ => ?_)
                  obtain ⟨hn36, hB36, hK36⟩ := hap35 _ _ _ hQ
                  have e9 := hQ.1
                  cases e9
                  have hT36 := hT35.keep hK36
                  refine J_iload dL_told_347 rfl ?_
                  refine J_if_ne (tgt := 357) dL_told_349 rfl (fun h349 => ?_) (fun h349 => ?_)
                  · have k349 : ¬ outV G i = 0 := fun z => h349 (by rw [z]; rfl)
                    refine J_iload dL_told_357 rfl ?_
                    refine J_iconst (v := 1) dL_told_359 (by decide) ?_
                    refine J_icmp_ne (tgt := 368) dL_told_360 rfl (fun h360 => ?_) (fun h360 => ?_)
                    · have k360 : ¬ outV G i = 1 := fun z => h360 (by rw [z]; rfl)
                      have hou : ouX (outV G i) = tl 8 := by unfold ouX; rw [if_neg k349, if_neg k360]
                      refine J_ldcS 8 dL_told_368 rfl ?_
                      refine J_ltA (fun lt36 => ?_)
                      refine hB36.ap (sx := ouX (outV G i)) lt36 (fun v36 m36 hW36 hap36 => ?_)
                      refine J_callV (As := [_]) dL_told_370 ml_L_75 cal_J4_append_15ec4 im_J4_append_15ec4 se_J4_append_15ec4 hW36.1 rfl rfl rfl (Nat.le_of_ble_eq_true rfl) ⟨by decide, by decide⟩ ⟨by omega, by omega⟩ (c_J4_append_15ec4 (sx := ouX (outV G i)) hst hW36 (by rw [hou]; exact strT (k := 8) (by decide)) (by have h9 : (rlX G i ++ tl 5 ++ ouX (outV G i) ++ whX (tsV G i) ++ tl 2).length ≤ 163 + 163 * (i + 1) := hlx; simp only [List.length_append] at h9 ⊢; omega)) (fun _ _ _ _ hE => absurd hE.1 (fun z => nomatch z)) (fun v9 A37 n37 _ hQ => ?_)
                      obtain ⟨hn37, hB37, hK37⟩ := hap36 _ _ _ hQ
                      have e9 := hQ.1
                      cases e9
                      have hT37 := hT36.keep hK37
                      refine J_aload dL_told_373 rfl ?_
                      refine J_ifnonnull (tgt := 383) dL_told_375 rfl ?_
                      refine J_ltA (fun lt50 => ?_)
                      refine J_new (fs := [.null, .int 0, .int 0, .int 0]) dL_told_383 k_9 cl_L_76 ins_java_lang_StringBuilder in_java_lang_StringBuilder (fun q hq => by rcases (show q = 0 ∨ q = 1 ∨ q = 2 ∨ q = 3 by omega) with rfl | rfl | rfl | rfl <;> rfl) (fun v hv q h => by subst h; simp at hv) (by omega) (by omega) ?_
                      refine J_up (fun A50 g50 o50 => ?_)
                      refine J_dup dL_told_386 rfl ?_
                      refine J_callI (As := []) dL_told_387 (Or.inl ml_L_120) cal_J4_init_da8c8 rfl rfl rfl im_J4_init_da8c8 rfl (Nat.le_of_ble_eq_true rfl) ⟨by decide, by decide⟩ ⟨by omega, by omega⟩ (c_J4_init_da8c8 hst g50) (fun v9 A51 n51 _ hQ => ?_)
                      obtain ⟨e9, hn51, hW51, hg51⟩ := hQ
                      cases e9
                      have hf51 : ∀ z, z < n37 → A51 z = A37 z := fun z hz => (hg51 z (by omega) (by omega)).trans (o50 z (by omega))
                      refine J_ldcS 10 dL_told_390 rfl ?_
                      refine J_callV (As := [_]) dL_told_392 ml_L_75 cal_J4_append_15ec4 im_J4_append_15ec4 se_J4_append_15ec4 hW51.1 rfl rfl rfl (Nat.le_of_ble_eq_true rfl) ⟨by decide, by decide⟩ ⟨by omega, by omega⟩ (c_J4_append_15ec4 hst hW51 (strT (k := 10) (by decide)) (by simp only [List.length_append, List.length_nil]; omega)) (fun _ _ _ _ hE => absurd hE.1 (fun z => nomatch z)) (fun v9 A52 n52 _ hQ => ?_)
                      obtain ⟨e9, hn52, hN52, v52, m52, hW52, hu52, hg52⟩ := hQ
                      cases e9
                      have hv52 : n37 < v52 ∧ v52 < n52 := by omega
                      have hf52 : ∀ z, z < n37 → A52 z = A37 z := fun z hz => (hg52 z (by omega) (by omega) (by omega)).trans (hf51 z hz)
                      refine J_aload dL_told_395 rfl ?_
                      have hT52 := hT37.keep (kpF.up lt50 hf52)
                      obtain ⟨fc9, hc9⟩ := trA.cell _ _ _ hT52
                      refine J_callV (As := []) dL_told_397 ml_L_123 cal_X8_text im_X8_text se_X8_text hc9 rfl rfl rfl (Nat.le_of_ble_eq_true rfl) ⟨by decide, by decide⟩ ⟨by omega, by omega⟩ (text_all hst 4 A52 n52 tv _ hT52 (tsT_K _ _ _) (by omega)) (fun _ _ _ _ hE => by obtain ⟨_, z, _⟩ := hE; exact nomatch z) (fun v9 A53 n53 hn53 hQ => ?_)
                      obtain ⟨w53, e9, hs53, hg53⟩ := hQ
                      cases e9
                      have hW53 := hW52.up (hg53 _ (by omega)) (hg53 _ hv52.2)
                      have hf53 : ∀ z, z < n37 → A53 z = A37 z := fun z hz => (hg53 z (by omega)).trans (hf52 z hz)
                      refine J_callV (As := [_]) dL_told_400 ml_L_75 cal_J4_append_15ec4 im_J4_append_15ec4 se_J4_append_15ec4 hW53.1 rfl rfl rfl (Nat.le_of_ble_eq_true rfl) ⟨by decide, by decide⟩ ⟨by omega, by omega⟩ (c_J4_append_15ec4 hst hW53 hs53 (by simp only [List.length_append, List.length_nil]; omega)) (fun _ _ _ _ hE => absurd hE.1 (fun z => nomatch z)) (fun v9 A54 n54 _ hQ => ?_)
                      obtain ⟨e9, hn54, hN54, v54, m54, hW54, hu54, hg54⟩ := hQ
                      cases e9
                      have hf54 : ∀ z, z < n37 → A54 z = A37 z := fun z hz => (hg54 z (by omega) (by omega) (by omega)).trans (hf53 z hz)
                      refine J_callV (As := []) dL_told_403 ml_L_127 cal_J4_toString_0e30d im_J4_toString_0e30d se_J4_toString_0e30d hW54.1 rfl rfl rfl (Nat.le_of_ble_eq_true rfl) ⟨by decide, by decide⟩ ⟨by omega, by omega⟩ (c_J4_toString_0e30d hst hW54 (by simp only [List.length_append, List.length_nil]; omega)) (fun _ _ _ _ hE => absurd hE.1 (fun z => nomatch z)) (fun v9 A55 n55 _ hQ => ?_)
                      obtain ⟨e9, hn55, hT9, ⟨g9, hB9, hh9, hf9_⟩, hg55⟩ := hQ
                      cases e9
                      have hs55 : strV A55 n54 (whX (some (tsT 4 (shr (rxV G i) 3) 0))) := Or.inr ⟨_, g9, hT9, hB9, hh9, hf9_⟩
                      have hf55 : ∀ z, z < n37 → A55 z = A37 z := fun z hz => (hg55 z (by omega)).trans (hf54 z hz)
                      have hB55 := hB37.up lt50 (show n37 ≤ n55 by omega) hf55
                      have hT55 := hT37.keep (kpF.up lt50 hf55)
                      refine J_ltA (fun lt55 => ?_)
                      refine hB55.ap (sx := whX (tsV G i)) lt55 (fun v55 m55 hW55 hap55 => ?_)
                      refine J_callV (As := [_]) dL_told_406 ml_L_75 cal_J4_append_15ec4 im_J4_append_15ec4 se_J4_append_15ec4 hW55.1 rfl rfl rfl (Nat.le_of_ble_eq_true rfl) ⟨by decide, by decide⟩ ⟨by omega, by omega⟩ (c_J4_append_15ec4 (sx := whX (tsV G i)) hst hW55 (by rw [htv]; exact hs55) (by have h9 : (rlX G i ++ tl 5 ++ ouX (outV G i) ++ whX (tsV G i) ++ tl 2).length ≤ 163 + 163 * (i + 1) := hlx; simp only [List.length_append] at h9 ⊢; omega)) (fun _ _ _ _ hE => absurd hE.1 (fun z => nomatch z)) (fun v9 A56 n56 _ hQ => ?_)
                      obtain ⟨hn56, hB56, hK56⟩ := hap55 _ _ _ hQ
                      have e9 := hQ.1
                      cases e9
                      have hT56 := hT55.keep hK56
                      refine J_ldcS 2 dL_told_409 rfl ?_
                      refine J_ltA (fun lt56 => ?_)
                      refine hB56.ap (sx := tl 2) lt56 (fun v56 m56 hW56 hap56 => ?_)
                      refine J_callV (As := [_]) dL_told_411 ml_L_75 cal_J4_append_15ec4 im_J4_append_15ec4 se_J4_append_15ec4 hW56.1 rfl rfl rfl (Nat.le_of_ble_eq_true rfl) ⟨by decide, by decide⟩ ⟨by omega, by omega⟩ (c_J4_append_15ec4 (sx := tl 2) hst hW56 (strT (k := 2) (by decide)) (by have h9 : (rlX G i ++ tl 5 ++ ouX (outV G i) ++ whX (tsV G i) ++ tl 2).length ≤ 163 + 163 * (i + 1) := hlx; simp only [List.length_append] at h9 ⊢; omega)) (fun _ _ _ _ hE => absurd hE.1 (fun z => nomatch z)) (fun v9 A57 n57 _ hQ => ?_)
                      obtain ⟨hn57, hB57, hK57⟩ := hap56 _ _ _ hQ
                      have e9 := hQ.1
                      cases e9
                      have hT57 := hT56.keep hK57
                      refine J_pop dL_told_414 rfl ?_
                      refine J_iinc (v := _ + 1) (L' := [(5, _), (10, _), (9, _), (8, _), (7, _), (6, _), (4, _), (3, _), (0, _), (1, _), (2, _)]) dL_told_415 rfl rfl (by decide) rfl ?_
                      refine J_goto (tgt := 211) dL_told_418 rfl ?_
                      refine xx_J.pick [0, 6, 7, 8, 9, 10] rfl ?_
                      exact ih _ _ _ _ _ (nI_1 i) (by omega) (show tdJ G n h v0 A (i + 1) (rlX G i ++ tl 5 ++ ouX (outV G i) ++ whX (tsV G i) ++ tl 2) _ _ from hB57)
                    · have k360 : outV G i = 1 := (nI_eq (Nat.lt_trans (blw_lt (by decide)) (by decide)) (by decide)).mp (show nI (outV G i) = nI 1 from h360)
                      have hou : ouX (outV G i) = tl 7 := by unfold ouX; rw [if_neg k349, if_pos k360]
                      refine J_ldcS 7 dL_told_363 rfl ?_
                      refine J_goto (tgt := 370) dL_told_365 rfl ?_
                      refine J_ltA (fun lt36 => ?_)
                      refine hB36.ap (sx := ouX (outV G i)) lt36 (fun v36 m36 hW36 hap36 => ?_)
                      refine J_callV (As := [_]) dL_told_370 ml_L_75 cal_J4_append_15ec4 im_J4_append_15ec4 se_J4_append_15ec4 hW36.1 rfl rfl rfl (Nat.le_of_ble_eq_true rfl) ⟨by decide, by decide⟩ ⟨by omega, by omega⟩ (c_J4_append_15ec4 (sx := ouX (outV G i)) hst hW36 (by rw [hou]; exact strT (k := 7) (by decide)) (by have h9 : (rlX G i ++ tl 5 ++ ouX (outV G i) ++ whX (tsV G i) ++ tl 2).length ≤ 163 + 163 * (i + 1) := hlx; simp only [List.length_append] at h9 ⊢; omega)) (fun _ _ _ _ hE => absurd hE.1 (fun z => nomatch z)) (fun v9 A37 n37 _ hQ => ?_)
                      obtain ⟨hn37, hB37, hK37⟩ := hap36 _ _ _ hQ
                      have e9 := hQ.1
                      cases e9
                      have hT37 := hT36.keep hK37
                      refine J_aload dL_told_373 rfl ?_
                      refine J_ifnonnull (tgt := 383) dL_told_375 rfl ?_
                      refine J_ltA (fun lt50 => ?_)
                      refine J_new (fs := [.null, .int 0, .int 0, .int 0]) dL_told_383 k_9 cl_L_76 ins_java_lang_StringBuilder in_java_lang_StringBuilder (fun q hq => by rcases (show q = 0 ∨ q = 1 ∨ q = 2 ∨ q = 3 by omega) with rfl | rfl | rfl | rfl <;> rfl) (fun v hv q h => by subst h; simp at hv) (by omega) (by omega) ?_
                      refine J_up (fun A50 g50 o50 => ?_)
                      refine J_dup dL_told_386 rfl ?_
                      refine J_callI (As := []) dL_told_387 (Or.inl ml_L_120) cal_J4_init_da8c8 rfl rfl rfl im_J4_init_da8c8 rfl (Nat.le_of_ble_eq_true rfl) ⟨by decide, by decide⟩ ⟨by omega, by omega⟩ (c_J4_init_da8c8 hst g50) (fun v9 A51 n51 _ hQ => ?_)
                      obtain ⟨e9, hn51, hW51, hg51⟩ := hQ
                      cases e9
                      have hf51 : ∀ z, z < n37 → A51 z = A37 z := fun z hz => (hg51 z (by omega) (by omega)).trans (o50 z (by omega))
                      refine J_ldcS 10 dL_told_390 rfl ?_
                      refine J_callV (As := [_]) dL_told_392 ml_L_75 cal_J4_append_15ec4 im_J4_append_15ec4 se_J4_append_15ec4 hW51.1 rfl rfl rfl (Nat.le_of_ble_eq_true rfl) ⟨by decide, by decide⟩ ⟨by omega, by omega⟩ (c_J4_append_15ec4 hst hW51 (strT (k := 10) (by decide)) (by simp only [List.length_append, List.length_nil]; omega)) (fun _ _ _ _ hE => absurd hE.1 (fun z => nomatch z)) (fun v9 A52 n52 _ hQ => ?_)
                      obtain ⟨e9, hn52, hN52, v52, m52, hW52, hu52, hg52⟩ := hQ
                      cases e9
                      have hv52 : n37 < v52 ∧ v52 < n52 := by omega
                      have hf52 : ∀ z, z < n37 → A52 z = A37 z := fun z hz => (hg52 z (by omega) (by omega) (by omega)).trans (hf51 z hz)
                      refine J_aload dL_told_395 rfl ?_
                      have hT52 := hT37.keep (kpF.up lt50 hf52)
                      obtain ⟨fc9, hc9⟩ := trA.cell _ _ _ hT52
                      refine J_callV (As := []) dL_told_397 ml_L_123 cal_X8_text im_X8_text se_X8_text hc9 rfl rfl rfl (Nat.le_of_ble_eq_true rfl) ⟨by decide, by decide⟩ ⟨by omega, by omega⟩ (text_all hst 4 A52 n52 tv _ hT52 (tsT_K _ _ _) (by omega)) (fun _ _ _ _ hE => by obtain ⟨_, z, _⟩ := hE; exact nomatch z) (fun v9 A53 n53 hn53 hQ => ?_)
                      obtain ⟨w53, e9, hs53, hg53⟩ := hQ
                      cases e9
                      have hW53 := hW52.up (hg53 _ (by omega)) (hg53 _ hv52.2)
                      have hf53 : ∀ z, z < n37 → A53 z = A37 z := fun z hz => (hg53 z (by omega)).trans (hf52 z hz)
                      refine J_callV (As := [_]) dL_told_400 ml_L_75 cal_J4_append_15ec4 im_J4_append_15ec4 se_J4_append_15ec4 hW53.1 rfl rfl rfl (Nat.le_of_ble_eq_true rfl) ⟨by decide, by decide⟩ ⟨by omega, by omega⟩ (c_J4_append_15ec4 hst hW53 hs53 (by simp only [List.length_append, List.length_nil]; omega)) (fun _ _ _ _ hE => absurd hE.1 (fun z => nomatch z)) (fun v9 A54 n54 _ hQ => ?_)
                      obtain ⟨e9, hn54, hN54, v54, m54, hW54, hu54, hg54⟩ := hQ
                      cases e9
                      have hf54 : ∀ z, z < n37 → A54 z = A37 z := fun z hz => (hg54 z (by omega) (by omega) (by omega)).trans (hf53 z hz)
                      refine J_callV (As := []) dL_told_403 ml_L_127 cal_J4_toString_0e30d im_J4_toString_0e30d se_J4_toString_0e30d hW54.1 rfl rfl rfl (Nat.le_of_ble_eq_true rfl) ⟨by decide, by decide⟩ ⟨by omega, by omega⟩ (c_J4_toString_0e30d hst hW54 (by simp only [List.length_append, List.length_nil]; omega)) (fun _ _ _ _ hE => absurd hE.1 (fun z => nomatch z)) (fun v9 A55 n55 _ hQ => ?_)
                      obtain ⟨e9, hn55, hT9, ⟨g9, hB9, hh9, hf9_⟩, hg55⟩ := hQ
                      cases e9
                      have hs55 : strV A55 n54 (whX (some (tsT 4 (shr (rxV G i) 3) 0))) := Or.inr ⟨_, g9, hT9, hB9, hh9, hf9_⟩
                      have hf55 : ∀ z, z < n37 → A55 z = A37 z := fun z hz => (hg55 z (by omega)).trans (hf54 z hz)
                      have hB55 := hB37.up lt50 (show n37 ≤ n55 by omega) hf55
                      have hT55 := hT37.keep (kpF.up lt50 hf55)
                      refine J_ltA (fun lt55 => ?_)
                      refine hB55.ap (sx := whX (tsV G i)) lt55 (fun v55 m55 hW55 hap55 => ?_)
                      refine J_callV (As := [_]) dL_told_406 ml_L_75 cal_J4_append_15ec4 im_J4_append_15ec4 se_J4_append_15ec4 hW55.1 rfl rfl rfl (Nat.le_of_ble_eq_true rfl) ⟨by decide, by decide⟩ ⟨by omega, by omega⟩ (c_J4_append_15ec4 (sx := whX (tsV G i)) hst hW55 (by rw [htv]; exact hs55) (by have h9 : (rlX G i ++ tl 5 ++ ouX (outV G i) ++ whX (tsV G i) ++ tl 2).length ≤ 163 + 163 * (i + 1) := hlx; simp only [List.length_append] at h9 ⊢; omega)) (fun _ _ _ _ hE => absurd hE.1 (fun z => nomatch z)) (fun v9 A56 n56 _ hQ => ?_)
                      obtain ⟨hn56, hB56, hK56⟩ := hap55 _ _ _ hQ
                      have e9 := hQ.1
                      cases e9
                      have hT56 := hT55.keep hK56
                      refine J_ldcS 2 dL_told_409 rfl ?_
                      refine J_ltA (fun lt56 => ?_)
                      refine hB56.ap (sx := tl 2) lt56 (fun v56 m56 hW56 hap56 => ?_)
                      refine J_callV (As := [_]) dL_told_411 ml_L_75 cal_J4_append_15ec4 im_J4_append_15ec4 se_J4_append_15ec4 hW56.1 rfl rfl rfl (Nat.le_of_ble_eq_true rfl) ⟨by decide, by decide⟩ ⟨by omega, by omega⟩ (c_J4_append_15ec4 (sx := tl 2) hst hW56 (strT (k := 2) (by decide)) (by have h9 : (rlX G i ++ tl 5 ++ ouX (outV G i) ++ whX (tsV G i) ++ tl 2).length ≤ 163 + 163 * (i + 1) := hlx; simp only [List.length_append] at h9 ⊢; omega)) (fun _ _ _ _ hE => absurd hE.1 (fun z => nomatch z)) (fun v9 A57 n57 _ hQ => ?_)
                      obtain ⟨hn57, hB57, hK57⟩ := hap56 _ _ _ hQ
                      have e9 := hQ.1
                      cases e9
                      have hT57 := hT56.keep hK57
                      refine J_pop dL_told_414 rfl ?_
                      refine J_iinc (v := _ + 1) (L' := [(5, _), (10, _), (9, _), (8, _), (7, _), (6, _), (4, _), (3, _), (0, _), (1, _), (2, _)]) dL_told_415 rfl rfl (by decide) rfl ?_
                      refine J_goto (tgt := 211) dL_told_418 rfl ?_
                      refine xx_J.pick [0, 6, 7, 8, 9, 10] rfl ?_
                      exact ih _ _ _ _ _ (nI_1 i) (by omega) (show tdJ G n h v0 A (i + 1) (rlX G i ++ tl 5 ++ ouX (outV G i) ++ whX (tsV G i) ++ tl 2) _ _ from hB57)
                  · have k349 : outV G i = 0 := (nI_eq (Nat.lt_trans (blw_lt (by decide)) (by decide)) (by decide)).mp (show nI (outV G i) = nI 0 from h349)
                    have hou : ouX (outV G i) = tl 6 := by unfold ouX; rw [if_pos k349]
                    refine J_ldcS 6 dL_told_352 rfl ?_
                    refine J_goto (tgt := 370) dL_told_354 rfl ?_
                    refine J_ltA (fun lt36 => ?_)
                    refine hB36.ap (sx := ouX (outV G i)) lt36 (fun v36 m36 hW36 hap36 => ?_)
                    refine J_callV (As := [_]) dL_told_370 ml_L_75 cal_J4_append_15ec4 im_J4_append_15ec4 se_J4_append_15ec4 hW36.1 rfl rfl rfl (Nat.le_of_ble_eq_true rfl) ⟨by decide, by decide⟩ ⟨by omega, by omega⟩ (c_J4_append_15ec4 (sx := ouX (outV G i)) hst hW36 (by rw [hou]; exact strT (k := 6) (by decide)) (by have h9 : (rlX G i ++ tl 5 ++ ouX (outV G i) ++ whX (tsV G i) ++ tl 2).length ≤ 163 + 163 * (i + 1) := hlx; simp only [List.length_append] at h9 ⊢; omega)) (fun _ _ _ _ hE => absurd hE.1 (fun z => nomatch z)) (fun v9 A37 n37 _ hQ => ?_)
                    obtain ⟨hn37, hB37, hK37⟩ := hap36 _ _ _ hQ
                    have e9 := hQ.1
                    cases e9
                    have hT37 := hT36.keep hK37
                    refine J_aload dL_told_373 rfl ?_
                    refine J_ifnonnull (tgt := 383) dL_told_375 rfl ?_
                    refine J_ltA (fun lt50 => ?_)
                    refine J_new (fs := [.null, .int 0, .int 0, .int 0]) dL_told_383 k_9 cl_L_76 ins_java_lang_StringBuilder in_java_lang_StringBuilder (fun q hq => by rcases (show q = 0 ∨ q = 1 ∨ q = 2 ∨ q = 3 by omega) with rfl | rfl | rfl | rfl <;> rfl) (fun v hv q h => by subst h; simp at hv) (by omega) (by omega) ?_
                    refine J_up (fun A50 g50 o50 => ?_)
                    refine J_dup dL_told_386 rfl ?_
                    refine J_callI (As := []) dL_told_387 (Or.inl ml_L_120) cal_J4_init_da8c8 rfl rfl rfl im_J4_init_da8c8 rfl (Nat.le_of_ble_eq_true rfl) ⟨by decide, by decide⟩ ⟨by omega, by omega⟩ (c_J4_init_da8c8 hst g50) (fun v9 A51 n51 _ hQ => ?_)
                    obtain ⟨e9, hn51, hW51, hg51⟩ := hQ
                    cases e9
                    have hf51 : ∀ z, z < n37 → A51 z = A37 z := fun z hz => (hg51 z (by omega) (by omega)).trans (o50 z (by omega))
                    refine J_ldcS 10 dL_told_390 rfl ?_
                    refine J_callV (As := [_]) dL_told_392 ml_L_75 cal_J4_append_15ec4 im_J4_append_15ec4 se_J4_append_15ec4 hW51.1 rfl rfl rfl (Nat.le_of_ble_eq_true rfl) ⟨by decide, by decide⟩ ⟨by omega, by omega⟩ (c_J4_append_15ec4 hst hW51 (strT (k := 10) (by decide)) (by simp only [List.length_append, List.length_nil]; omega)) (fun _ _ _ _ hE => absurd hE.1 (fun z => nomatch z)) (fun v9 A52 n52 _ hQ => ?_)
                    obtain ⟨e9, hn52, hN52, v52, m52, hW52, hu52, hg52⟩ := hQ
                    cases e9
                    have hv52 : n37 < v52 ∧ v52 < n52 := by omega
                    have hf52 : ∀ z, z < n37 → A52 z = A37 z := fun z hz => (hg52 z (by omega) (by omega) (by omega)).trans (hf51 z hz)
                    refine J_aload dL_told_395 rfl ?_
                    have hT52 := hT37.keep (kpF.up lt50 hf52)
                    obtain ⟨fc9, hc9⟩ := trA.cell _ _ _ hT52
                    refine J_callV (As := []) dL_told_397 ml_L_123 cal_X8_text im_X8_text se_X8_text hc9 rfl rfl rfl (Nat.le_of_ble_eq_true rfl) ⟨by decide, by decide⟩ ⟨by omega, by omega⟩ (text_all hst 4 A52 n52 tv _ hT52 (tsT_K _ _ _) (by omega)) (fun _ _ _ _ hE => by obtain ⟨_, z, _⟩ := hE; exact nomatch z) (fun v9 A53 n53 hn53 hQ => ?_)
                    obtain ⟨w53, e9, hs53, hg53⟩ := hQ
                    cases e9
                    have hW53 := hW52.up (hg53 _ (by omega)) (hg53 _ hv52.2)
                    have hf53 : ∀ z, z < n37 → A53 z = A37 z := fun z hz => (hg53 z (by omega)).trans (hf52 z hz)
                    refine J_callV (As := [_]) dL_told_400 ml_L_75 cal_J4_append_15ec4 im_J4_append_15ec4 se_J4_append_15ec4 hW53.1 rfl rfl rfl (Nat.le_of_ble_eq_true rfl) ⟨by decide, by decide⟩ ⟨by omega, by omega⟩ (c_J4_append_15ec4 hst hW53 hs53 (by simp only [List.length_append, List.length_nil]; omega)) (fun _ _ _ _ hE => absurd hE.1 (fun z => nomatch z)) (fun v9 A54 n54 _ hQ => ?_)
                    obtain ⟨e9, hn54, hN54, v54, m54, hW54, hu54, hg54⟩ := hQ
                    cases e9
                    have hf54 : ∀ z, z < n37 → A54 z = A37 z := fun z hz => (hg54 z (by omega) (by omega) (by omega)).trans (hf53 z hz)
                    refine J_callV (As := []) dL_told_403 ml_L_127 cal_J4_toString_0e30d im_J4_toString_0e30d se_J4_toString_0e30d hW54.1 rfl rfl rfl (Nat.le_of_ble_eq_true rfl) ⟨by decide, by decide⟩ ⟨by omega, by omega⟩ (c_J4_toString_0e30d hst hW54 (by simp only [List.length_append, List.length_nil]; omega)) (fun _ _ _ _ hE => absurd hE.1 (fun z => nomatch z)) (fun v9 A55 n55 _ hQ => ?_)
                    obtain ⟨e9, hn55, hT9, ⟨g9, hB9, hh9, hf9_⟩, hg55⟩ := hQ
                    cases e9
                    have hs55 : strV A55 n54 (whX (some (tsT 4 (shr (rxV G i) 3) 0))) := Or.inr ⟨_, g9, hT9, hB9, hh9, hf9_⟩
                    have hf55 : ∀ z, z < n37 → A55 z = A37 z := fun z hz => (hg55 z (by omega)).trans (hf54 z hz)
                    have hB55 := hB37.up lt50 (show n37 ≤ n55 by omega) hf55
                    have hT55 := hT37.keep (kpF.up lt50 hf55)
                    refine J_ltA (fun lt55 => ?_)
                    refine hB55.ap (sx := whX (tsV G i)) lt55 (fun v55 m55 hW55 hap55 => ?_)
                    refine J_callV (As := [_]) dL_told_406 ml_L_75 cal_J4_append_15ec4 im_J4_append_15ec4 se_J4_append_15ec4 hW55.1 rfl rfl rfl (Nat.le_of_ble_eq_true rfl) ⟨by decide, by decide⟩ ⟨by omega, by omega⟩ (c_J4_append_15ec4 (sx := whX (tsV G i)) hst hW55 (by rw [htv]; exact hs55) (by have h9 : (rlX G i ++ tl 5 ++ ouX (outV G i) ++ whX (tsV G i) ++ tl 2).length ≤ 163 + 163 * (i + 1) := hlx; simp only [List.length_append] at h9 ⊢; omega)) (fun _ _ _ _ hE => absurd hE.1 (fun z => nomatch z)) (fun v9 A56 n56 _ hQ => ?_)
                    obtain ⟨hn56, hB56, hK56⟩ := hap55 _ _ _ hQ
                    have e9 := hQ.1
                    cases e9
                    have hT56 := hT55.keep hK56
                    refine J_ldcS 2 dL_told_409 rfl ?_
                    refine J_ltA (fun lt56 => ?_)
                    refine hB56.ap (sx := tl 2) lt56 (fun v56 m56 hW56 hap56 => ?_)
                    refine J_callV (As := [_]) dL_told_411 ml_L_75 cal_J4_append_15ec4 im_J4_append_15ec4 se_J4_append_15ec4 hW56.1 rfl rfl rfl (Nat.le_of_ble_eq_true rfl) ⟨by decide, by decide⟩ ⟨by omega, by omega⟩ (c_J4_append_15ec4 (sx := tl 2) hst hW56 (strT (k := 2) (by decide)) (by have h9 : (rlX G i ++ tl 5 ++ ouX (outV G i) ++ whX (tsV G i) ++ tl 2).length ≤ 163 + 163 * (i + 1) := hlx; simp only [List.length_append] at h9 ⊢; omega)) (fun _ _ _ _ hE => absurd hE.1 (fun z => nomatch z)) (fun v9 A57 n57 _ hQ => ?_)
                    obtain ⟨hn57, hB57, hK57⟩ := hap56 _ _ _ hQ
                    have e9 := hQ.1
                    cases e9
                    have hT57 := hT56.keep hK57
                    refine J_pop dL_told_414 rfl ?_
                    refine J_iinc (v := _ + 1) (L' := [(5, _), (10, _), (9, _), (8, _), (7, _), (6, _), (4, _), (3, _), (0, _), (1, _), (2, _)]) dL_told_415 rfl rfl (by decide) rfl ?_
                    refine J_goto (tgt := 211) dL_told_418 rfl ?_
                    refine xx_J.pick [0, 6, 7, 8, 9, 10] rfl ?_
                    exact ih _ _ _ _ _ (nI_1 i) (by omega) (show tdJ G n h v0 A (i + 1) (rlX G i ++ tl 5 ++ ouX (outV G i) ++ whX (tsV G i) ++ tl 2) _ _ from hB57)
                · first | (exfalso; simp only [i_lt, i_le, i_eq, i_0, i_1, i_2, i_3, i_4, i_5, i_6, i_8, i_9, i_10, i_12, i_16, i_20, i_m1] at h307; omega) | (exfalso; simp only [s_up, a_up, va_up, i_lt, i_le, i_eq, i_0, i_1, i_2, i_3, i_4, i_5, i_6, i_8, i_9, i_10, i_12, i_16, i_20, i_m1, ↓reduceIte, Nat.reduceEqDiff] at h307; omega)
              · intro y hyi ihy z0 A33 g33 hz0 hg33 hs33 hz33
                subst hz0
                have ez : (nI y).toInt = y := i_n (by omega)
                refine J_iload dL_told_303 rfl ?_
                refine J_iload dL_told_305 rfl ?_
                refine J_icmp_ge (tgt := 328) dL_told_307 rfl (fun h307 => ?_) (fun h307 => ?_)
                · first | (exfalso; simp only [i_lt, i_le, i_eq, i_0, i_1, i_2, i_3, i_4, i_5, i_6, i_8, i_9, i_10, i_12, i_16, i_20, i_m1] at h307; omega) | (exfalso; simp only [s_up, a_up, va_up, i_lt, i_le, i_eq, i_0, i_1, i_2, i_3, i_4, i_5, i_6, i_8, i_9, i_10, i_12, i_16, i_20, i_m1, ↓reduceIte, Nat.reduceEqDiff] at h307; omega)
                · refine J_aload dL_told_310 rfl ?_
                  refine J_iload dL_told_312 rfl ?_
                  refine J_aload_n dL_told_314 rfl rfl ?_
                  refine J_getf dL_told_315 fl_L_106 ((hz33 n (by omega)).trans ((o32 n (by omega)).trans g31)) rfl ?_
                  refine J_iload dL_told_318 rfl ?_
                  have hsm : ∃ t v, tsV G y = some t ∧ fT y = some v ∧ trA A2 4 v t ∧ trK 4 t := by
                    rcases r3 y (by omega) with ⟨z, -⟩ | z
                    · exfalso
                      unfold tsV at z
                      rw [if_neg (fun z2 => by omega)] at z
                      cases z
                    · exact z
                  obtain ⟨t9, y9, b1, b2, b3, b4⟩ := hsm
                  obtain ⟨f9, b5⟩ := trA.cell _ _ _ b3
                  have hyl := lt9 _ _ b5
                  have hyn : ¬ y9 = n := fun e => by have z := d1.1; rw [← e, b5] at z; cases z
                  refine J_aaldR y dL_told_320 (Or.inr (Or.inr (Or.inl rfl))) ((hz33 c (by omega)).trans ((o32 c (by omega)).trans ((o31 c hcn).trans ((q4 c hcl).trans r2)))) rfl (by omega) (by omega) b2 ?_
                  refine J_aastTQ y dL_told_321 hg33 rfl (by omega) (by omega) ((hz33 y9 (by omega)).trans ((o32 y9 (by omega)).trans ((o31 y9 hyn).trans ((q4 y9 hyl).trans b5)))) (fun A34 g34 o34 => ?_)
                  refine J_iinc (v := _ + 1) (L' := [(10, _), (9, _), (8, _), (7, _), (6, _), (5, _), (4, _), (3, _), (0, _), (1, _), (2, _)]) dL_told_322 rfl rfl (by decide) rfl ?_
                  refine J_goto (tgt := 303) dL_told_325 rfl ?_
                  refine xx_J.pick [0, 1, 2, 3, 4, 5, 6, 7, 8, 9, 10] rfl ?_
                  exact ihy _ A34 _ (nI_1 y) g34 (vup_pre hs33 b2) (fun z hz => (o34 z hz).trans (hz33 z hz))
            refine xx_J.pick [0, 1, 2, 3, 4, 5, 6, 7, 8, 9, 10] rfl ?_
            exact cop _ _ (by omega) 0 (Nat.zero_le _) _ A32 _ rfl g32 (fun p hp => absurd hp (Nat.not_lt_zero p)) (fun _ _ => rfl)
          · refine J_iload dL_told_253 rfl ?_
            refine J_iconst (v := 2) dL_told_255 (by decide) ?_
            refine J_ishr dL_told_256 ?_
            refine J_iconst (v := 3) dL_told_257 (by decide) ?_
            refine J_callSr (As := [_, _]) dL_told_258 ml_L_35 cal_L_below sm_L_below rfl rfl (Nat.le_of_ble_eq_true rfl) ⟨by decide, by decide⟩ ⟨by omega, by omega⟩ (c_L_below hst (shr (rxV G i) 2) (m := 3) (by decide) (by decide)) ?_
            refine J_if_ne (tgt := 268) dL_told_261 rfl (fun h261 => ?_) (fun h261 => ?_)
            · refine J_iload dL_told_268 rfl ?_
              refine J_iconst (v := 3) dL_told_270 (by decide) ?_
              refine J_ishr dL_told_271 ?_
              refine J_iconst (v := 0) dL_told_272 (by decide) ?_
              refine J_ltA (fun lt8 => ?_)
              refine J_callSg (As := [_, _]) dL_told_273 ml_L_60 cal_L_test rfl sm_L_test rfl (Nat.le_of_ble_eq_true rfl) ⟨by decide, by decide⟩ ⟨by omega, by omega⟩ (test_all hst 3 A1 n1 0 (shr (rxV G i) 3) (by decide) (by decide) (by decide)) (fun v9 A2 n2 hn2 hQ => ?_) (fun _ _ _ _ hE => by obtain ⟨_, z, _⟩ := hE; exact nomatch z)
              obtain ⟨tv, e9, hv1, hv2, hT9, hf9⟩ := hQ
              cases e9
              have hT2 := hT9.un
              have hB21 := hB20.up lt8 hn2 hf9
              obtain ⟨st, wo, tls, a, c, v1, mm, d1, d2, d3, ⟨r1, fT, r2, r3⟩, d5, d6, d7, d8, d9⟩ := hB21
              refine J_ltA (fun lt9 => ?_)
              have hcn : ¬ c = n := fun e => by have z := d1.1; rw [← e, r2] at z; cases z
              have hcl := lt9 _ _ r2
              have htv : tsV G i = some (tsT 4 (shr (rxV G i) 3) 0) := by unfold tsV; rw [if_neg hts]
              obtain ⟨fc8, hTc⟩ := trA.cell _ _ _ hT2
              have hvn9 : ¬ tv = n := fun e => by have z := d1.1; rw [← e, hTc] at z; cases z
              have hLt : (txL 4 (tsT 4 (shr (rxV G i) 3) 0)).length ≤ 141 := tsL0 (f := 0) (x := shr (rxV G i) 3)
              have h10 := tl_x.2.2.2.2.2.2.2.2.2.2
              refine J_astore (L' := [(8, _), (7, _), (6, _), (5, _), (4, _), (3, _), (0, _), (1, _), (2, _)]) dL_told_276 (by decide) rfl ?_
              refine J_aload_n dL_told_278 rfl rfl ?_
              refine J_aload_n dL_told_279 rfl rfl ?_
              refine J_getf dL_told_280 fl_L_99 d1.1 rfl ?_
              refine J_iload dL_told_283 rfl ?_
              refine J_callSg (As := [_, _]) dL_told_285 ml_L_102 cal_X7_with_ rfl sm_X7_with_ rfl (Nat.le_of_ble_eq_true rfl) ⟨by decide, by decide⟩ ⟨by omega, by omega⟩ (c_X7_with_ hst r1 (by omega)) (fun v8 A8 n8 _ hQ => ?_) (fun _ _ _ _ hE => absurd hE.1 (fun z => nomatch z))
              obtain ⟨e8, hn8, ⟨g, q1, q2, q3⟩, q4⟩ := hQ
              subst n8
              cases e8
              refine J_putf dL_told_288 fp_L_99 (fun _ => ⟨rfl, rfl⟩) ((q4 n (by omega)).trans d1.1) (Nat.le_of_ble_eq_true rfl) ?_
              refine J_up (fun A31 g31 o31 => ?_)
              refine J_iload dL_told_291 rfl ?_
              refine J_iconst (v := 1) dL_told_293 (by decide) ?_
              refine J_iadd dL_told_294 ?_
              rw [nI_1]
              refine J_newT (N := i + 1) dL_told_295 cl_L_32 (nI_pos (by omega)) (nI_clamp (by omega)) (by omega) (by omega) (by omega) ?_
              refine J_up (fun A32 g32 o32 => ?_)
              refine J_astore (L' := [(9, _), (8, _), (7, _), (6, _), (5, _), (4, _), (3, _), (0, _), (1, _), (2, _)]) dL_told_298 (by decide) rfl ?_
              refine J_iconst (v := 0) dL_told_300 (by decide) ?_
              refine J_istore (L' := [(10, _), (9, _), (8, _), (7, _), (6, _), (5, _), (4, _), (3, _), (0, _), (1, _), (2, _)]) dL_told_301 (by decide) rfl ?_
              have cop : ∀ K9 J9 : Nat, (K9 ≤ k1 + 17 ∧ J9 ≤ j1 + 170) → ∀ y, y ≤ i → ∀ (z0 : Int32) (A33 : xx_H) (g33 : Nat → Option Nat), z0 = nI y → A33 (n2 + 1) = some (.inl (5, i + 1, .inr (.inr (.inr (.inr g33))))) → (∀ p, p < y → g33 p = fT p) → (∀ z, ¬ z = n2 + 1 → A33 z = A32 z) → xx_J G l mL_told 11 400 1000 1000000 (toldQ G h v0 n A) 303 [(10, .int z0), (9, .ref (n2 + 1)), (8, .ref tv), (7, .int (nI (outV G i))), (6, .int (rxV G i)), (5, .int (nI i)), (4, .int (nI (nrV G))), (3, .ref n), (0, .ref 160), (1, .int 6), (2, .ref h)] [] A33 (n2 + 1 + 1) K9 J9 := by
                intro K9 J9 hKJ
                refine xx_dn ?_ ?_
                · intro z0 A33 g33 hz0 hg33 hs33 hz33
                  have ez : z0.toInt = i := by rw [hz0]; exact i_n (by omega)
                  refine J_iload dL_told_303 rfl ?_
                  refine J_iload dL_told_305 rfl ?_
                  refine J_icmp_ge (tgt := 328) dL_told_307 rfl (fun h307 => ?_) (fun h307 => ?_)
                  · refine J_aload dL_told_328 rfl ?_
                    refine J_iload dL_told_330 rfl ?_
                    refine J_aload dL_told_332 rfl ?_
                    refine J_aastTQ i dL_told_334 hg33 rfl (by omega) (by omega) ((hz33 tv (by omega)).trans ((o32 tv (by omega)).trans ((o31 tv hvn9).trans ((q4 tv hv2).trans hTc)))) (fun A34 g34 o34 => ?_)
                    refine J_aload_n dL_told_335 rfl rfl ?_
                    refine J_aload dL_told_336 rfl ?_
                    refine J_putf dL_told_338 fp_L_106 (fun _ => ⟨rfl, rfl⟩) ((o34 n (by omega)).trans ((hz33 n (by omega)).trans ((o32 n (by omega)).trans g31))) (Nat.le_of_ble_eq_true rfl) ?_
                    refine J_up (fun A35 g35 o35 => ?_)
                    have hB35 : tdJ G n h v0 A (i + 1) (rlX G i) (n2 + 1 + 1) A35 := rul_st hhn hv0n d1 d2 d3 r3 d5 d6 d7 d8 d9 lt9 ((o34 n (by omega)).trans ((hz33 n (by omega)).trans ((o32 n (by omega)).trans g31))) ((o34 n2 (by omega)).trans ((hz33 n2 (by omega)).trans ((o32 n2 (by omega)).trans ((o31 n2 (by omega)).trans q1)))) q2 q3 g34 (fun p hp => (va_up_ne _ _ (by omega)).trans (hs33 p hp)) (Or.inr ⟨_, tv, htv, va_up_self _ _ _, hT2, tsT_K _ _ _⟩) (fun z hz hzn => (o34 z (by omega)).trans ((hz33 z (by omega)).trans ((o32 z (by omega)).trans ((o31 z hzn).trans (q4 z hz))))) g35 o35
                    have hT35 : trA A35 4 tv (tsT 4 (shr (rxV G i) 3) 0) := hT2.up _ _ _ (fun z c hz => by
                      have hzl := lt9 _ _ hz
                      have hzn : ¬ z = n := fun e => by have y := d1.1; rw [← e, hz] at y; cases y
                      exact (o35 z hzn).trans ((o34 z (by omega)).trans ((hz33 z (by omega)).trans ((o32 z (by omega)).trans ((o31 z hzn).trans (q4 z hzl))))))
                    refine J_aload_n dL_told_341 rfl rfl ?_
                    refine J_ldcS 5 dL_told_342 rfl ?_
                    refine J_ltA (fun lt35 => ?_)
                    refine hB35.ap (sx := tl 5) lt35 (fun v35 m35 hW35 hap35 => ?_)
                    refine J_callV (As := [_]) dL_told_344 ml_L_75 cal_J4_append_15ec4 im_J4_append_15ec4 se_J4_append_15ec4 hW35.1 rfl rfl rfl (Nat.le_of_ble_eq_true rfl) ⟨by decide, by decide⟩ ⟨by omega, by omega⟩ (c_J4_append_15ec4 (sx := tl 5) hst hW35 (strT (k := 5) (by decide)) (by have h9 : (rlX G i ++ tl 5 ++ ouX (outV G i) ++ whX (tsV G i) ++ tl 2).length ≤ 163 + 163 * (i + 1) := hlx; simp only [List.length_append] at h9 ⊢; omega)) (fun _ _ _ _ hE => absurd hE.1 (fun z => nomatch z)) (fun v9 A36 n36 _ hQ => ?_)
                    obtain ⟨hn36, hB36, hK36⟩ := hap35 _ _ _ hQ
                    have e9 := hQ.1
                    cases e9
                    have hT36 := hT35.keep hK36
                    refine J_iload dL_told_347 rfl ?_
                    refine J_if_ne (tgt := 357) dL_told_349 rfl (fun h349 => ?_) (fun h349 => ?_)
                    · have k349 : ¬ outV G i = 0 := fun z => h349 (by rw [z]; rfl)
                      refine J_iload dL_told_357 rfl ?_
                      refine J_iconst (v := 1) dL_told_359 (by decide) ?_
                      refine J_icmp_ne (tgt := 368) dL_told_360 rfl (fun h360 => ?_) (fun h360 => ?_)
                      · have k360 : ¬ outV G i = 1 := fun z => h360 (by rw [z]; rfl)
                        have hou : ouX (outV G i) = tl 8 := by unfold ouX; rw [if_neg k349, if_neg k360]
                        refine J_ldcS 8 dL_told_368 rfl ?_
                        refine J_ltA (fun lt36 => ?_)
                        refine hB36.ap (sx := ouX (outV G i)) lt36 (fun v36 m36 hW36 hap36 => ?_)
                        refine J_callV (As := [_]) dL_told_370 ml_L_75 cal_J4_append_15ec4 im_J4_append_15ec4 se_J4_append_15ec4 hW36.1 rfl rfl rfl (Nat.le_of_ble_eq_true rfl) ⟨by decide, by decide⟩ ⟨by omega, by omega⟩ (c_J4_append_15ec4 (sx := ouX (outV G i)) hst hW36 (by rw [hou]; exact strT (k := 8) (by decide)) (by have h9 : (rlX G i ++ tl 5 ++ ouX (outV G i) ++ whX (tsV G i) ++ tl 2).length ≤ 163 + 163 * (i + 1) := hlx; simp only [List.length_append] at h9 ⊢; omega)) (fun _ _ _ _ hE => absurd hE.1 (fun z => nomatch z)) (fun v9 A37 n37 _ hQ => ?_)
                        obtain ⟨hn37, hB37, hK37⟩ := hap36 _ _ _ hQ
                        have e9 := hQ.1
                        cases e9
                        have hT37 := hT36.keep hK37
                        refine J_aload dL_told_373 rfl ?_
                        refine J_ifnonnull (tgt := 383) dL_told_375 rfl ?_
                        refine J_ltA (fun lt50 => ?_)
                        refine J_new (fs := [.null, .int 0, .int 0, .int 0]) dL_told_383 k_9 cl_L_76 ins_java_lang_StringBuilder in_java_lang_StringBuilder (fun q hq => by rcases (show q = 0 ∨ q = 1 ∨ q = 2 ∨ q = 3 by omega) with rfl | rfl | rfl | rfl <;> rfl) (fun v hv q h => by subst h; simp at hv) (by omega) (by omega) ?_
                        refine J_up (fun A50 g50 o50 => ?_)
                        refine J_dup dL_told_386 rfl ?_
                        refine J_callI (As := []) dL_told_387 (Or.inl ml_L_120) cal_J4_init_da8c8 rfl rfl rfl im_J4_init_da8c8 rfl (Nat.le_of_ble_eq_true rfl) ⟨by decide, by decide⟩ ⟨by omega, by omega⟩ (c_J4_init_da8c8 hst g50) (fun v9 A51 n51 _ hQ => ?_)
                        obtain ⟨e9, hn51, hW51, hg51⟩ := hQ
                        cases e9
                        have hf51 : ∀ z, z < n37 → A51 z = A37 z := fun z hz => (hg51 z (by omega) (by omega)).trans (o50 z (by omega))
                        refine J_ldcS 10 dL_told_390 rfl ?_
                        refine J_callV (As := [_]) dL_told_392 ml_L_75 cal_J4_append_15ec4 im_J4_append_15ec4 se_J4_append_15ec4 hW51.1 rfl rfl rfl (Nat.le_of_ble_eq_true rfl) ⟨by decide, by decide⟩ ⟨by omega, by omega⟩ (c_J4_append_15ec4 hst hW51 (strT (k := 10) (by decide)) (by simp only [List.length_append, List.length_nil]; omega)) (fun _ _ _ _ hE => absurd hE.1 (fun z => nomatch z)) (fun v9 A52 n52 _ hQ => ?_)
                        obtain ⟨e9, hn52, hN52, v52, m52, hW52, hu52, hg52⟩ := hQ
                        cases e9
                        have hv52 : n37 < v52 ∧ v52 < n52 := by omega
                        have hf52 : ∀ z, z < n37 → A52 z = A37 z := fun z hz => (hg52 z (by omega) (by omega) (by omega)).trans (hf51 z hz)
                        refine J_aload dL_told_395 rfl ?_
                        have hT52 := hT37.keep (kpF.up lt50 hf52)
                        obtain ⟨fc9, hc9⟩ := trA.cell _ _ _ hT52
                        refine J_callV (As := []) dL_told_397 ml_L_123 cal_X8_text im_X8_text se_X8_text hc9 rfl rfl rfl (Nat.le_of_ble_eq_true rfl) ⟨by decide, by decide⟩ ⟨by omega, by omega⟩ (text_all hst 4 A52 n52 tv _ hT52 (tsT_K _ _ _) (by omega)) (fun _ _ _ _ hE => by obtain ⟨_, z, _⟩ := hE; exact nomatch z) (fun v9 A53 n53 hn53 hQ => ?_)
                        obtain ⟨w53, e9, hs53, hg53⟩ := hQ
                        cases e9
                        have hW53 := hW52.up (hg53 _ (by omega)) (hg53 _ hv52.2)
                        have hf53 : ∀ z, z < n37 → A53 z = A37 z := fun z hz => (hg53 z (by omega)).trans (hf52 z hz)
                        refine J_callV (As := [_]) dL_told_400 ml_L_75 cal_J4_append_15ec4 im_J4_append_15ec4 se_J4_append_15ec4 hW53.1 rfl rfl rfl (Nat.le_of_ble_eq_true rfl) ⟨by decide, by decide⟩ ⟨by omega, by omega⟩ (c_J4_append_15ec4 hst hW53 hs53 (by simp only [List.length_append, List.length_nil]; omega)) (fun _ _ _ _ hE => absurd hE.1 (fun z => nomatch z)) (fun v9 A54 n54 _ hQ => ?_)
                        obtain ⟨e9, hn54, hN54, v54, m54, hW54, hu54, hg54⟩ := hQ
                        cases e9
                        have hf54 : ∀ z, z < n37 → A54 z = A37 z := fun z hz => (hg54 z (by omega) (by omega) (by omega)).trans (hf53 z hz)
                        refine J_callV (As := []) dL_told_403 ml_L_127 cal_J4_toString_0e30d im_J4_toString_0e30d se_J4_toString_0e30d hW54.1 rfl rfl rfl (Nat.le_of_ble_eq_true rfl) ⟨by decide, by decide⟩ ⟨by omega, by omega⟩ (c_J4_toString_0e30d hst hW54 (by simp only [List.length_append, List.length_nil]; omega)) (fun _ _ _ _ hE => absurd hE.1 (fun z => nomatch z)) (fun v9 A55 n55 _ hQ => ?_)
                        obtain ⟨e9, hn55, hT9, ⟨g9, hB9, hh9, hf9_⟩, hg55⟩ := hQ
                        cases e9
                        have hs55 : strV A55 n54 (whX (some (tsT 4 (shr (rxV G i) 3) 0))) := Or.inr ⟨_, g9, hT9, hB9, hh9, hf9_⟩
                        have hf55 : ∀ z, z < n37 → A55 z = A37 z := fun z hz => (hg55 z (by omega)).trans (hf54 z hz)
                        have hB55 := hB37.up lt50 (show n37 ≤ n55 by omega) hf55
                        have hT55 := hT37.keep (kpF.up lt50 hf55)
                        refine J_ltA (fun lt55 => ?_)
                        refine hB55.ap (sx := whX (tsV G i)) lt55 (fun v55 m55 hW55 hap55 => ?_)
                        refine J_callV (As := [_]) dL_told_406 ml_L_75 cal_J4_append_15ec4 im_J4_append_15ec4 se_J4_append_15ec4 hW55.1 rfl rfl rfl (Nat.le_of_ble_eq_true rfl) ⟨by decide, by decide⟩ ⟨by omega, by omega⟩ (c_J4_append_15ec4 (sx := whX (tsV G i)) hst hW55 (by rw [htv]; exact hs55) (by have h9 : (rlX G i ++ tl 5 ++ ouX (outV G i) ++ whX (tsV G i) ++ tl 2).length ≤ 163 + 163 * (i + 1) := hlx; simp only [List.length_append] at h9 ⊢; omega)) (fun _ _ _ _ hE => absurd hE.1 (fun z => nomatch z)) (fun v9 A56 n56 _ hQ => ?_)
                        obtain ⟨hn56, hB56, hK56⟩ := hap55 _ _ _ hQ
                        have e9 := hQ.1
                        cases e9
                        have hT56 := hT55.keep hK56
                        refine J_ldcS 2 dL_told_409 rfl ?_
                        refine J_ltA (fun lt56 => ?_)
                        refine hB56.ap (sx := tl 2) lt56 (fun v56 m56 hW56 hap56 => ?_)
                        refine J_callV (As := [_]) dL_told_411 ml_L_75 cal_J4_append_15ec4 im_J4_append_15ec4 se_J4_append_15ec4 hW56.1 rfl rfl rfl (Nat.le_of_ble_eq_true rfl) ⟨by decide, by decide⟩ ⟨by omega, by omega⟩ (c_J4_append_15ec4 (sx := tl 2) hst hW56 (strT (k := 2) (by decide)) (by have h9 : (rlX G i ++ tl 5 ++ ouX (outV G i) ++ whX (tsV G i) ++ tl 2).length ≤ 163 + 163 * (i + 1) := hlx; simp only [List.length_append] at h9 ⊢; omega)) (fun _ _ _ _ hE => absurd hE.1 (fun z => nomatch z)) (fun v9 A57 n57 _ hQ => ?_)
                        obtain ⟨hn57, hB57, hK57⟩ := hap56 _ _ _ hQ
                        have e9 := hQ.1
                        cases e9
                        have hT57 := hT56.keep hK57
                        refine J_pop dL_told_414 rfl ?_
                        refine J_iinc (v := _ + 1) (L' := [(5, _), (10, _), (9, _), (8, _), (7, _), (6, _), (4, _), (3, _), (0, _), (1, _), (2, _)]) dL_told_415 rfl rfl (by decide) rfl ?_
                        refine J_goto (tgt := 211) dL_told_418 rfl ?_
                        refine xx_J.pick [0, 6, 7, 8, 9, 10] rfl ?_
                        exact ih _ _ _ _ _ (nI_1 i) (by omega) (show tdJ G n h v0 A (i + 1) (rlX G i ++ tl 5 ++ ouX (outV G i) ++ whX (tsV G i) ++ tl 2) _ _ from hB57)
                      · have k360 : outV G i = 1 := (nI_eq (Nat.lt_trans (blw_lt (by decide)) (by decide)) (by decide)).mp (show nI (outV G i) = nI 1 from h360)
                        have hou : ouX (outV G i) = tl 7 := by unfold ouX; rw [if_neg k349, if_pos k360]
                        refine J_ldcS 7 dL_told_363 rfl ?_
                        refine J_goto (tgt := 370) dL_told_365 rfl ?_
                        refine J_ltA (fun lt36 => ?_)
                        refine hB36.ap (sx := ouX (outV G i)) lt36 (fun v36 m36 hW36 hap36 => ?_)
                        refine J_callV (As := [_]) dL_told_370 ml_L_75 cal_J4_append_15ec4 im_J4_append_15ec4 se_J4_append_15ec4 hW36.1 rfl rfl rfl (Nat.le_of_ble_eq_true rfl) ⟨by decide, by decide⟩ ⟨by omega, by omega⟩ (c_J4_append_15ec4 (sx := ouX (outV G i)) hst hW36 (by rw [hou]; exact strT (k := 7) (by decide)) (by have h9 : (rlX G i ++ tl 5 ++ ouX (outV G i) ++ whX (tsV G i) ++ tl 2).length ≤ 163 + 163 * (i + 1) := hlx; simp only [List.length_append] at h9 ⊢; omega)) (fun _ _ _ _ hE => absurd hE.1 (fun z => nomatch z)) (fun v9 A37 n37 _ hQ => ?_)
                        obtain ⟨hn37, hB37, hK37⟩ := hap36 _ _ _ hQ
                        have e9 := hQ.1
                        cases e9
                        have hT37 := hT36.keep hK37
                        refine J_aload dL_told_373 rfl ?_
                        refine J_ifnonnull (tgt := 383) dL_told_375 rfl ?_
                        refine J_ltA (fun lt50 => ?_)
                        refine J_new (fs := [.null, .int 0, .int 0, .int 0]) dL_told_383 k_9 cl_L_76 ins_java_lang_StringBuilder in_java_lang_StringBuilder (fun q hq => by rcases (show q = 0 ∨ q = 1 ∨ q = 2 ∨ q = 3 by omega) with rfl | rfl | rfl | rfl <;> rfl) (fun v hv q h => by subst h; simp at hv) (by omega) (by omega) ?_
                        refine J_up (fun A50 g50 o50 => ?_)
                        refine J_dup dL_told_386 rfl ?_
                        refine J_callI (As := []) dL_told_387 (Or.inl ml_L_120) cal_J4_init_da8c8 rfl rfl rfl im_J4_init_da8c8 rfl (Nat.le_of_ble_eq_true rfl) ⟨by decide, by decide⟩ ⟨by omega, by omega⟩ (c_J4_init_da8c8 hst g50) (fun v9 A51 n51 _ hQ => ?_)
                        obtain ⟨e9, hn51, hW51, hg51⟩ := hQ
                        cases e9
                        have hf51 : ∀ z, z < n37 → A51 z = A37 z := fun z hz => (hg51 z (by omega) (by omega)).trans (o50 z (by omega))
                        refine J_ldcS 10 dL_told_390 rfl ?_
                        refine J_callV (As := [_]) dL_told_392 ml_L_75 cal_J4_append_15ec4 im_J4_append_15ec4 se_J4_append_15ec4 hW51.1 rfl rfl rfl (Nat.le_of_ble_eq_true rfl) ⟨by decide, by decide⟩ ⟨by omega, by omega⟩ (c_J4_append_15ec4 hst hW51 (strT (k := 10) (by decide)) (by simp only [List.length_append, List.length_nil]; omega)) (fun _ _ _ _ hE => absurd hE.1 (fun z => nomatch z)) (fun v9 A52 n52 _ hQ => ?_)
                        obtain ⟨e9, hn52, hN52, v52, m52, hW52, hu52, hg52⟩ := hQ
                        cases e9
                        have hv52 : n37 < v52 ∧ v52 < n52 := by omega
                        have hf52 : ∀ z, z < n37 → A52 z = A37 z := fun z hz => (hg52 z (by omega) (by omega) (by omega)).trans (hf51 z hz)
                        refine J_aload dL_told_395 rfl ?_
                        have hT52 := hT37.keep (kpF.up lt50 hf52)
                        obtain ⟨fc9, hc9⟩ := trA.cell _ _ _ hT52
                        refine J_callV (As := []) dL_told_397 ml_L_123 cal_X8_text im_X8_text se_X8_text hc9 rfl rfl rfl (Nat.le_of_ble_eq_true rfl) ⟨by decide, by decide⟩ ⟨by omega, by omega⟩ (text_all hst 4 A52 n52 tv _ hT52 (tsT_K _ _ _) (by omega)) (fun _ _ _ _ hE => by obtain ⟨_, z, _⟩ := hE; exact nomatch z) (fun v9 A53 n53 hn53 hQ => ?_)
                        obtain ⟨w53, e9, hs53, hg53⟩ := hQ
                        cases e9
                        have hW53 := hW52.up (hg53 _ (by omega)) (hg53 _ hv52.2)
                        have hf53 : ∀ z, z < n37 → A53 z = A37 z := fun z hz => (hg53 z (by omega)).trans (hf52 z hz)
                        refine J_callV (As := [_]) dL_told_400 ml_L_75 cal_J4_append_15ec4 im_J4_append_15ec4 se_J4_append_15ec4 hW53.1 rfl rfl rfl (Nat.le_of_ble_eq_true rfl) ⟨by decide, by decide⟩ ⟨by omega, by omega⟩ (c_J4_append_15ec4 hst hW53 hs53 (by simp only [List.length_append, List.length_nil]; omega)) (fun _ _ _ _ hE => absurd hE.1 (fun z => nomatch z)) (fun v9 A54 n54 _ hQ => ?_)
                        obtain ⟨e9, hn54, hN54, v54, m54, hW54, hu54, hg54⟩ := hQ
                        cases e9
                        have hf54 : ∀ z, z < n37 → A54 z = A37 z := fun z hz => (hg54 z (by omega) (by omega) (by omega)).trans (hf53 z hz)
                        refine J_callV (As := []) dL_told_403 ml_L_127 cal_J4_toString_0e30d im_J4_toString_0e30d se_J4_toString_0e30d hW54.1 rfl rfl rfl (Nat.le_of_ble_eq_true rfl) ⟨by decide, by decide⟩ ⟨by omega, by omega⟩ (c_J4_toString_0e30d hst hW54 (by simp only [List.length_append, List.length_nil]; omega)) (fun _ _ _ _ hE => absurd hE.1 (fun z => nomatch z)) (fun v9 A55 n55 _ hQ => ?_)
                        obtain ⟨e9, hn55, hT9, ⟨g9, hB9, hh9, hf9_⟩, hg55⟩ := hQ
                        cases e9
                        have hs55 : strV A55 n54 (whX (some (tsT 4 (shr (rxV G i) 3) 0))) := Or.inr ⟨_, g9, hT9, hB9, hh9, hf9_⟩
                        have hf55 : ∀ z, z < n37 → A55 z = A37 z := fun z hz => (hg55 z (by omega)).trans (hf54 z hz)
                        have hB55 := hB37.up lt50 (show n37 ≤ n55 by omega) hf55
                        have hT55 := hT37.keep (kpF.up lt50 hf55)
                        refine J_ltA (fun lt55 => ?_)
                        refine hB55.ap (sx := whX (tsV G i)) lt55 (fun v55 m55 hW55 hap55 => ?_)
                        refine J_callV (As := [_]) dL_told_406 ml_L_75 cal_J4_append_15ec4 im_J4_append_15ec4 se_J4_append_15ec4 hW55.1 rfl rfl rfl (Nat.le_of_ble_eq_true rfl) ⟨by decide, by decide⟩ ⟨by omega, by omega⟩ (c_J4_append_15ec4 (sx := whX (tsV G i)) hst hW55 (by rw [htv]; exact hs55) (by have h9 : (rlX G i ++ tl 5 ++ ouX (outV G i) ++ whX (tsV G i) ++ tl 2).length ≤ 163 + 163 * (i + 1) := hlx; simp only [List.length_append] at h9 ⊢; omega)) (fun _ _ _ _ hE => absurd hE.1 (fun z => nomatch z)) (fun v9 A56 n56 _ hQ => ?_)
                        obtain ⟨hn56, hB56, hK56⟩ := hap55 _ _ _ hQ
                        have e9 := hQ.1
                        cases e9
                        have hT56 := hT55.keep hK56
                        refine J_ldcS 2 dL_told_409 rfl ?_
                        refine J_ltA (fun lt56 => ?_)
                        refine hB56.ap (sx := tl 2) lt56 (fun v56 m56 hW56 hap56 => ?_)
                        refine J_callV (As := [_]) dL_told_411 ml_L_75 cal_J4_append_15ec4 im_J4_append_15ec4 se_J4_append_15ec4 hW56.1 rfl rfl rfl (Nat.le_of_ble_eq_true rfl) ⟨by decide, by decide⟩ ⟨by omega, by omega⟩ (c_J4_append_15ec4 (sx := tl 2) hst hW56 (strT (k := 2) (by decide)) (by have h9 : (rlX G i ++ tl 5 ++ ouX (outV G i) ++ whX (tsV G i) ++ tl 2).length ≤ 163 + 163 * (i + 1) := hlx; simp only [List.length_append] at h9 ⊢; omega)) (fun _ _ _ _ hE => absurd hE.1 (fun z => nomatch z)) (fun v9 A57 n57 _ hQ => ?_)
                        obtain ⟨hn57, hB57, hK57⟩ := hap56 _ _ _ hQ
                        have e9 := hQ.1
                        cases e9
                        have hT57 := hT56.keep hK57
                        refine J_pop dL_told_414 rfl ?_
                        refine J_iinc (v := _ + 1) (L' := [(5, _), (10, _), (9, _), (8, _), (7, _), (6, _), (4, _), (3, _), (0, _), (1, _), (2, _)]) dL_told_415 rfl rfl (by decide) rfl ?_
                        refine J_goto (tgt := 211) dL_told_418 rfl ?_
                        refine xx_J.pick [0, 6, 7, 8, 9, 10] rfl ?_
                        exact ih _ _ _ _ _ (nI_1 i) (by omega) (show tdJ G n h v0 A (i + 1) (rlX G i ++ tl 5 ++ ouX (outV G i) ++ whX (tsV G i) ++ tl 2) _ _ from hB57)
                    · have k349 : outV G i = 0 := (nI_eq (Nat.lt_trans (blw_lt (by decide)) (by decide)) (by decide)).mp (show nI (outV G i) = nI 0 from h349)
                      have hou : ouX (outV G i) = tl 6 := by unfold ouX; rw [if_pos k349]
                      refine J_ldcS 6 dL_told_352 rfl ?_
                      refine J_goto (tgt := 370) dL_told_354 rfl ?_
                      refine J_ltA (fun lt36 => ?_)
                      refine hB36.ap (sx := ouX (outV G i)) lt36 (fun v36 m36 hW36 hap36 => ?_)
                      refine J_callV (As := [_]) dL_told_370 ml_L_75 cal_J4_append_15ec4 im_J4_append_15ec4 se_J4_append_15ec4 hW36.1 rfl rfl rfl (Nat.le_of_ble_eq_true rfl) ⟨by decide, by decide⟩ ⟨by omega, by omega⟩ (c_J4_append_15ec4 (sx := ouX (outV G i)) hst hW36 (by rw [hou]; exact strT (k := 6) (by decide)) (by have h9 : (rlX G i ++ tl 5 ++ ouX (outV G i) ++ whX (tsV G i) ++ tl 2).length ≤ 163 + 163 * (i + 1) := hlx; simp only [List.length_append] at h9 ⊢; omega)) (fun _ _ _ _ hE => absurd hE.1 (fun z => nomatch z)) (fun v9 A37 n37 _ hQ => ?_)
                      obtain ⟨hn37, hB37, hK37⟩ := hap36 _ _ _ hQ
                      have e9 := hQ.1
                      cases e9
                      have hT37 := hT36.keep hK37
                      refine J_aload dL_told_373 rfl ?_
                      refine J_ifnonnull (tgt := 383) dL_told_375 rfl ?_
                      refine J_ltA (fun lt50 => ?_)
                      refine J_new (fs := [.null, .int 0, .int 0, .int 0]) dL_told_383 k_9 cl_L_76 ins_java_lang_StringBuilder in_java_lang_StringBuilder (fun q hq => by rcases (show q = 0 ∨ q = 1 ∨ q = 2 ∨ q = 3 by omega) with rfl | rfl | rfl | rfl <;> rfl) (fun v hv q h => by subst h; simp at hv) (by omega) (by omega) ?_
                      refine J_up (fun A50 g50 o50 => ?_)
                      refine J_dup dL_told_386 rfl ?_
                      refine J_callI (As := []) dL_told_387 (Or.inl ml_L_120) cal_J4_init_da8c8 rfl rfl rfl im_J4_init_da8c8 rfl (Nat.le_of_ble_eq_true rfl) ⟨by decide, by decide⟩ ⟨by omega, by omega⟩ (c_J4_init_da8c8 hst g50) (fun v9 A51 n51 _ hQ => ?_)
                      obtain ⟨e9, hn51, hW51, hg51⟩ := hQ
                      cases e9
                      have hf51 : ∀ z, z < n37 → A51 z = A37 z := fun z hz => (hg51 z (by omega) (by omega)).trans (o50 z (by omega))
                      refine J_ldcS 10 dL_told_390 rfl ?_
                      refine J_callV (As := [_]) dL_told_392 ml_L_75 cal_J4_append_15ec4 im_J4_append_15ec4 se_J4_append_15ec4 hW51.1 rfl rfl rfl (Nat.le_of_ble_eq_true rfl) ⟨by decide, by decide⟩ ⟨by omega, by omega⟩ (c_J4_append_15ec4 hst hW51 (strT (k := 10) (by decide)) (by simp only [List.length_append, List.length_nil]; omega)) (fun _ _ _ _ hE => absurd hE.1 (fun z => nomatch z)) (fun v9 A52 n52 _ hQ => ?_)
                      obtain ⟨e9, hn52, hN52, v52, m52, hW52, hu52, hg52⟩ := hQ
                      cases e9
                      have hv52 : n37 < v52 ∧ v52 < n52 := by omega
                      have hf52 : ∀ z, z < n37 → A52 z = A37 z := fun z hz => (hg52 z (by omega) (by omega) (by omega)).trans (hf51 z hz)
                      refine J_aload dL_told_395 rfl ?_
                      have hT52 := hT37.keep (kpF.up lt50 hf52)
                      obtain ⟨fc9, hc9⟩ := trA.cell _ _ _ hT52
                      refine J_callV (As := []) dL_told_397 ml_L_123 cal_X8_text im_X8_text se_X8_text hc9 rfl rfl rfl (Nat.le_of_ble_eq_true rfl) ⟨by decide, by decide⟩ ⟨by omega, by omega⟩ (text_all hst 4 A52 n52 tv _ hT52 (tsT_K _ _ _) (by omega)) (fun _ _ _ _ hE => by obtain ⟨_, z, _⟩ := hE; exact nomatch z) (fun v9 A53 n53 hn53 hQ => ?_)
                      obtain ⟨w53, e9, hs53, hg53⟩ := hQ
                      cases e9
                      have hW53 := hW52.up (hg53 _ (by omega)) (hg53 _ hv52.2)
                      have hf53 : ∀ z, z < n37 → A53 z = A37 z := fun z hz => (hg53 z (by omega)).trans (hf52 z hz)
                      refine J_callV (As := [_]) dL_told_400 ml_L_75 cal_J4_append_15ec4 im_J4_append_15ec4 se_J4_append_15ec4 hW53.1 rfl rfl rfl (Nat.le_of_ble_eq_true rfl) ⟨by decide, by decide⟩ ⟨by omega, by omega⟩ (c_J4_append_15ec4 hst hW53 hs53 (by simp only [List.length_append, List.length_nil]; omega)) (fun _ _ _ _ hE => absurd hE.1 (fun z => nomatch z)) (fun v9 A54 n54 _ hQ => ?_)
                      obtain ⟨e9, hn54, hN54, v54, m54, hW54, hu54, hg54⟩ := hQ
                      cases e9
                      have hf54 : ∀ z, z < n37 → A54 z = A37 z := fun z hz => (hg54 z (by omega) (by omega) (by omega)).trans (hf53 z hz)
                      refine J_callV (As := []) dL_told_403 ml_L_127 cal_J4_toString_0e30d im_J4_toString_0e30d se_J4_toString_0e30d hW54.1 rfl rfl rfl (Nat.le_of_ble_eq_true rfl) ⟨by decide, by decide⟩ ⟨by omega, by omega⟩ (c_J4_toString_0e30d hst hW54 (by simp only [List.length_append, List.length_nil]; omega)) (fun _ _ _ _ hE => absurd hE.1 (fun z => nomatch z)) (fun v9 A55 n55 _ hQ => ?_)
                      obtain ⟨e9, hn55, hT9, ⟨g9, hB9, hh9, hf9_⟩, hg55⟩ := hQ
                      cases e9
                      have hs55 : strV A55 n54 (whX (some (tsT 4 (shr (rxV G i) 3) 0))) := Or.inr ⟨_, g9, hT9, hB9, hh9, hf9_⟩
                      have hf55 : ∀ z, z < n37 → A55 z = A37 z := fun z hz => (hg55 z (by omega)).trans (hf54 z hz)
                      have hB55 := hB37.up lt50 (show n37 ≤ n55 by omega) hf55
                      have hT55 := hT37.keep (kpF.up lt50 hf55)
                      refine J_ltA (fun lt55 => ?_)
                      refine hB55.ap (sx := whX (tsV G i)) lt55 (fun v55 m55 hW55 hap55 => ?_)
                      refine J_callV (As := [_]) dL_told_406 ml_L_75 cal_J4_append_15ec4 im_J4_append_15ec4 se_J4_append_15ec4 hW55.1 rfl rfl rfl (Nat.le_of_ble_eq_true rfl) ⟨by decide, by decide⟩ ⟨by omega, by omega⟩ (c_J4_append_15ec4 (sx := whX (tsV G i)) hst hW55 (by rw [htv]; exact hs55) (by have h9 : (rlX G i ++ tl 5 ++ ouX (outV G i) ++ whX (tsV G i) ++ tl 2).length ≤ 163 + 163 * (i + 1) := hlx; simp only [List.length_append] at h9 ⊢; omega)) (fun _ _ _ _ hE => absurd hE.1 (fun z => nomatch z)) (fun v9 A56 n56 _ hQ => ?_)
                      obtain ⟨hn56, hB56, hK56⟩ := hap55 _ _ _ hQ
                      have e9 := hQ.1
                      cases e9
                      have hT56 := hT55.keep hK56
                      refine J_ldcS 2 dL_told_409 rfl ?_
                      refine J_ltA (fun lt56 => ?_)
                      refine hB56.ap (sx := tl 2) lt56 (fun v56 m56 hW56 hap56 => ?_)
                      refine J_callV (As := [_]) dL_told_411 ml_L_75 cal_J4_append_15ec4 im_J4_append_15ec4 se_J4_append_15ec4 hW56.1 rfl rfl rfl (Nat.le_of_ble_eq_true rfl) ⟨by decide, by decide⟩ ⟨by omega, by omega⟩ (c_J4_append_15ec4 (sx := tl 2) hst hW56 (strT (k := 2) (by decide)) (by have h9 : (rlX G i ++ tl 5 ++ ouX (outV G i) ++ whX (tsV G i) ++ tl 2).length ≤ 163 + 163 * (i + 1) := hlx; simp only [List.length_append] at h9 ⊢; omega)) (fun _ _ _ _ hE => absurd hE.1 (fun z => nomatch z)) (fun v9 A57 n57 _ hQ => ?_)
                      obtain ⟨hn57, hB57, hK57⟩ := hap56 _ _ _ hQ
                      have e9 := hQ.1
                      cases e9
                      have hT57 := hT56.keep hK57
                      refine J_pop dL_told_414 rfl ?_
                      refine J_iinc (v := _ + 1) (L' := [(5, _), (10, _), (9, _), (8, _), (7, _), (6, _), (4, _), (3, _), (0, _), (1, _), (2, _)]) dL_told_415 rfl rfl (by decide) rfl ?_
                      refine J_goto (tgt := 211) dL_told_418 rfl ?_
                      refine xx_J.pick [0, 6, 7, 8, 9, 10] rfl ?_
                      exact ih _ _ _ _ _ (nI_1 i) (by omega) (show tdJ G n h v0 A (i + 1) (rlX G i ++ tl 5 ++ ouX (outV G i) ++ whX (tsV G i) ++ tl 2) _ _ from hB57)
                  · first | (exfalso; simp only [i_lt, i_le, i_eq, i_0, i_1, i_2, i_3, i_4, i_5, i_6, i_8, i_9, i_10, i_12, i_16, i_20, i_m1] at h307; omega) | (exfalso; simp only [s_up, a_up, va_up, i_lt, i_le, i_eq, i_0, i_1, i_2, i_3, i_4, i_5, i_6, i_8, i_9, i_10, i_12, i_16, i_20, i_m1, ↓reduceIte, Nat.reduceEqDiff] at h307; omega)
                · intro y hyi ihy z0 A33 g33 hz0 hg33 hs33 hz33
                  subst hz0
                  have ez : (nI y).toInt = y := i_n (by omega)
                  refine J_iload dL_told_303 rfl ?_
                  refine J_iload dL_told_305 rfl ?_
                  refine J_icmp_ge (tgt := 328) dL_told_307 rfl (fun h307 => ?_) (fun h307 => ?_)
                  · first | (exfalso; simp only [i_lt, i_le, i_eq, i_0, i_1, i_2, i_3, i_4, i_5, i_6, i_8, i_9, i_10, i_12, i_16, i_20, i_m1] at h307; omega) | (exfalso; simp only [s_up, a_up, va_up, i_lt, i_le, i_eq, i_0, i_1, i_2, i_3, i_4, i_5, i_6, i_8, i_9, i_10, i_12, i_16, i_20, i_m1, ↓reduceIte, Nat.reduceEqDiff] at h307; omega)
                  · refine J_aload dL_told_310 rfl ?_
                    refine J_iload dL_told_312 rfl ?_
                    refine J_aload_n dL_told_314 rfl rfl ?_
                    refine J_getf dL_told_315 fl_L_106 ((hz33 n (by omega)).trans ((o32 n (by omega)).trans g31)) rfl ?_
                    refine J_iload dL_told_318 rfl ?_
                    have hsm : ∃ t v, tsV G y = some t ∧ fT y = some v ∧ trA A2 4 v t ∧ trK 4 t := by
                      rcases r3 y (by omega) with ⟨z, -⟩ | z
                      · exfalso
                        unfold tsV at z
                        rw [if_neg (fun z2 => by omega)] at z
                        cases z
                      · exact z
                    obtain ⟨t9, y9, b1, b2, b3, b4⟩ := hsm
                    obtain ⟨f9, b5⟩ := trA.cell _ _ _ b3
                    have hyl := lt9 _ _ b5
                    have hyn : ¬ y9 = n := fun e => by have z := d1.1; rw [← e, b5] at z; cases z
                    refine J_aaldR y dL_told_320 (Or.inr (Or.inr (Or.inl rfl))) ((hz33 c (by omega)).trans ((o32 c (by omega)).trans ((o31 c hcn).trans ((q4 c hcl).trans r2)))) rfl (by omega) (by omega) b2 ?_
                    refine J_aastTQ y dL_told_321 hg33 rfl (by omega) (by omega) ((hz33 y9 (by omega)).trans ((o32 y9 (by omega)).trans ((o31 y9 hyn).trans ((q4 y9 hyl).trans b5)))) (fun A34 g34 o34 => ?_)
                    refine J_iinc (v := _ + 1) (L' := [(10, _), (9, _), (8, _), (7, _), (6, _), (5, _), (4, _), (3, _), (0, _), (1, _), (2, _)]) dL_told_322 rfl rfl (by decide) rfl ?_
                    refine J_goto (tgt := 303) dL_told_325 rfl ?_
                    refine xx_J.pick [0, 1, 2, 3, 4, 5, 6, 7, 8, 9, 10] rfl ?_
                    exact ihy _ A34 _ (nI_1 y) g34 (vup_pre hs33 b2) (fun z hz => (o34 z hz).trans (hz33 z hz))
              refine xx_J.pick [0, 1, 2, 3, 4, 5, 6, 7, 8, 9, 10] rfl ?_
              exact cop _ _ (by omega) 0 (Nat.zero_le _) _ A32 _ rfl g32 (fun p hp => absurd hp (Nat.not_lt_zero p)) (fun _ _ => rfl)
            · exact absurd ⟨(nI_eq (by omega) (by omega)).mp ((nI_1 i).symm.trans h250), (nI_eq (Nat.lt_trans (blw_lt (by decide)) (by decide)) (by decide)).mp (show nI (blw (shr (rxV G i) 2) 3) = nI 0 from h261)⟩ hts
  have tailD : ∀ (A1 : xx_H) (n1 k1 j1 : Nat) (st wo : Nat → Int32), (k1 ≤ 46 ∧ j1 ≤ 70000) → tdB G n h v0 A (nI (nwV G)) st wo (wrX G (nwV G)) n1 A1 → (∀ p, p < nwV G → st p = nI (stV G p)) → (∀ p, p < 3 → wo p = nI (woV G p)) → xx_J G l mL_told 11 400 1000 1000000 (toldQ G h v0 n A) 196 [(3, .ref n), (0, .ref 160), (1, .int 6), (2, .ref h)] [] A1 n1 k1 j1 := by
    intro A1 n1 k1 j1 st wo hk hB hst2 hwo
    obtain ⟨tls, v, mm, d1, d4, d6, d7, d8, d9⟩ := hB
    refine J_aload_n dL_told_196 rfl rfl ?_
    refine J_bipush (v := 15) dL_told_197 (by decide) ?_
    refine J_callSr (As := [_, _]) dL_told_199 ml_L_66 cal_L_cell sm_L_cell rfl rfl (Nat.le_of_ble_eq_true rfl) ⟨by decide, by decide⟩ ⟨by omega, by omega⟩ (c_L_cell hst (k := 15) hL (by decide)) ?_
    refine J_iconst (v := 5) dL_told_202 (by decide) ?_
    refine J_callSr (As := [_, _]) dL_told_203 ml_L_35 cal_L_below sm_L_below rfl rfl (Nat.le_of_ble_eq_true rfl) ⟨by decide, by decide⟩ ⟨by omega, by omega⟩ (c_L_below hst (clv G 15) (m := 5) (by decide) (by decide)) ?_
    refine J_istore (L' := [(4, _), (3, _), (0, _), (1, _), (2, _)]) dL_told_206 (by decide) rfl ?_
    refine J_iconst (v := 0) dL_told_208 (by decide) ?_
    refine J_istore (L' := [(5, _), (4, _), (3, _), (0, _), (1, _), (2, _)]) dL_told_209 (by decide) rfl ?_
    refine xx_J.pick [0, 1, 2, 3, 4, 5] rfl ?_
    exact loopD 0 (Nat.zero_le _) _ A1 n1 k1 j1 rfl (by omega) ⟨st, wo, tls, _, _, v, mm, d1, hst2, hwo, d4, fun p hp => absurd hp (Nat.not_lt_zero p), d6, d7, ⟨d8, by omega⟩, d9⟩
  have loopC : ∀ i, i ≤ nwV G → ∀ (x : Int32) (A1 : xx_H) (n1 k1 j1 : Nat) (st wo : Nat → Int32), x = nI i → (k1 ≤ 16 + 5 * i ∧ j1 ≤ 14452 + 9010 * i) → tdB G n h v0 A (nI (nwV G)) st wo (wrX G i) n1 A1 → (∀ p, p < i → st p = nI (stV G p)) → (∀ p, p < 3 → wo p = nI (woV G p)) → xx_J G l mL_told 11 400 1000 1000000 (toldQ G h v0 n A) 108 [(4, .int x), (3, .ref n), (0, .ref 160), (1, .int 6), (2, .ref h)] [] A1 n1 k1 j1 := by
    refine xx_dn ?_ ?_
    · intro x A1 n1 k1 j1 st wo hx hk hB20 hst2 hwo
      have ex : x.toInt = nwV G := by rw [hx]; exact i_n (by omega)
      have en : (nI (nwV G)).toInt = nwV G := i_n (by omega)
      refine J_iload dL_told_108 rfl ?_
      refine J_aload_n dL_told_110 rfl rfl ?_
      refine J_getf dL_told_111 fl_L_70 hB20.w.1 rfl ?_
      refine J_icmp_ge (tgt := 196) dL_told_114 rfl (fun h114 => ?_) (fun h114 => ?_)
      · refine xx_J.pick [1, 2, 3, 4] rfl ?_
        exact tailD A1 n1 k1 j1 st wo (by omega) hB20 hst2 hwo
      · first | (exfalso; simp only [i_lt, i_le, i_eq, i_0, i_1, i_2, i_3, i_4, i_5, i_6, i_8, i_9, i_10, i_12, i_16, i_20, i_m1] at h114; omega) | (exfalso; simp only [s_up, a_up, va_up, i_lt, i_le, i_eq, i_0, i_1, i_2, i_3, i_4, i_5, i_6, i_8, i_9, i_10, i_12, i_16, i_20, i_m1, ↓reduceIte, Nat.reduceEqDiff] at h114; omega)
    · intro i hii ih x A1 n1 k1 j1 st wo hx hk hB20 hst2 hwo
      subst hx
      have ex : (nI i).toInt = i := i_n (by omega)
      have en : (nI (nwV G)).toInt = nwV G := i_n (by omega)
      have hlx := wrX_len (G := G) (i + 1) (by omega)
      have hs1 := stV_lt (G := G) (i := i)
      refine J_iload dL_told_108 rfl ?_
      refine J_aload_n dL_told_110 rfl rfl ?_
      refine J_getf dL_told_111 fl_L_70 hB20.w.1 rfl ?_
      refine J_icmp_ge (tgt := 196) dL_told_114 rfl (fun h114 => ?_) (fun h114 => ?_)
      · first | (exfalso; simp only [i_lt, i_le, i_eq, i_0, i_1, i_2, i_3, i_4, i_5, i_6, i_8, i_9, i_10, i_12, i_16, i_20, i_m1] at h114; omega) | (exfalso; simp only [s_up, a_up, va_up, i_lt, i_le, i_eq, i_0, i_1, i_2, i_3, i_4, i_5, i_6, i_8, i_9, i_10, i_12, i_16, i_20, i_m1, ↓reduceIte, Nat.reduceEqDiff] at h114; omega)
      · refine J_aload_n dL_told_117 rfl rfl ?_
        refine J_getf dL_told_118 fl_L_92 hB20.w.1 rfl ?_
        refine J_iload dL_told_121 rfl ?_
        refine J_iconst (v := 1) dL_told_123 (by decide) ?_
        refine J_aload_n dL_told_124 rfl rfl ?_
        refine J_iconst (v := 3) dL_told_125 (by decide) ?_
        refine J_iload dL_told_126 rfl ?_
        refine J_iadd dL_told_128 ?_
        rw [show (3 : Int32) + nI i = nI (3 + i) from nI_add 3 i]
        refine J_callSr (As := [_, _]) dL_told_129 ml_L_66 cal_L_cell sm_L_cell rfl rfl (Nat.le_of_ble_eq_true rfl) ⟨by decide, by decide⟩ ⟨by omega, by omega⟩ (c_L_cell hst (k := 3 + i) hL (by omega)) ?_
        refine J_iconst (v := 2) dL_told_132 (by decide) ?_
        refine J_ishr dL_told_133 ?_
        refine J_aload_n dL_told_134 rfl rfl ?_
        refine J_iconst (v := 1) dL_told_135 (by decide) ?_
        refine J_callSr (As := [_, _]) dL_told_136 ml_L_66 cal_L_cell sm_L_cell rfl rfl (Nat.le_of_ble_eq_true rfl) ⟨by decide, by decide⟩ ⟨by omega, by omega⟩ (c_L_cell hst (k := 1) hL (by decide)) ?_
        refine J_iconst (v := 2) dL_told_139 (by decide) ?_
        refine J_callSr (As := [_, _]) dL_told_140 ml_L_35 cal_L_below sm_L_below rfl rfl (Nat.le_of_ble_eq_true rfl) ⟨by decide, by decide⟩ ⟨by omega, by omega⟩ (c_L_below hst (clv G 1) (m := 2) (by decide) (by decide)) ?_
        refine J_if_ne (tgt := 152) dL_told_143 rfl (fun h143 => ?_) (fun h143 => ?_)
        · have k143 : ¬ blw (clv G 1) 2 = 0 := fun z => h143 (by rw [z]; rfl)
          refine J_iconst (v := 4) dL_told_152 (by decide) ?_
          refine J_callSr (As := [_, _]) dL_told_153 ml_L_35 cal_L_below sm_L_below rfl rfl (Nat.le_of_ble_eq_true rfl) ⟨by decide, by decide⟩ ⟨by omega, by omega⟩ (c_L_below hst (shr (clv G (3 + i)) 2) (m := 4) (by decide) (by decide)) ?_
          refine J_iadd dL_told_156 ?_
          have hsv : (1 : Int32) + nI (blw (shr (clv G (3 + i)) 2) 4) = nI (stV G i) := by unfold stV; rw [if_neg k143]; exact nI_add 1 _
          rw [hsv]
          refine J_iastQ i dL_told_157 hB20.w.2.1 rfl (by omega) (by decide) (fun A21 g21 o21 => ?_)
          have hn21 : n1 ≤ n1 := Nat.le_refl _
          have hB21 := hB20.st hhn hv0n g21 o21
          refine J_aload_n dL_told_158 rfl rfl ?_
          refine J_ldcS 3 dL_told_159 rfl ?_
          refine J_ltA (fun lt21 => ?_)
          refine hB21.ap (sx := tl 3) lt21 (fun v21 m21 hW21 hap21 => ?_)
          refine J_callV (As := [_]) dL_told_161 ml_L_75 cal_J4_append_15ec4 im_J4_append_15ec4 se_J4_append_15ec4 hW21.1 rfl rfl rfl (Nat.le_of_ble_eq_true rfl) ⟨by decide, by decide⟩ ⟨by omega, by omega⟩ (c_J4_append_15ec4 hst hW21 (strT (k := 3) (by decide)) (by have h9 : (wrX G i ++ tl 3 ++ decB i ++ tl 4 ++ decB (stV G i) ++ tl 2).length ≤ 13 + 25 * (i + 1) := hlx; simp only [List.length_append] at h9 ⊢; omega)) (fun _ _ _ _ hE => absurd hE.1 (fun z => nomatch z)) (fun v9 A22 n22 _ hQ => ?_)
          obtain ⟨hn22, hB22⟩ := hap21 _ _ _ hQ
          have e9 := hQ.1
          cases e9
          refine J_iload dL_told_164 rfl ?_
          refine J_ltA (fun lt22 => ?_)
          refine hB22.ap (sx := decB i) lt22 (fun v22 m22 hW22 hap22 => ?_)
          refine J_callV (As := [_]) dL_told_166 ml_L_87 cal_J4_append_bf812 im_J4_append_bf812 se_J4_append_bf812 hW22.1 rfl rfl rfl (Nat.le_of_ble_eq_true rfl) ⟨by decide, by decide⟩ ⟨by omega, by omega⟩ (c_J4_append_bf812 hst hW22 (show i < 1000000 by omega) (by have h9 : (wrX G i ++ tl 3 ++ decB i ++ tl 4 ++ decB (stV G i) ++ tl 2).length ≤ 13 + 25 * (i + 1) := hlx; simp only [List.length_append] at h9 ⊢; omega)) (fun _ _ _ _ hE => absurd hE.1 (fun z => nomatch z)) (fun v9 A23 n23 _ hQ => ?_)
          obtain ⟨hn23, hB23⟩ := hap22 _ _ _ hQ
          have e9 := hQ.1
          cases e9
          refine J_ldcS 4 dL_told_169 rfl ?_
          refine J_ltA (fun lt23 => ?_)
          refine hB23.ap (sx := tl 4) lt23 (fun v23 m23 hW23 hap23 => ?_)
          refine J_callV (As := [_]) dL_told_171 ml_L_75 cal_J4_append_15ec4 im_J4_append_15ec4 se_J4_append_15ec4 hW23.1 rfl rfl rfl (Nat.le_of_ble_eq_true rfl) ⟨by decide, by decide⟩ ⟨by omega, by omega⟩ (c_J4_append_15ec4 hst hW23 (strT (k := 4) (by decide)) (by have h9 : (wrX G i ++ tl 3 ++ decB i ++ tl 4 ++ decB (stV G i) ++ tl 2).length ≤ 13 + 25 * (i + 1) := hlx; simp only [List.length_append] at h9 ⊢; omega)) (fun _ _ _ _ hE => absurd hE.1 (fun z => nomatch z)) (fun v9 A24 n24 _ hQ => ?_)
          obtain ⟨hn24, hB24⟩ := hap23 _ _ _ hQ
          have e9 := hQ.1
          cases e9
          refine J_aload_n dL_told_174 rfl rfl ?_
          refine J_getf dL_told_175 fl_L_92 hB24.w.1 rfl ?_
          refine J_iload dL_told_178 rfl ?_
          refine J_ialdN i dL_told_180 hB24.w.2.1 rfl (by omega) (by decide) ?_
          rw [pk_us]
          refine J_ltA (fun lt24 => ?_)
          refine hB24.ap (sx := decB (stV G i)) lt24 (fun v24 m24 hW24 hap24 => ?_)
          refine J_callV (As := [_]) dL_told_181 ml_L_87 cal_J4_append_bf812 im_J4_append_bf812 se_J4_append_bf812 hW24.1 rfl rfl rfl (Nat.le_of_ble_eq_true rfl) ⟨by decide, by decide⟩ ⟨by omega, by omega⟩ (c_J4_append_bf812 hst hW24 (show stV G i < 1000000 by omega) (by have h9 : (wrX G i ++ tl 3 ++ decB i ++ tl 4 ++ decB (stV G i) ++ tl 2).length ≤ 13 + 25 * (i + 1) := hlx; simp only [List.length_append] at h9 ⊢; omega)) (fun _ _ _ _ hE => absurd hE.1 (fun z => nomatch z)) (fun v9 A25 n25 _ hQ => ?_)
          obtain ⟨hn25, hB25⟩ := hap24 _ _ _ hQ
          have e9 := hQ.1
          cases e9
          refine J_ldcS 2 dL_told_184 rfl ?_
          refine J_ltA (fun lt25 => ?_)
          refine hB25.ap (sx := tl 2) lt25 (fun v25 m25 hW25 hap25 => ?_)
          refine J_callV (As := [_]) dL_told_186 ml_L_75 cal_J4_append_15ec4 im_J4_append_15ec4 se_J4_append_15ec4 hW25.1 rfl rfl rfl (Nat.le_of_ble_eq_true rfl) ⟨by decide, by decide⟩ ⟨by omega, by omega⟩ (c_J4_append_15ec4 hst hW25 (strT (k := 2) (by decide)) (by have h9 : (wrX G i ++ tl 3 ++ decB i ++ tl 4 ++ decB (stV G i) ++ tl 2).length ≤ 13 + 25 * (i + 1) := hlx; simp only [List.length_append] at h9 ⊢; omega)) (fun _ _ _ _ hE => absurd hE.1 (fun z => nomatch z)) (fun v9 A26 n26 _ hQ => ?_)
          obtain ⟨hn26, hB26⟩ := hap25 _ _ _ hQ
          have e9 := hQ.1
          cases e9
          refine J_pop dL_told_189 rfl ?_
          refine J_iinc (v := _ + 1) (L' := [(4, _), (3, _), (0, _), (1, _), (2, _)]) dL_told_190 rfl rfl (by decide) rfl ?_
          refine J_goto (tgt := 108) dL_told_193 rfl ?_
          refine xx_J.pick [0, 1, 2, 3, 4] rfl ?_
          exact ih _ _ _ _ _ _ wo (nI_1 i) (by omega) hB26 (upd_nx hst2) hwo
        · have k143 : blw (clv G 1) 2 = 0 := (nI_eq (Nat.lt_trans (blw_lt (by decide)) (by decide)) (by decide)).mp (show nI (blw (clv G 1) 2) = nI 0 from h143)
          refine J_sipush (v := 999) dL_told_146 (by decide) ?_
          refine J_goto (tgt := 153) dL_told_149 rfl ?_
          refine J_callSr (As := [_, _]) dL_told_153 ml_L_35 cal_L_below sm_L_below rfl rfl (Nat.le_of_ble_eq_true rfl) ⟨by decide, by decide⟩ ⟨by omega, by omega⟩ (c_L_below hst (shr (clv G (3 + i)) 2) (m := 999) (by decide) (by decide)) ?_
          refine J_iadd dL_told_156 ?_
          have hsv : (1 : Int32) + nI (blw (shr (clv G (3 + i)) 2) 999) = nI (stV G i) := by unfold stV; rw [if_pos k143]; exact nI_add 1 _
          rw [hsv]
          refine J_iastQ i dL_told_157 hB20.w.2.1 rfl (by omega) (by decide) (fun A21 g21 o21 => ?_)
          have hn21 : n1 ≤ n1 := Nat.le_refl _
          have hB21 := hB20.st hhn hv0n g21 o21
          refine J_aload_n dL_told_158 rfl rfl ?_
          refine J_ldcS 3 dL_told_159 rfl ?_
          refine J_ltA (fun lt21 => ?_)
          refine hB21.ap (sx := tl 3) lt21 (fun v21 m21 hW21 hap21 => ?_)
          refine J_callV (As := [_]) dL_told_161 ml_L_75 cal_J4_append_15ec4 im_J4_append_15ec4 se_J4_append_15ec4 hW21.1 rfl rfl rfl (Nat.le_of_ble_eq_true rfl) ⟨by decide, by decide⟩ ⟨by omega, by omega⟩ (c_J4_append_15ec4 hst hW21 (strT (k := 3) (by decide)) (by have h9 : (wrX G i ++ tl 3 ++ decB i ++ tl 4 ++ decB (stV G i) ++ tl 2).length ≤ 13 + 25 * (i + 1) := hlx; simp only [List.length_append] at h9 ⊢; omega)) (fun _ _ _ _ hE => absurd hE.1 (fun z => nomatch z)) (fun v9 A22 n22 _ hQ => ?_)
          obtain ⟨hn22, hB22⟩ := hap21 _ _ _ hQ
          have e9 := hQ.1
          cases e9
          refine J_iload dL_told_164 rfl ?_
          refine J_ltA (fun lt22 => ?_)
          refine hB22.ap (sx := decB i) lt22 (fun v22 m22 hW22 hap22 => ?_)
          refine J_callV (As := [_]) dL_told_166 ml_L_87 cal_J4_append_bf812 im_J4_append_bf812 se_J4_append_bf812 hW22.1 rfl rfl rfl (Nat.le_of_ble_eq_true rfl) ⟨by decide, by decide⟩ ⟨by omega, by omega⟩ (c_J4_append_bf812 hst hW22 (show i < 1000000 by omega) (by have h9 : (wrX G i ++ tl 3 ++ decB i ++ tl 4 ++ decB (stV G i) ++ tl 2).length ≤ 13 + 25 * (i + 1) := hlx; simp only [List.length_append] at h9 ⊢; omega)) (fun _ _ _ _ hE => absurd hE.1 (fun z => nomatch z)) (fun v9 A23 n23 _ hQ => ?_)
          obtain ⟨hn23, hB23⟩ := hap22 _ _ _ hQ
          have e9 := hQ.1
          cases e9
          refine J_ldcS 4 dL_told_169 rfl ?_
          refine J_ltA (fun lt23 => ?_)
          refine hB23.ap (sx := tl 4) lt23 (fun v23 m23 hW23 hap23 => ?_)
          refine J_callV (As := [_]) dL_told_171 ml_L_75 cal_J4_append_15ec4 im_J4_append_15ec4 se_J4_append_15ec4 hW23.1 rfl rfl rfl (Nat.le_of_ble_eq_true rfl) ⟨by decide, by decide⟩ ⟨by omega, by omega⟩ (c_J4_append_15ec4 hst hW23 (strT (k := 4) (by decide)) (by have h9 : (wrX G i ++ tl 3 ++ decB i ++ tl 4 ++ decB (stV G i) ++ tl 2).length ≤ 13 + 25 * (i + 1) := hlx; simp only [List.length_append] at h9 ⊢; omega)) (fun _ _ _ _ hE => absurd hE.1 (fun z => nomatch z)) (fun v9 A24 n24 _ hQ => ?_)
          obtain ⟨hn24, hB24⟩ := hap23 _ _ _ hQ
          have e9 := hQ.1
          cases e9
          refine J_aload_n dL_told_174 rfl rfl ?_
          refine J_getf dL_told_175 fl_L_92 hB24.w.1 rfl ?_
          refine J_iload dL_told_178 rfl ?_
          refine J_ialdN i dL_told_180 hB24.w.2.1 rfl (by omega) (by decide) ?_
          rw [pk_us]
          refine J_ltA (fun lt24 => ?_)
          refine hB24.ap (sx := decB (stV G i)) lt24 (fun v24 m24 hW24 hap24 => ?_)
          refine J_callV (As := [_]) dL_told_181 ml_L_87 cal_J4_append_bf812 im_J4_append_bf812 se_J4_append_bf812 hW24.1 rfl rfl rfl (Nat.le_of_ble_eq_true rfl) ⟨by decide, by decide⟩ ⟨by omega, by omega⟩ (c_J4_append_bf812 hst hW24 (show stV G i < 1000000 by omega) (by have h9 : (wrX G i ++ tl 3 ++ decB i ++ tl 4 ++ decB (stV G i) ++ tl 2).length ≤ 13 + 25 * (i + 1) := hlx; simp only [List.length_append] at h9 ⊢; omega)) (fun _ _ _ _ hE => absurd hE.1 (fun z => nomatch z)) (fun v9 A25 n25 _ hQ => ?_)
          obtain ⟨hn25, hB25⟩ := hap24 _ _ _ hQ
          have e9 := hQ.1
          cases e9
          refine J_ldcS 2 dL_told_184 rfl ?_
          refine J_ltA (fun lt25 => ?_)
          refine hB25.ap (sx := tl 2) lt25 (fun v25 m25 hW25 hap25 => ?_)
          refine J_callV (As := [_]) dL_told_186 ml_L_75 cal_J4_append_15ec4 im_J4_append_15ec4 se_J4_append_15ec4 hW25.1 rfl rfl rfl (Nat.le_of_ble_eq_true rfl) ⟨by decide, by decide⟩ ⟨by omega, by omega⟩ (c_J4_append_15ec4 hst hW25 (strT (k := 2) (by decide)) (by have h9 : (wrX G i ++ tl 3 ++ decB i ++ tl 4 ++ decB (stV G i) ++ tl 2).length ≤ 13 + 25 * (i + 1) := hlx; simp only [List.length_append] at h9 ⊢; omega)) (fun _ _ _ _ hE => absurd hE.1 (fun z => nomatch z)) (fun v9 A26 n26 _ hQ => ?_)
          obtain ⟨hn26, hB26⟩ := hap25 _ _ _ hQ
          have e9 := hQ.1
          cases e9
          refine J_pop dL_told_189 rfl ?_
          refine J_iinc (v := _ + 1) (L' := [(4, _), (3, _), (0, _), (1, _), (2, _)]) dL_told_190 rfl rfl (by decide) rfl ?_
          refine J_goto (tgt := 108) dL_told_193 rfl ?_
          refine xx_J.pick [0, 1, 2, 3, 4] rfl ?_
          exact ih _ _ _ _ _ _ wo (nI_1 i) (by omega) hB26 (upd_nx hst2) hwo
  have loopB : ptB G → ∀ i, i ≤ 3 → ∀ (x : Int32) (A1 : xx_H) (n1 k1 j1 : Nat) (wo : Nat → Int32), x = nI i → (k1 ≤ 9 + 2 * i ∧ j1 ≤ 1838 + 3604 * i) → tdB G n h v0 A (nI (nwV G)) (fun _ => 0) wo (ptX G i) n1 A1 → (∀ p, p < i → wo p = nI (ptV G p)) → xx_J G l mL_told 11 400 1000 1000000 (toldQ G h v0 n A) 47 [(4, .int x), (3, .ref n), (0, .ref 160), (1, .int 6), (2, .ref h)] [] A1 n1 k1 j1 := by
    intro hpt
    refine xx_dn ?_ ?_
    · intro x A1 n1 k1 j1 wo hx hk hB20 hwo
      have ex : x.toInt = 3 := by rw [hx]; exact i_n (by omega)
      refine J_iload dL_told_47 rfl ?_
      refine J_iconst (v := 3) dL_told_49 (by decide) ?_
      refine J_icmp_ge (tgt := 98) dL_told_50 rfl (fun h50 => ?_) (fun h50 => ?_)
      · refine J_aload_n dL_told_98 rfl rfl ?_
        refine J_ldcS 2 dL_told_99 rfl ?_
        refine J_ltA (fun lt20 => ?_)
        refine hB20.ap (sx := tl 2) lt20 (fun v20 m20 hW20 hap20 => ?_)
        refine J_callV (As := [_]) dL_told_101 ml_L_75 cal_J4_append_15ec4 im_J4_append_15ec4 se_J4_append_15ec4 hW20.1 rfl rfl rfl (Nat.le_of_ble_eq_true rfl) ⟨by decide, by decide⟩ ⟨by omega, by omega⟩ (c_J4_append_15ec4 hst hW20 (strT (k := 2) (by decide)) (by have h9 := ptX_len (G := G) 3; have h8 := tl_x.2.2.1; omega)) (fun _ _ _ _ hE => absurd hE.1 (fun z => nomatch z)) (fun v9 A21 n21 _ hQ => ?_)
        obtain ⟨hn21, hB21⟩ := hap20 _ _ _ hQ
        have e9 := hQ.1
        cases e9
        refine J_pop dL_told_104 rfl ?_
        refine J_iconst (v := 0) dL_told_105 (by decide) ?_
        refine J_istore (L' := [(4, _), (3, _), (0, _), (1, _), (2, _)]) dL_told_106 (by decide) rfl ?_
        refine xx_J.pick [0, 1, 2, 3, 4] rfl ?_
        exact loopC 0 (Nat.zero_le _) _ _ _ _ _ _ _ rfl (by omega) (show tdB G n h v0 A (nI (nwV G)) (fun _ => 0) _ (wrX G 0) _ _ from by show tdB G n h v0 A (nI (nwV G)) (fun _ => 0) _ (tx1 G) _ _; unfold tx1; rw [if_pos hpt]; exact hB21) (fun p hp => absurd hp (Nat.not_lt_zero p)) (fun p hp => (hwo p hp).trans (by unfold woV; rw [if_pos hpt]))
      · first | (exfalso; simp only [i_lt, i_le, i_eq, i_0, i_1, i_2, i_3, i_4, i_5, i_6, i_8, i_9, i_10, i_12, i_16, i_20, i_m1] at h50; omega) | (exfalso; simp only [s_up, a_up, va_up, i_lt, i_le, i_eq, i_0, i_1, i_2, i_3, i_4, i_5, i_6, i_8, i_9, i_10, i_12, i_16, i_20, i_m1, ↓reduceIte, Nat.reduceEqDiff] at h50; omega)
    · intro i hii ih x A1 n1 k1 j1 wo hx hk hB20 hwo
      subst hx
      have ex : (nI i).toInt = i := i_n (by omega)
      have hpv := ptV_lt (G := G) (i := i)
      have hlx := ptX_len (G := G) (i + 1)
      refine J_iload dL_told_47 rfl ?_
      refine J_iconst (v := 3) dL_told_49 (by decide) ?_
      refine J_icmp_ge (tgt := 98) dL_told_50 rfl (fun h50 => ?_) (fun h50 => ?_)
      · first | (exfalso; simp only [i_lt, i_le, i_eq, i_0, i_1, i_2, i_3, i_4, i_5, i_6, i_8, i_9, i_10, i_12, i_16, i_20, i_m1] at h50; omega) | (exfalso; simp only [s_up, a_up, va_up, i_lt, i_le, i_eq, i_0, i_1, i_2, i_3, i_4, i_5, i_6, i_8, i_9, i_10, i_12, i_16, i_20, i_m1, ↓reduceIte, Nat.reduceEqDiff] at h50; omega)
      · refine J_aload_n dL_told_53 rfl rfl ?_
        refine J_getf dL_told_54 fl_L_81 hB20.w.1 rfl ?_
        refine J_iload dL_told_57 rfl ?_
        refine J_aload_n dL_told_59 rfl rfl ?_
        refine J_iconst (v := 2) dL_told_60 (by decide) ?_
        refine J_callSr (As := [_, _]) dL_told_61 ml_L_66 cal_L_cell sm_L_cell rfl rfl (Nat.le_of_ble_eq_true rfl) ⟨by decide, by decide⟩ ⟨by omega, by omega⟩ (c_L_cell hst (k := 2) hL (by decide)) ?_
        refine J_iconst (v := 3) dL_told_64 (by decide) ?_
        refine J_iload dL_told_65 rfl ?_
        refine J_imul dL_told_67 ?_
        refine J_ishr dL_told_68 ?_
        refine J_bipush (v := 10) dL_told_69 (by decide) ?_
        refine J_callSr (As := [_, _]) dL_told_71 ml_L_35 cal_L_below sm_L_below rfl rfl (Nat.le_of_ble_eq_true rfl) ⟨by decide, by decide⟩ ⟨by omega, by omega⟩ (c_L_below hst (shr (clv G 2) (3 * nI i)) (m := 10) (by decide) (by decide)) ?_
        refine J_iastQ i dL_told_74 hB20.w.2.2.1 rfl (by omega) (by decide) (fun A21 g21 o21 => ?_)
        have hn21 : n1 ≤ n1 := Nat.le_refl _
        have hB21 := hB20.wo hhn hv0n g21 o21
        refine J_aload_n dL_told_75 rfl rfl ?_
        refine J_ldcS 1 dL_told_76 rfl ?_
        refine J_ltA (fun lt21 => ?_)
        refine hB21.ap (sx := tl 1) lt21 (fun v21 m21 hW21 hap21 => ?_)
        refine J_callV (As := [_]) dL_told_78 ml_L_75 cal_J4_append_15ec4 im_J4_append_15ec4 se_J4_append_15ec4 hW21.1 rfl rfl rfl (Nat.le_of_ble_eq_true rfl) ⟨by decide, by decide⟩ ⟨by omega, by omega⟩ (c_J4_append_15ec4 hst hW21 (strT (k := 1) (by decide)) (by have h9 : (ptX G i ++ tl 1 ++ decB (ptV G i)).length = 6 + 2 * (i + 1) := hlx; simp only [List.length_append] at h9 ⊢; omega)) (fun _ _ _ _ hE => absurd hE.1 (fun z => nomatch z)) (fun v9 A22 n22 _ hQ => ?_)
        obtain ⟨hn22, hB22⟩ := hap21 _ _ _ hQ
        have e9 := hQ.1
        cases e9
        refine J_aload_n dL_told_81 rfl rfl ?_
        refine J_getf dL_told_82 fl_L_81 hB22.w.1 rfl ?_
        refine J_iload dL_told_85 rfl ?_
        refine J_ialdN i dL_told_87 hB22.w.2.2.1 rfl (by omega) (by decide) ?_
        rw [pk_us, show nI (blw (shr (clv G 2) (3 * nI i)) 10) = nI (ptV G i) from rfl]
        refine J_ltA (fun lt22 => ?_)
        refine hB22.ap (sx := decB (ptV G i)) lt22 (fun v22 m22 hW22 hap22 => ?_)
        refine J_callV (As := [_]) dL_told_88 ml_L_87 cal_J4_append_bf812 im_J4_append_bf812 se_J4_append_bf812 hW22.1 rfl rfl rfl (Nat.le_of_ble_eq_true rfl) ⟨by decide, by decide⟩ ⟨by omega, by omega⟩ (c_J4_append_bf812 hst hW22 (show ptV G i < 1000000 by omega) (by have h9 : (ptX G i ++ tl 1 ++ decB (ptV G i)).length = 6 + 2 * (i + 1) := hlx; simp only [List.length_append] at h9 ⊢; omega)) (fun _ _ _ _ hE => absurd hE.1 (fun z => nomatch z)) (fun v9 A23 n23 _ hQ => ?_)
        obtain ⟨hn23, hB23⟩ := hap22 _ _ _ hQ
        have e9 := hQ.1
        cases e9
        refine J_pop dL_told_91 rfl ?_
        refine J_iinc (v := _ + 1) (L' := [(4, _), (3, _), (0, _), (1, _), (2, _)]) dL_told_92 rfl rfl (by decide) rfl ?_
        refine J_goto (tgt := 47) dL_told_95 rfl ?_
        refine xx_J.pick [0, 1, 2, 3, 4] rfl ?_
        exact ih _ _ _ _ _ _ (nI_1 i) (by omega) hB23 (upd_nx hwo)
  refine J_new (fs := [.int 0, .null, .null, .null, .null, .int 0, .null, .null, .null]) dL_told_0 k_6 cl_L_63 ins_BeltRoundsLaw_Sim in_BeltRoundsLaw_Sim (fun q hq => by rcases (show q = 0 ∨ q = 1 ∨ q = 2 ∨ q = 3 ∨ q = 4 ∨ q = 5 ∨ q = 6 ∨ q = 7 ∨ q = 8 by omega) with rfl | rfl | rfl | rfl | rfl | rfl | rfl | rfl | rfl <;> rfl) (fun v hv q h => by subst h; simp at hv) (by omega) (by omega) ?_
  refine J_up (fun A1 g1 o1 => ?_)
  refine J_dup dL_told_3 rfl ?_
  refine J_callI (As := []) dL_told_4 (Or.inr ⟨_, ml_L_65⟩) cal_X7_init rfl rfl rfl im_X7_init rfl (Nat.le_of_ble_eq_true rfl) ⟨by decide, by decide⟩ ⟨by omega, by omega⟩ (c_X7_init hst g1) (fun v9 A2 n2 _ hQ => ?_)
  obtain ⟨e9, hn2, hS2, ⟨f3, h3⟩, ⟨f4, h4⟩, hg2⟩ := hQ
  cases e9
  obtain ⟨s0, s1, s2, s6, ⟨fa, sa, -⟩, -, sr⟩ := hS2
  refine J_astore_n (L' := [(3, _), (0, _), (1, _), (2, _)]) dL_told_7 rfl (by decide) rfl ?_
  refine J_aload_n dL_told_8 rfl rfl ?_
  refine J_iconst (v := 2) dL_told_9 (by decide) ?_
  refine J_aload_n dL_told_10 rfl rfl ?_
  refine J_iconst (v := 0) dL_told_11 (by decide) ?_
  refine J_callSr (As := [_, _]) dL_told_12 ml_L_66 cal_L_cell sm_L_cell rfl rfl (Nat.le_of_ble_eq_true rfl) ⟨by decide, by decide⟩ ⟨by omega, by omega⟩ (c_L_cell hst (k := 0) hL (by decide)) ?_
  refine J_iload_n dL_told_15 rfl rfl ?_
  refine J_iconst (v := 1) dL_told_16 (by decide) ?_
  refine J_isub dL_told_17 ?_
  rw [show (6 : Int32) - 1 = nI 5 from rfl]
  refine J_callSr (As := [_, _]) dL_told_18 ml_L_35 cal_L_below sm_L_below rfl rfl (Nat.le_of_ble_eq_true rfl) ⟨by decide, by decide⟩ ⟨by omega, by omega⟩ (c_L_below hst (clv G 0) (m := 5) (by decide) (by decide)) ?_
  refine J_iadd dL_told_21 ?_
  rw [show (2 : Int32) + nI (blw (clv G 0) 5) = nI (nwV G) from nI_add 2 _]
  refine J_putf dL_told_22 fp_L_70 (fun _ => ⟨rfl, rfl⟩) s0 (Nat.le_of_ble_eq_true rfl) ?_
  refine J_up (fun A3 g3 o3 => ?_)
  have hfr3 : ∀ z, z < n → A3 z = A z := fun z hz => (o3 z (by omega)).trans ((hg2 z hz).trans (o1 z (by omega)))
  have hB20 : tdB G n h v0 A (nI (nwV G)) (fun _ => 0) (upd (upd (upd (fun _ => 0) 0 2) 1 1) 2 2) [] n2 A3 := ⟨f3, v0, m0, ⟨g3, (o3 _ (by omega)).trans s1, (o3 _ (by omega)).trans s2, (o3 _ (by omega)).trans s6, ⟨fa, (o3 _ (by omega)).trans sa⟩, (o3 _ (by omega)).trans sr⟩, ⟨(o3 _ (by omega)).trans h3, f4, (o3 _ (by omega)).trans h4, fun i hi => absurd hi (Nat.not_lt_zero i)⟩, hW.up (hfr3 _ hhn) (hfr3 _ hv0n), Or.inl rfl, by omega, fun z hz _ _ => hfr3 z hz⟩
  refine J_aload_n dL_told_25 rfl rfl ?_
  refine J_iconst (v := 1) dL_told_26 (by decide) ?_
  refine J_callSr (As := [_, _]) dL_told_27 ml_L_66 cal_L_cell sm_L_cell rfl rfl (Nat.le_of_ble_eq_true rfl) ⟨by decide, by decide⟩ ⟨by omega, by omega⟩ (c_L_cell hst (k := 1) hL (by decide)) ?_
  refine J_iconst (v := 3) dL_told_30 (by decide) ?_
  refine J_callSr (As := [_, _]) dL_told_31 ml_L_35 cal_L_below sm_L_below rfl rfl (Nat.le_of_ble_eq_true rfl) ⟨by decide, by decide⟩ ⟨by omega, by omega⟩ (c_L_below hst (clv G 1) (m := 3) (by decide) (by decide)) ?_
  refine J_if_ne (tgt := 105) dL_told_34 rfl (fun h34 => ?_) (fun h34 => ?_)
  · have hpt : ¬ ptB G := fun z => h34 (by rw [show blw (clv G 1) 3 = 0 from z]; rfl)
    refine J_iconst (v := 0) dL_told_105 (by decide) ?_
    refine J_istore (L' := [(4, _), (3, _), (0, _), (1, _), (2, _)]) dL_told_106 (by decide) rfl ?_
    refine xx_J.pick [0, 1, 2, 3, 4] rfl ?_
    exact loopC 0 (Nat.zero_le _) _ _ _ _ _ _ _ rfl (by omega) (show tdB G n h v0 A (nI (nwV G)) (fun _ => 0) _ (wrX G 0) _ _ from by show tdB G n h v0 A (nI (nwV G)) (fun _ => 0) _ (tx1 G) _ _; unfold tx1; rw [if_neg hpt]; exact hB20) (fun p hp => absurd hp (Nat.not_lt_zero p)) (fun p hp => by unfold woV; rw [if_neg hpt]; rcases (show p = 0 ∨ p = 1 ∨ p = 2 by omega) with rfl | rfl | rfl <;> rfl)
  · have hpt : ptB G := (nI_eq (Nat.lt_trans (blw_lt (by decide)) (by decide)) (by decide)).mp (show nI (blw (clv G 1) 3) = nI 0 from h34)
    refine J_aload_n dL_told_37 rfl rfl ?_
    refine J_ldcS 0 dL_told_38 rfl ?_
    refine J_ltA (fun lt20 => ?_)
    refine hB20.ap (sx := tl 0) lt20 (fun v20 m20 hW20 hap20 => ?_)
    refine J_callV (As := [_]) dL_told_40 ml_L_75 cal_J4_append_15ec4 im_J4_append_15ec4 se_J4_append_15ec4 hW20.1 rfl rfl rfl (Nat.le_of_ble_eq_true rfl) ⟨by decide, by decide⟩ ⟨by omega, by omega⟩ (c_J4_append_15ec4 hst hW20 (strT (k := 0) (by decide)) (by have h8 := tl_x.1; simp only [List.length_nil]; omega)) (fun _ _ _ _ hE => absurd hE.1 (fun z => nomatch z)) (fun v9 A21 n21 _ hQ => ?_)
    obtain ⟨hn21, hB21⟩ := hap20 _ _ _ hQ
    have e9 := hQ.1
    cases e9
    refine J_pop dL_told_43 rfl ?_
    refine J_iconst (v := 0) dL_told_44 (by decide) ?_
    refine J_istore (L' := [(4, _), (3, _), (0, _), (1, _), (2, _)]) dL_told_45 (by decide) rfl ?_
    refine xx_J.pick [0, 1, 2, 3, 4] rfl ?_
    exact loopB hpt 0 (Nat.zero_le _) _ _ _ _ _ _ rfl (by omega) hB21 (fun p hp => absurd hp (Nat.not_lt_zero p))
end XTD
