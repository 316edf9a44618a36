/-! THE REFERENCE: a Plan behind lines, in their own words -/
section XPL
variable {bm bp bs bn ba : Nat} {vL nl : Nat → Int64} {M M' M1 P P' S : xS} {T : xS} {len i j k q s e t d nt tok v m nw : Nat} {tk : Nat → Nat} {rest its : List (Nat × Nat)} {em : List (Int32 × Int32)}
/-- a token's word as a number -/
def hW (T : xS) (len q : Nat) : Int64 := hsh (tpw T len (scS T len q)) (scE T len q - scS T len q)
theorem smF_i : ∀ d i q, smF T len d i q = true ↔ ∀ p, p < d → bat T len (i + p) = bat T len (q + p) := by
  intro d
  induction d with
  | zero => intro i q; exact ⟨fun _ p hp => absurd hp (Nat.not_lt_zero p), fun _ => rfl⟩
  | succ d ih =>
    intro i q
    show (decide (bat T len i = bat T len q) && smF T len d (i + 1) (q + 1)) = true ↔ _
    rw [Bool.and_eq_true, decide_eq_true_eq, ih]
    constructor
    · rintro ⟨h, h2⟩ p hp
      cases p with
      | zero => exact h
      | succ p =>
        have := h2 p (by omega)
        rw [show i + 1 + p = i + (p + 1) by omega, show q + 1 + p = q + (p + 1) by omega] at this
        exact this
    · intro h
      refine ⟨h 0 (by omega), fun p hp => ?_⟩
      have := h (p + 1) (by omega)
      rw [show i + (p + 1) = i + 1 + p by omega, show q + (p + 1) = q + 1 + p by omega] at this
      exact this
theorem swtF_v {dflt : Nat} : ∀ d i, swtF T len s e dflt d i = dflt ∨ spelt T len s e (20 + swtF T len s e dflt d i) := by
  intro d
  induction d with
  | zero => intro i; exact Or.inl rfl
  | succ d ih =>
    intro i
    unfold swtF
    split
    · rename_i h; exact Or.inr h
    · exact ih (i + 1)
theorem eos_gt (h : s < len) : s < eosF T len s := by
  unfold eosF
  split <;> omega
theorem name_w (h : scG T len q = 35) : scE T len q - scS T len q ≤ 10 ∧ ∀ p, p < scE T len q - scS T len q → isL (tpw T len (scS T len q) p) ∨ isD (tpw T len (scS T len q) p) := by
  have hg : sgF T len (scS T len q) (scE T len q) = 35 := by
    unfold scG at h
    split at h
    · exact absurd h (by decide)
    · exact h
  unfold sgF at hg
  split at hg
  · rename_i hs
    split at hg
    · split at hg <;> exact absurd hg (by decide)
    · split at hg
      · rename_i hl
        split at hg
        · rename_i h10
          refine ⟨h10, fun p hp => ?_⟩
          cases p with
          | zero => exact Or.inl hl
          | succ p =>
            have e : scE T len q = etl T len (isL (bat T len (scS T len q))) (len - (scS T len q + 1)) (scS T len q + 1) := by
              show eotF T len (scS T len q) = _
              unfold eotF
              rw [if_pos (Or.inl hl)]
            have z := etl_all (T := T) (len := len) (isL (bat T len (scS T len q))) (len - (scS T len q + 1)) (scS T len q + 1) (scS T len q + (p + 1)) (by omega) (by omega)
            rcases z with z | z
            · exact Or.inr z
            · exact Or.inl z.2
        · exact absurd hg (by decide)
      · rename_i hd hl
        exfalso
        rcases swtF_v (T := T) (len := len) (s := scS T len q) (e := scE T len q) (dflt := 38) 39 0 with z | z
        · rw [hg] at z; exact absurd z (by decide)
        · rw [hg] at z
          have z1 := ((spelt_i 55).mp z).1
          have z2 : (txt 55).length = 0 := by decide +kernel
          have e : scE T len q = eosF T len (scS T len q) := by
            show eotF T len (scS T len q) = _
            unfold eotF
            rw [if_neg (fun c => c.elim hl hd)]
          have := eos_gt (T := T) hs
          omega
  · exact absurd hg (by decide)
theorem sam_hW {u : Nat} (hq : scG T len q = 35) (hu : scG T len u = 35) : samB T len q u = true ↔ hW T len q = hW T len u := by
  rw [samB_i, smF_i]
  unfold hW
  rw [hsh_inj (name_w hq).1 (name_w hu).1 (name_w hq).2 (name_w hu).2]
  rfl
/-- what token q means, in a list of items -/
def lkp (q : Nat) : List (Nat × Nat) → Nat
  | [] => 0
  | (a, m) :: r => if a = q then m else lkp q r
/-- items in order, of places from a to below c -/
def srT (a c : Nat) : List (Nat × Nat) → Prop
  | [] => a ≤ c
  | (q, _) :: r => a ≤ q ∧ srT (q + 1) c r
theorem srT.le : ∀ {its : List (Nat × Nat)} {a c : Nat}, srT a c its → a ≤ c := by
  intro its
  induction its with
  | nil => intro a c h; exact h
  | cons x r ih => intro a c h; have := ih h.2; have := h.1; omega
theorem srT.app : ∀ {a : List (Nat × Nat)} {x y z : Nat} {c : List (Nat × Nat)}, srT x y a → srT y z c → srT x z (a ++ c) := by
  intro a
  induction a with
  | nil =>
    intro x y z c h h2
    have h : x ≤ y := h
    cases c with
    | nil => have h2 : y ≤ z := h2; show x ≤ z; omega
    | cons w r => exact ⟨by have := h2.1; omega, h2.2⟩
  | cons w a ih => intro x y z c h h2; exact ⟨h.1, ih h.2 h2⟩
theorem srT.up {its : List (Nat × Nat)} {a c a' : Nat} (h : srT a c its) (ha : a' ≤ a) : srT a' c its := by
  cases its with
  | nil => have h : a ≤ c := h; show a' ≤ c; omega
  | cons w r => exact ⟨by have := h.1; omega, h.2⟩
theorem srT.dn {its : List (Nat × Nat)} {a c c' : Nat} (h : srT a c its) (ha : c ≤ c') : srT a c' its := by
  induction its generalizing a with
  | nil => have h : a ≤ c := h; show a ≤ c'; omega
  | cons w r ih => exact ⟨h.1, ih h.2⟩
theorem lkp_0 : ∀ {its : List (Nat × Nat)} {a c : Nat}, srT a c its → q < a → lkp q its = 0 := by
  intro its
  induction its with
  | nil => intro a c _ _; rfl
  | cons w r ih =>
    intro a c h hq
    show (if w.1 = q then w.2 else lkp q r) = 0
    have := h.1
    rw [if_neg (by omega)]
    exact ih h.2 (by omega)
theorem mnL_i : ∀ (its : List (Nat × Nat)) {f : Nat → Int32} {a c : Nat}, srT a c its → (∀ q, a ≤ q → q < c → f q = 0) → ∀ q, a ≤ q → q < c → mnL f its q = nI (lkp q its) := by
  have keep : ∀ (its : List (Nat × Nat)) {f : Nat → Int32} {a c q : Nat}, srT a c its → q < a → mnL f its q = f q := by
    intro its
    induction its with
    | nil => intro f a c q _ _; rfl
    | cons w r ih =>
      intro f a c q h hq
      have h1 := h.1
      show mnL (upd f w.1 (nI w.2)) r q = f q
      rw [ih h.2 (by omega)]
      show (if q = w.1 then _ else f q) = f q
      rw [if_neg (by omega)]
  intro its
  induction its with
  | nil => intro f a c h hf q h1 h2; exact hf q h1 h2
  | cons w r ih =>
    intro f a c h hf q h1 h2
    have hw := h.1
    show mnL (upd f w.1 (nI w.2)) r q = nI (if w.1 = q then w.2 else lkp q r)
    by_cases c1 : w.1 = q
    · rw [if_pos c1, keep r h.2 (by omega)]
      show (if q = w.1 then _ else f q) = _
      rw [if_pos c1.symm]
    · rw [if_neg c1]
      by_cases c2 : q < w.1
      · rw [keep r h.2 (by omega), lkp_0 h.2 (by omega)]
        show (if q = w.1 then _ else f q) = _
        rw [if_neg (fun z => c1 z.symm)]
        exact hf q h1 h2
      · exact ih h.2 (fun q h3 h4 => by
          show (if q = w.1 then _ else f q) = _
          rw [if_neg (by omega)]
          exact hf q (by omega) h4) q (by omega) h2
/-- the grammar of items: an item 3 stands behind an item 1, and nothing else does -/
def grm (tk : Nat → Nat) : Bool → List (Nat × Nat) → Prop
  | p, [] => p = false
  | p, (q, m) :: r => (p = false ∧ m = 1 ∧ tk q = 35 ∧ grm tk true r) ∨ (p = true ∧ m = 3 ∧ tk q = 36 ∧ grm tk false r) ∨ (p = false ∧ m = 2 ∧ grm tk false r) ∨ (p = false ∧ 4 ≤ m ∧ m ≤ 6 ∧ tk q = 36 ∧ grm tk false r)
theorem grm.app : ∀ {a : List (Nat × Nat)} {p : Bool} {c : List (Nat × Nat)}, grm tk p a → grm tk false c → grm tk p (a ++ c) := by
  intro a
  induction a with
  | nil => intro p c h h2; have h : p = false := h; rw [h]; exact h2
  | cons w r ih =>
    intro p c h h2
    obtain ⟨a1, a2⟩ := w
    rcases h with ⟨x1, x2, x3, x4⟩ | ⟨x1, x2, x3, x4⟩ | ⟨x1, x2, x3⟩ | ⟨x1, x2, x3, x4, x5⟩
    · exact Or.inl ⟨x1, x2, x3, ih x4 h2⟩
    · exact Or.inr (Or.inl ⟨x1, x2, x3, ih x4 h2⟩)
    · exact Or.inr (Or.inr (Or.inl ⟨x1, x2, ih x3 h2⟩))
    · exact Or.inr (Or.inr (Or.inr ⟨x1, x2, x3, x4, ih x5 h2⟩))
theorem lin_its {num : Nat → Int32} (hn : nxt tk tok) (hk : k < tok) (hok : (linW tk num k).1 = true) : srT k (linW tk num k).2.1 (linW tk num k).2.2.1 ∧ grm tk false (linW tk num k).2.2.1 := by
  have hlo := lin_ok (num := num) hn hk
  unfold linW at hok hlo ⊢
  split
  · rename_i h; rw [if_pos h] at hok hlo
    unfold wrsW at hok hlo ⊢
    split
    · rename_i c; rw [if_pos c] at hok; exact absurd hok Bool.false_ne_true
    rename_i c1; rw [if_neg c1] at hok
    split
    · rename_i c; rw [if_pos c] at hok; exact absurd hok Bool.false_ne_true
    rename_i c2; rw [if_neg c2] at hok
    split
    · rename_i c; rw [if_pos c] at hok; exact absurd hok Bool.false_ne_true
    rename_i c3
    refine ⟨⟨by omega, by omega, by show k + 1 + 2 + 1 ≤ k + 1 + 3; omega⟩, Or.inl ⟨rfl, rfl, Decidable.not_not.mp c1, Or.inr (Or.inl ⟨rfl, rfl, Decidable.not_not.mp c3, rfl⟩)⟩⟩
  rename_i h0; rw [if_neg h0] at hok hlo
  split
  · rename_i h; rw [if_pos h] at hok hlo
    unfold ptsW at hok hlo ⊢
    split
    · rename_i c; rw [if_pos c] at hok; exact absurd hok Bool.false_ne_true
    rename_i c1; rw [if_neg c1] at hok
    split
    · rename_i c; rw [if_pos c] at hok; exact absurd hok Bool.false_ne_true
    rename_i c2; rw [if_neg c2] at hok
    split
    · rename_i c; rw [if_pos c] at hok; exact absurd hok Bool.false_ne_true
    rename_i c3
    have f : ∀ {q m : Nat} {r : List (Nat × Nat)}, 4 ≤ m → m ≤ 6 → tk q = 36 → grm tk false r → grm tk false ((q, m) :: r) := fun a b c d => Or.inr (Or.inr (Or.inr ⟨rfl, a, b, c, d⟩))
    exact ⟨⟨by omega, by omega, by omega, by show k + 1 + 2 + 1 ≤ k + 1 + 3; omega⟩, f (by omega) (by omega) (Decidable.not_not.mp c1) (f (by omega) (by omega) (Decidable.not_not.mp c2) (f (by omega) (by omega) (Decidable.not_not.mp c3) rfl))⟩
  rename_i h2; rw [if_neg h2] at hok hlo
  split
  · rename_i h; rw [if_pos h] at hok hlo
    have ho := ouc_ok hn (hn k hk (by omega) (by omega))
    have key : (rulW tk num (k + 1)).2.2.1 = [(k, 2)] ∧ k < (rulW tk num (k + 1)).2.1 := by
      have hge := (rul_ok (num := num) hn (hn k hk (by omega) (by omega))).1
      refine ⟨?_, by omega⟩
      unfold rulW at hok ⊢
      split
      · rename_i c; rw [if_pos c] at hok; exact absurd hok Bool.false_ne_true
      rename_i c; rw [if_neg c] at hok
      split
      · rename_i c9; rw [if_pos c9] at hok
        split
        · rfl
        · rename_i cp; rw [if_neg cp] at hok; exact absurd hok Bool.false_ne_true
      · rfl
    rw [key.1]
    exact ⟨⟨Nat.le_refl k, key.2⟩, Or.inr (Or.inr (Or.inl ⟨rfl, rfl, rfl⟩))⟩
  · rename_i h; rw [if_neg h] at hok; exact absurd hok Bool.false_ne_true
theorem bok_its {num : Nat → Int32} (hn : nxt tk tok) : ∀ f k (its : List (Nat × Nat)) (rs : RuL), k < tok → srT 0 k its → grm tk false its → (bokW tk num f k its rs).1 = true → srT 0 (bokW tk num f k its rs).2.1 (bokW tk num f k its rs).2.2.1 ∧ grm tk false (bokW tk num f k its rs).2.2.1 ∧ (bokW tk num f k its rs).2.1 < tok + 1 := by
  intro f
  induction f with
  | zero => intro k its rs hk h1 h2 _; exact ⟨h1, h2, by show k < tok + 1; omega⟩
  | succ f ih =>
    intro k its rs hk h1 h2 hok
    unfold bokW at hok ⊢
    split
    · exact ⟨h1, h2, by show k < tok + 1; omega⟩
    rename_i c; rw [if_neg c] at hok
    split
    · rename_i hl; rw [if_pos hl] at hok
      have hlo := lin_ok (num := num) hn hk
      have hli := lin_its (num := num) hn hk hl
      split
      · rename_i h24; rw [if_pos h24] at hok
        have hk2 := hn _ hlo.2 (by omega) (by omega)
        exact ih _ _ _ hk2 (h1.app (hli.1.dn (Nat.le_succ _))) (h2.app hli.2) hok
      · rename_i h24; rw [if_neg h24] at hok; exact absurd hok Bool.false_ne_true
    · rename_i hl; rw [if_neg hl] at hok; exact absurd hok Bool.false_ne_true
theorem bok_lt {num : Nat → Int32} (hn : nxt tk tok) : ∀ f k (its : List (Nat × Nat)) (rs : RuL), k < tok → (bokW tk num f k its rs).2.1 < tok := by
  intro f
  induction f with
  | zero => intro k its rs hk; exact hk
  | succ f ih =>
    intro k its rs hk
    unfold bokW
    split
    · exact hk
    have hlo := lin_ok (num := num) hn hk
    split
    · split
      · rename_i h24
        exact ih _ _ _ (hn _ hlo.2 (by omega) (by omega))
      · exact hlo.2
    · exact hlo.2
/-- the Plan (P, nl) holds what s tells; p: the last wrestler's strength is still wanting -/
def plJ (T : xS) (len : Nat) (s : Told) (p : Bool) (P : xS) (nl : Nat → Int64) : Prop :=
  P.1 0 = nI (s.1.length + (if p = true then 1 else 0)) ∧ s.1.length + (if p = true then 1 else 0) ≤ 12 ∧ (∀ i, i < s.1.length → nl i = hW T len (s.1.getD i (0, 0)).1 ∧ P.2 2 i = (s.1.getD i (0, 0)).2 ∧ scG T len (s.1.getD i (0, 0)).1 = 35) ∧ (p = true → nl s.1.length = hW T len s.2.1 ∧ scG T len s.2.1 = 35) ∧ (∀ i, i < 3 → P.2 3 i = s.2.2.1 i) ∧ P.1 4 = nI s.2.2.2.1 ∧ s.2.2.2.1 ≤ 16 ∧ s.2.2.2.2.1 = 0
theorem chk_err (sam : Nat → Nat → Bool) (num pos : Nat → Int32) {s : Told} {it : Nat × Nat} (h : ¬ s.2.2.2.2.1 = 0) : (chkS sam num pos s it).2.2.2.2 = s.2.2.2.2 := by
  unfold chkS
  split <;> exact noteC_e h
theorem chk_errs (sam : Nat → Nat → Bool) (num pos : Nat → Int32) : ∀ (rest : List (Nat × Nat)) {s : Told}, ¬ s.2.2.2.2.1 = 0 → (rest.foldl (chkS sam num pos) s).2.2.2.2 = s.2.2.2.2 := by
  intro rest
  induction rest with
  | nil => intro s _; rfl
  | cons it r ih =>
    intro s h
    show (r.foldl _ (chkS sam num pos s it)).2.2.2.2 = _
    rw [ih (by rw [chk_err sam num pos h]; exact h), chk_err sam num pos h]
theorem dpL_i (f : Nat → Int64) (y : Int64) : ∀ d i, dpL f y d i = true ↔ ∃ p, p < d ∧ f (i + p) = y := by
  intro d
  induction d with
  | zero => intro i; exact ⟨fun z => absurd z Bool.false_ne_true, fun ⟨p, hp, _⟩ => absurd hp (Nat.not_lt_zero p)⟩
  | succ d ih =>
    intro i
    show (if f i = y then true else dpL f y d (i + 1)) = true ↔ _
    by_cases c : f i = y
    · rw [if_pos c]; exact ⟨fun _ => ⟨0, by omega, c⟩, fun _ => rfl⟩
    · rw [if_neg c, ih]
      constructor
      · rintro ⟨p, hp, h⟩; exact ⟨p + 1, by omega, by rw [show i + (p + 1) = i + 1 + p by omega]; exact h⟩
      · rintro ⟨p, hp, h⟩
        cases p with
        | zero => exact absurd h c
        | succ p => exact ⟨p, by omega, by rw [show i + 1 + p = i + (p + 1) by omega]; exact h⟩
theorem dup_i {L : List (Nat × Int32)} (h12 : L.length ≤ 12) (hL : ∀ i, i < L.length → nl i = hW T len (L.getD i (0, 0)).1 ∧ scG T len (L.getD i (0, 0)).1 = 35) (hq : scG T len q = 35) : dpL nl (hW T len q) L.length 0 = dupK (samB T len) L q := by
  have a : dpL nl (hW T len q) L.length 0 = true ↔ dupK (samB T len) L q = true := by
    rw [dpL_i]
    unfold dupK
    rw [List.take_of_length_le h12, List.any_eq_true]
    constructor
    · rintro ⟨p, hp, h⟩
      rw [Nat.zero_add] at h
      have e : L.getD p (0, 0) = L[p] := by simp [List.getD, List.getElem?_eq_getElem hp]
      obtain ⟨h1, h2⟩ := hL p hp
      rw [e] at h1 h2
      exact ⟨L[p], List.getElem_mem hp, (sam_hW h2 hq).mpr (h1.symm.trans h)⟩
    · rintro ⟨x, hx, h⟩
      obtain ⟨p, hp, rfl⟩ := List.getElem_of_mem hx
      have e : L.getD p (0, 0) = L[p] := by simp [List.getD, List.getElem?_eq_getElem hp]
      obtain ⟨h1, h2⟩ := hL p hp
      rw [e] at h1 h2
      exact ⟨p, hp, by rw [Nat.zero_add, h1]; exact (sam_hW h2 hq).mp h⟩
  cases x : dpL nl (hW T len q) L.length 0 <;> cases y : dupK (samB T len) L q <;> simp_all
theorem edP_f {y : Int64} : (edP m nw P nl y).1 10 = P.1 10 ∧ ∀ r, 4 ≤ r → (edP m nw P nl y).2 r = P.2 r := by
  unfold edP
  split
  · exact ⟨rfl, fun _ _ => rfl⟩
  split
  · unfold nwP; split <;> exact ⟨rfl, fun _ _ => rfl⟩
  split
  · exact ⟨rfl, fun _ _ => rfl⟩
  split
  · exact ⟨rfl, fun r hr => by show va_up P.2 2 _ r = _; simp only [va_up]; rw [if_neg (by omega)]⟩
  · exact ⟨rfl, fun r hr => by show va_up P.2 3 _ r = _; simp only [va_up]; rw [if_neg (by omega)]⟩
theorem noteC_z {E : Int32 × Int32} {c p : Int32} (h : E.1 = 0) : (noteC E c p).1 = c ∧ (¬ c = 0 → noteC E c p = (c, p)) := by
  unfold noteC
  by_cases hc : c = 0
  · rw [if_neg (fun z => z.2 hc)]; exact ⟨h.trans hc.symm, fun z => absurd hc z⟩
  · rw [if_pos ⟨h, hc⟩]; exact ⟨rfl, fun _ => rfl⟩
theorem rng_i (v a c : Int32) : (if v < a ∨ c < v then (5 : Int32) else 0) = if a ≤ v ∧ v ≤ c then 0 else 5 := by
  by_cases h : a ≤ v ∧ v ≤ c
  · rw [if_pos h, if_neg (fun z => z.elim (fun w => absurd h.1 (Int32.not_le.mpr w)) (fun w => absurd h.2 (Int32.not_le.mpr w)))]
  · rw [if_neg h, if_pos]
    by_cases h1 : a ≤ v
    · exact Or.inr (Int32.not_le.mp (fun z => h ⟨h1, z⟩))
    · exact Or.inl (Int32.not_le.mp h1)
abbrev nwJ (s : Told) (p : Bool) : Nat := s.1.length + (if p = true then 1 else 0)
abbrev chX (T : xS) (len : Nat) : Told → Nat × Nat → Told := chkS (samB T len) (tkN T len) (posT T len)
theorem plJ_step {s : Told} {p : Bool} {y : Int64} (h : plJ T len s p P nl) (hg : grm (scG T len) p ((q, m) :: rest)) (h36 : scG T len q = 36 → y.toInt32 = tkN T len q) (h35 : scG T len q = 35 → y = hW T len q) : m ≤ 6 ∧ (m = 3 → 1 ≤ nwJ s p) ∧ (edE m (nwJ s p) P nl y = 0 → ∃ p', grm (scG T len) p' rest ∧ plJ T len (chX T len s (q, m)) p' (edP m (nwJ s p) P nl y) (edL m (nwJ s p) nl y)) ∧ (¬ edE m (nwJ s p) P nl y = 0 → (chX T len s (q, m)).2.2.2.2 = (edE m (nwJ s p) P nl y, posT T len q)) := by
  obtain ⟨h0, h12, hL, hp, hw, h4, h16, hE⟩ := h
  rcases hg with ⟨rfl, rfl, hq, hg⟩ | ⟨rfl, rfl, hq, hg⟩ | ⟨rfl, rfl, hg⟩ | ⟨rfl, m4, m6, hq, hg⟩
  · have e0 : nwJ s false = s.1.length := rfl
    have h0 : P.1 0 = nI s.1.length := h0
    have h12 : s.1.length ≤ 12 := h12
    have hy := h35 hq
    have hd : dpL nl y s.1.length 0 = dupK (samB T len) s.1 q := by rw [hy]; exact dup_i h12 (fun i hi => ⟨(hL i hi).1, (hL i hi).2.2⟩) hq
    have ee : edE 1 s.1.length P nl y = (if dupK (samB T len) s.1 q = true then 2 else if 12 ≤ s.1.length then 4 else 0) := by
      show nwE nl y s.1.length = _
      unfold nwE
      rw [hd]
      have : (s.1.length = 12) ↔ 12 ≤ s.1.length := by omega
      simp only [this]
    refine ⟨by omega, fun z => absurd z (by omega), fun z => ⟨true, hg, ?_⟩, fun z => ?_⟩
    · rw [e0] at z ⊢
      rw [ee] at z
      have hlt : s.1.length < 12 := by
        by_cases c : 12 ≤ s.1.length
        · rw [if_pos c] at z; split at z <;> exact absurd z (by decide)
        · omega
      have en : nwE nl y s.1.length = 0 := by show edE 1 s.1.length P nl y = 0; rw [ee]; exact z
      have eP : edP 1 s.1.length P nl y = s_up P 0 (P.1 0 + 1) := by show nwP P nl y s.1.length = _; unfold nwP; rw [if_pos en]
      have eL : edL 1 s.1.length nl y = vp_updL nl s.1.length y := by show nwL nl y s.1.length = _; unfold nwL; rw [if_pos en]
      rw [eP, eL]
      refine ⟨?_, by show s.1.length + 1 ≤ 12; omega, fun i hi => ?_, fun _ => ?_, hw, h4, h16, ?_⟩
      · show P.1 0 + 1 = nI (s.1.length + 1); rw [h0]; exact nI_1 _
      · have := hL i hi
        have hi : i < s.1.length := hi
        refine ⟨?_, this.2⟩
        show (if i = s.1.length then y else nl i) = _
        rw [if_neg (by omega)]
        exact this.1
      · refine ⟨?_, hq⟩
        show (if s.1.length = s.1.length then y else _) = hW T len q
        rw [if_pos rfl]; exact hy
      · show (noteC s.2.2.2.2 _ _).1 = 0
        rw [(noteC_z hE).1]; exact z
    · rw [e0] at z ⊢
      show noteC s.2.2.2.2 (if dupK (samB T len) s.1 q = true then 2 else if 12 ≤ s.1.length then 4 else 0) (posT T len q) = _
      rw [ee] at z ⊢
      exact (noteC_z hE).2 z
  · have e0 : nwJ s true = s.1.length + 1 := rfl
    have h0 : P.1 0 = nI (s.1.length + 1) := h0
    have h12 : s.1.length + 1 ≤ 12 := h12
    have hy := h36 hq
    have ee : edE 3 (s.1.length + 1) P nl y = (if tkN T len q < 1 ∨ 999 < tkN T len q then 5 else 0) := by
      rw [rng_i, ← hy]; rfl
    refine ⟨by omega, fun _ => by omega, fun z => ⟨false, hg, ?_⟩, fun z => ?_⟩
    · rw [e0] at z ⊢
      rw [ee] at z
      have eP : edP 3 (s.1.length + 1) P nl y = a_up P 2 (upd (P.2 2) s.1.length (tkN T len q)) := by rw [← hy]; rfl
      have last : (s.1 ++ [(s.2.1, tkN T len q)]).getD s.1.length (0, 0) = (s.2.1, tkN T len q) :=
        (getD_app2 (a := s.1) (c := [(s.2.1, tkN T len q)]) (d := (0, 0)) (i := 0)).trans rfl
      rw [eP]
      refine ⟨?_, ?_, fun i hi => ?_, fun z => absurd z Bool.false_ne_true, hw, h4, h16, ?_⟩
      · show P.1 0 = nI ((s.1 ++ [(s.2.1, tkN T len q)]).length + 0); rw [List.length_append, List.length_singleton]; exact h0
      · show (s.1 ++ [(s.2.1, tkN T len q)]).length + 0 ≤ 12; rw [List.length_append, List.length_singleton]; omega
      · have hi : i < (s.1 ++ [(s.2.1, tkN T len q)]).length := hi
        rw [List.length_append, List.length_singleton] at hi
        show nl i = hW T len ((s.1 ++ [(s.2.1, tkN T len q)]).getD i (0, 0)).1 ∧ (if i = s.1.length then tkN T len q else P.2 2 i) = ((s.1 ++ [(s.2.1, tkN T len q)]).getD i (0, 0)).2 ∧ scG T len ((s.1 ++ [(s.2.1, tkN T len q)]).getD i (0, 0)).1 = 35
        by_cases c : i = s.1.length
        · subst c; rw [if_pos rfl, last]; exact ⟨(hp rfl).1, rfl, (hp rfl).2⟩
        · rw [if_neg c, getD_app1 (by omega)]; exact hL i (by omega)
      · show (noteC s.2.2.2.2 _ _).1 = 0
        rw [(noteC_z hE).1]; exact z
    · rw [e0] at z ⊢
      show noteC s.2.2.2.2 (if tkN T len q < 1 ∨ 999 < tkN T len q then 5 else 0) (posT T len q) = _
      rw [ee] at z ⊢
      exact (noteC_z hE).2 z
  · have e0 : nwJ s false = s.1.length := rfl
    have e16 : (P.1 4 + 1).toInt = s.2.2.2.1 + 1 := by rw [h4, nI_1]; exact i_n (by omega)
    have ee : edE 2 s.1.length P nl y = (if 16 ≤ s.2.2.2.1 then 4 else 0) := by
      show (if P.1 4 + 1 ≤ 16 then (0 : Int32) else 4) = _
      by_cases c : 16 ≤ s.2.2.2.1
      · rw [if_pos c, if_neg (by rw [i_le, e16, i_16]; omega)]
      · rw [if_neg c, if_pos (by rw [i_le, e16, i_16]; omega)]
    refine ⟨by omega, fun z => absurd z (by omega), fun z => ⟨false, hg, ?_⟩, fun z => ?_⟩
    · rw [e0] at z ⊢
      rw [ee] at z
      have hlt : s.2.2.2.1 < 16 := by
        by_cases c : 16 ≤ s.2.2.2.1
        · rw [if_pos c] at z; exact absurd z (by decide)
        · omega
      refine ⟨h0, h12, hL, fun z => absurd z Bool.false_ne_true, hw, ?_, by show s.2.2.2.1 + 1 ≤ 16; omega, ?_⟩
      · show P.1 4 + 1 = nI (s.2.2.2.1 + 1); rw [h4]; exact nI_1 _
      · show (noteC s.2.2.2.2 _ _).1 = 0
        rw [(noteC_z hE).1]; exact z
    · rw [e0] at z ⊢
      show noteC s.2.2.2.2 (if 16 ≤ s.2.2.2.1 then 4 else 0) (posT T len q) = _
      rw [ee] at z ⊢
      exact (noteC_z hE).2 z
  · have e0 : nwJ s false = s.1.length := rfl
    have hy := h36 hq
    have eS : chX T len s (q, m) = (s.1, s.2.1, upd s.2.2.1 (m - 4) (tkN T len q), s.2.2.2.1, noteC s.2.2.2.2 (if tkN T len q < 0 ∨ 9 < tkN T len q then 5 else 0) (posT T len q)) := by
      have : m = 4 ∨ m = 5 ∨ m = 6 := by omega
      rcases this with rfl | rfl | rfl <;> rfl
    have eE : edE m s.1.length P nl y = (if 0 ≤ y.toInt32 ∧ y.toInt32 ≤ 9 then 0 else 5) := by
      unfold edE
      rw [if_neg (by omega), if_neg (by omega), if_neg (by omega), if_neg (by omega)]
    have eP : edP m s.1.length P nl y = a_up P 3 (upd (P.2 3) (m - 4) (tkN T len q)) := by
      unfold edP
      rw [if_neg (by omega), if_neg (by omega), if_neg (by omega), if_neg (by omega), hy]
    have eL : edL m s.1.length nl y = nl := if_neg (by omega)
    have ee : edE m s.1.length P nl y = (if tkN T len q < 0 ∨ 9 < tkN T len q then 5 else 0) := by
      rw [eE, rng_i, ← hy]
    refine ⟨m6, fun z => absurd z (by omega), fun z => ⟨false, hg, ?_⟩, fun z => ?_⟩
    · rw [e0] at z ⊢
      rw [ee] at z
      rw [eS, eP, eL]
      refine ⟨h0, h12, hL, fun z => absurd z Bool.false_ne_true, fun i hi => ?_, h4, h16, ?_⟩
      · show upd (P.2 3) (m - 4) (tkN T len q) i = upd s.2.2.1 (m - 4) (tkN T len q) i
        simp only [upd]
        split
        · rfl
        · exact hw i hi
      · show (noteC s.2.2.2.2 _ _).1 = 0
        rw [(noteC_z hE).1]; exact z
    · rw [e0] at z ⊢
      rw [eS]
      show noteC s.2.2.2.2 (if tkN T len q < 0 ∨ 9 < tkN T len q then 5 else 0) (posT T len q) = _
      rw [ee] at z ⊢
      exact (noteC_z hE).2 z
/-- token i of them -/
theorem plJ_i {s : Told} {p : Bool} {y : Int64} {c : Nat} (h : plJ T len s p P nl) (hr : srT i c rest) (hic : i < c) (hg : grm (scG T len) p rest) (h36 : scG T len i = 36 → y.toInt32 = tkN T len i) (h35 : scG T len i = 35 → y = hW T len i) : lkp i rest ≤ 6 ∧ (lkp i rest = 3 → 1 ≤ nwJ s p) ∧ (edE (lkp i rest) (nwJ s p) P nl y = 0 → ∃ s' p' rest', srT (i + 1) c rest' ∧ grm (scG T len) p' rest' ∧ plJ T len s' p' (edP (lkp i rest) (nwJ s p) P nl y) (edL (lkp i rest) (nwJ s p) nl y) ∧ rest.foldl (chX T len) s = rest'.foldl (chX T len) s' ∧ ∀ q, i + 1 ≤ q → lkp q rest = lkp q rest') ∧ (¬ edE (lkp i rest) (nwJ s p) P nl y = 0 → (rest.foldl (chX T len) s).2.2.2.2 = (edE (lkp i rest) (nwJ s p) P nl y, posT T len i)) := by
  cases rest with
  | nil =>
    refine ⟨by show 0 ≤ 6; omega, fun z => absurd (show (0 : Nat) = 3 from z) (by decide), fun _ => ⟨s, p, [], ?_, hg, h, rfl, fun _ _ => rfl⟩, fun z => absurd (show edE 0 _ _ _ _ = 0 from rfl) z⟩
    show i + 1 ≤ c
    omega
  | cons w r =>
    obtain ⟨a, m⟩ := w
    by_cases ha : a = i
    · subst ha
      have e : lkp a ((a, m) :: r) = m := if_pos rfl
      rw [e]
      obtain ⟨x1, x2, x3, x4⟩ := plJ_step h hg h36 h35
      refine ⟨x1, x2, fun z => ?_, fun z => ?_⟩
      · obtain ⟨p', y1, y2⟩ := x3 z
        exact ⟨_, p', r, hr.2, y1, y2, rfl, fun q hq => if_neg (by omega)⟩
      · have x := x4 z
        show (r.foldl (chX T len) (chX T len s (a, m))).2.2.2.2 = _
        rw [chk_errs _ _ _ r (by rw [x]; exact z), x]
    · have e : lkp i ((a, m) :: r) = 0 := by
        show (if a = i then m else lkp i r) = 0
        have := hr.1
        rw [if_neg ha]
        exact lkp_0 hr.2 (by omega)
      rw [e]
      refine ⟨by omega, fun z => absurd z (by decide), fun _ => ⟨s, p, (a, m) :: r, ⟨by have := hr.1; omega, hr.2⟩, hg, h, rfl, fun _ _ => rfl⟩, fun z => absurd (show edE 0 _ _ _ _ = 0 from rfl) z⟩
theorem plJ_e {p : Bool} {c : Nat} (hr : srT c c rest) (hg : grm (scG T len) p rest) : rest = [] ∧ p = false := by
  cases rest with
  | nil => exact ⟨rfl, hg⟩
  | cons w r => have := hr.1; have := hr.2.le; omega
theorem plJ_0 (h0 : P.1 0 = 0) (h4 : P.1 4 = 0) (w0 : P.2 3 0 = 2) (w1 : P.2 3 1 = 1) (w2 : P.2 3 2 = 2) : plJ T len told0 false P nl := by
  refine ⟨h0, by show 0 + 0 ≤ 12; omega, fun i hi => absurd hi (Nat.not_lt_zero i), fun z => absurd z Bool.false_ne_true, fun i hi => ?_, h4, by show 0 ≤ 16; omega, rfl⟩
  have : i = 0 ∨ i = 1 ∨ i = 2 := by omega
  rcases this with rfl | rfl | rfl
  · exact w0
  · exact w1
  · exact w2
theorem emP_f : ∀ (em : List (Int32 × Int32)) {P : xS} {m : Nat}, P.1 10 = nI m → m + em.length < 2 ^ 31 → (∀ q, ¬ q = 10 → (emP P em).1 q = P.1 q) ∧ (∀ r, ¬ r = 7 → ¬ r = 8 → (emP P em).2 r = P.2 r) ∧ (∀ p, p < m → (emP P em).2 7 p = P.2 7 p ∧ (emP P em).2 8 p = P.2 8 p) ∧ ∀ j, j < em.length → (emP P em).2 7 (m + j) = trO (em.getD j (0, 0)).1 (em.getD j (0, 0)).2 ∧ (emP P em).2 8 (m + j) = trW (em.getD j (0, 0)).1 (em.getD j (0, 0)).2 := by
  intro em
  induction em with
  | nil => intro P m _ _; exact ⟨fun _ _ => rfl, fun _ _ _ => rfl, fun _ _ => ⟨rfl, rfl⟩, fun j hj => absurd hj (Nat.not_lt_zero j)⟩
  | cons x em ih =>
    intro P m h hl
    simp only [List.length_cons] at hl
    have c : (P.1 10).toNatClampNeg = m := by rw [h]; exact nI_clamp (by omega)
    have h' : (putE P x).1 10 = nI (m + 1) := by show P.1 10 + 1 = _; rw [h]; exact nI_1 m
    obtain ⟨k1, k2, k3, k4⟩ := ih h' (by omega)
    have e7 : (putE P x).2 7 = upd (P.2 7) m (trO x.1 x.2) := by
      show upd (P.2 7) (P.1 10).toNatClampNeg _ = _
      rw [c]
    have e8 : (putE P x).2 8 = upd (P.2 8) m (trW x.1 x.2) := by
      show upd (P.2 8) (P.1 10).toNatClampNeg _ = _
      rw [c]
    refine ⟨fun q hq => (k1 q hq).trans ?_, fun r h7 h8 => (k2 r h7 h8).trans ?_, fun p hp => ?_, fun j hj => ?_⟩
    · show va_up P.1 10 _ q = _
      simp only [va_up]; rw [if_neg hq]
    · show va_up (va_up P.2 7 _) 8 _ r = _
      simp only [va_up]; rw [if_neg h8, if_neg h7]
    · have := k3 p (by omega)
      rw [e7, e8] at this
      simp only [upd] at this
      rw [if_neg (by omega), if_neg (by omega)] at this
      exact this
    · cases j with
      | zero =>
        have := k3 m (by omega)
        rw [e7, e8] at this
        simp only [upd, if_true] at this
        exact this
      | succ j =>
        simp only [List.length_cons] at hj
        have := k4 j (by omega)
        rw [show m + (j + 1) = m + 1 + j by omega]
        exact this
/-- the rules rs in a Plan -/
theorem rsP_i : ∀ (rs : RuL) {P : xS} {rr m : Nat}, P.1 10 = nI m → m + (flatR rs).length < 2 ^ 31 → rr + rs.length ≤ 16 → (∀ q, ¬ q = 10 → (rsP P rr rs).1 q = P.1 q) ∧ (∀ r, r < 4 → (rsP P rr rs).2 r = P.2 r) ∧ (∀ p, p < m → (rsP P rr rs).2 7 p = P.2 7 p ∧ (rsP P rr rs).2 8 p = P.2 8 p) ∧ (∀ j, j < (flatR rs).length → (rsP P rr rs).2 7 (m + j) = trO ((flatR rs).getD j (0, 0)).1 ((flatR rs).getD j (0, 0)).2 ∧ (rsP P rr rs).2 8 (m + j) = trW ((flatR rs).getD j (0, 0)).1 ((flatR rs).getD j (0, 0)).2) ∧ (∀ i, i < rr → (rsP P rr rs).2 4 i = P.2 4 i ∧ (rsP P rr rs).2 5 i = P.2 5 i ∧ (rsP P rr rs).2 6 i = P.2 6 i) ∧ (∀ i, i < rs.length → (rsP P rr rs).2 4 (rr + i) = (rs.getD i (0, [])).1 ∧ (rsP P rr rs).2 5 (rr + i) = nI (m + (flatR (rs.take i)).length) ∧ (rsP P rr rs).2 6 (rr + i) = nI (m + (flatR (rs.take (i + 1))).length)) := by
  intro rs
  induction rs with
  | nil => intro P rr m _ _ _; exact ⟨fun _ _ => rfl, fun _ _ => rfl, fun _ _ => ⟨rfl, rfl⟩, fun j hj => absurd hj (Nat.not_lt_zero j), fun _ _ => ⟨rfl, rfl, rfl⟩, fun j hj => absurd hj (Nat.not_lt_zero j)⟩
  | cons x rs ih =>
    intro P rr m h hl h16
    obtain ⟨oc, em⟩ := x
    simp only [List.length_cons] at h16
    have ef : flatR ((oc, em) :: rs) = em ++ flatR rs := rfl
    rw [ef, List.length_append] at hl
    have e15 : min 15 rr = rr := by omega
    obtain ⟨P1, hP1⟩ : ∃ P1, P1 = a_up (a_up P 4 (upd (P.2 4) rr oc)) 5 (upd (P.2 5) rr (P.1 10)) := ⟨_, rfl⟩
    have h1 : P1.1 10 = nI m := by rw [hP1]; exact h
    obtain ⟨f1, f2, f3, f4⟩ := emP_f em h1 (by omega)
    have f5 := emP_10 em P1 h1
    have hR : ruP P (min 15 rr) oc em = a_up (emP P1 em) 6 (upd ((emP P1 em).2 6) rr ((emP P1 em).1 10)) := by rw [e15, hP1]; rfl
    obtain ⟨R, hRR⟩ : ∃ R, R = ruP P (min 15 rr) oc em := ⟨_, rfl⟩
    have h10 : R.1 10 = nI (m + em.length) := by rw [hRR, hR]; exact f5
    obtain ⟨k1, k2, k3, k4, k5, k6⟩ := ih (P := R) (rr := rr + 1) h10 (by omega) (by omega)
    have eR : rsP P rr ((oc, em) :: rs) = rsP R (rr + 1) rs := by rw [hRR]; rfl
    rw [eR, ef]
    have r7 : R.2 7 = (emP P1 em).2 7 := by rw [hRR, hR]; rfl
    have r8 : R.2 8 = (emP P1 em).2 8 := by rw [hRR, hR]; rfl
    have r4 : R.2 4 = upd (P.2 4) rr oc := by
      rw [hRR, hR]
      show (emP P1 em).2 4 = _
      rw [f2 4 (by decide) (by decide), hP1]; rfl
    have r5 : R.2 5 = upd (P.2 5) rr (nI m) := by
      rw [hRR, hR]
      show (emP P1 em).2 5 = _
      rw [f2 5 (by decide) (by decide), hP1, ← h]; rfl
    have r6 : R.2 6 = upd (P.2 6) rr (nI (m + em.length)) := by
      rw [hRR, hR]
      show upd ((emP P1 em).2 6) rr ((emP P1 em).1 10) = _
      rw [f2 6 (by decide) (by decide), f5, hP1]; rfl
    refine ⟨fun q hq => (k1 q hq).trans ?_, fun r hr => (k2 r hr).trans ?_, fun p hp => ?_, fun j hj => ?_, fun i hi => ?_, fun i hi => ?_⟩
    · rw [hRR, hR]; show (emP P1 em).1 q = _; rw [f1 q hq, hP1]
    · rw [hRR, hR]
      show va_up (emP P1 em).2 6 _ r = _
      simp only [va_up]
      rw [if_neg (by omega), f2 r (by omega) (by omega), hP1]
      show va_up (va_up P.2 4 _) 5 _ r = _
      simp only [va_up]
      rw [if_neg (by omega), if_neg (by omega)]
    · obtain ⟨a1, a2⟩ := k3 p (by omega)
      obtain ⟨b1, b2⟩ := f3 p hp
      rw [a1, a2, r7, r8, b1, b2, hP1]
      exact ⟨rfl, rfl⟩
    · rw [List.length_append] at hj
      by_cases c : j < em.length
      · obtain ⟨a1, a2⟩ := k3 (m + j) (by omega)
        rw [a1, a2, r7, r8, getD_app1 c]
        exact f4 j c
      · have := k4 (j - em.length) (by omega)
        rw [show m + em.length + (j - em.length) = m + j by omega] at this
        have e : (em ++ flatR rs).getD j (0, 0) = (flatR rs).getD (j - em.length) (0, 0) := by
          conv => lhs; rw [show j = em.length + (j - em.length) by omega]
          exact getD_app2
        rw [e]; exact this
    · obtain ⟨a1, a2, a3⟩ := k5 i (by omega)
      rw [a1, a2, a3, r4, r5, r6]
      simp only [upd]
      rw [if_neg (by omega), if_neg (by omega), if_neg (by omega)]
      exact ⟨rfl, rfl, rfl⟩
    · cases i with
      | zero =>
        obtain ⟨a1, a2, a3⟩ := k5 rr (by omega)
        rw [show rr + 0 = rr from rfl, a1, a2, a3, r4, r5, r6]
        simp only [upd, if_true]
        refine ⟨rfl, rfl, ?_⟩
        show _ = nI (m + (flatR [(oc, em)]).length)
        rw [show flatR [(oc, em)] = em by simp [flatR]]
      | succ i =>
        simp only [List.length_cons] at hi
        obtain ⟨a1, a2, a3⟩ := k6 i (by omega)
        rw [show rr + (i + 1) = rr + 1 + i by omega, a1, a2, a3]
        have t1 : (flatR (((oc, em) :: rs).take (i + 1))).length = em.length + (flatR (rs.take i)).length := by
          rw [List.take_succ_cons]
          show (em ++ flatR (rs.take i)).length = _
          rw [List.length_append]
        have t2 : (flatR (((oc, em) :: rs).take (i + 1 + 1))).length = em.length + (flatR (rs.take (i + 1))).length := by
          rw [List.take_succ_cons]
          show (em ++ flatR (rs.take (i + 1))).length = _
          rw [List.length_append]
        rw [t1, t2]
        exact ⟨rfl, by rw [Nat.add_assoc], by rw [Nat.add_assoc]⟩
theorem emP_g : ∀ (em : List (Int32 × Int32)) {P : xS}, (∀ q, ¬ q = 10 → (emP P em).1 q = P.1 q) ∧ (∀ r, ¬ r = 7 → ¬ r = 8 → (emP P em).2 r = P.2 r) := by
  intro em
  induction em with
  | nil => intro P; exact ⟨fun _ _ => rfl, fun _ _ _ => rfl⟩
  | cons x em ih =>
    intro P
    obtain ⟨k1, k2⟩ := ih (P := putE P x)
    refine ⟨fun q hq => (k1 q hq).trans ?_, fun r h7 h8 => (k2 r h7 h8).trans ?_⟩
    · show va_up P.1 10 _ q = _
      simp only [va_up]; rw [if_neg hq]
    · show va_up (va_up P.2 7 _) 8 _ r = _
      simp only [va_up]; rw [if_neg h8, if_neg h7]
theorem rsP_g : ∀ (rs : RuL) {P : xS} {rr : Nat}, (∀ q, ¬ q = 10 → (rsP P rr rs).1 q = P.1 q) ∧ (∀ r, r < 4 → (rsP P rr rs).2 r = P.2 r) := by
  intro rs
  induction rs with
  | nil => intro P rr; exact ⟨fun _ _ => rfl, fun _ _ => rfl⟩
  | cons x rs ih =>
    intro P rr
    obtain ⟨k1, k2⟩ := ih (P := ruP P (min 15 rr) x.1 x.2) (rr := rr + 1)
    obtain ⟨f1, f2⟩ := emP_g x.2 (P := a_up (a_up P 4 (upd (P.2 4) (min 15 rr) x.1)) 5 (upd (P.2 5) (min 15 rr) (P.1 10)))
    refine ⟨fun q hq => (k1 q hq).trans (f1 q hq), fun r hr => (k2 r hr).trans ?_⟩
    show va_up (emP _ x.2).2 6 _ r = _
    simp only [va_up]
    rw [if_neg (by omega), f2 r (by omega) (by omega)]
    show va_up (va_up P.2 4 _) 5 _ r = _
    simp only [va_up]
    rw [if_neg (by omega), if_neg (by omega)]
end XPL
