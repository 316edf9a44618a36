/-! SETS as numbers, and the fewest rematches of a set -/
section XSE
/-- one element less -/
def clr (s b : Nat) : Nat := s &&& (s ^^^ 2 ^ b)
theorem clr_t (s b j : Nat) : (clr s b).testBit j = (s.testBit j && !decide (j = b)) := by
  unfold clr
  rw [Nat.testBit_and, Nat.testBit_xor, Nat.testBit_two_pow]
  by_cases h : b = j
  · subst h; simp
  · have h2 : ¬ j = b := fun z => h z.symm
    simp [h, h2]
theorem clr_le (s b : Nat) : clr s b ≤ s := Nat.and_le_left
theorem sh1 : ∀ l, l < 31 → ((1 : Int32) <<< (nI l &&& 31)).toBitVec = BitVec.twoPow 32 l := by decide +kernel
theorem and1 (m : Nat) : nI m &&& 1 = nI (m % 2) := by
  apply Int32.toBitVec_inj.mp
  rw [Int32.toBitVec_and]
  show BitVec.ofNat 32 m &&& 1#32 = BitVec.ofNat 32 (m % 2)
  apply BitVec.eq_of_toNat_eq
  simp only [BitVec.toNat_and, BitVec.toNat_ofNat]
  have e : 1 % 2 ^ 32 = 1 := rfl
  rw [e, Nat.and_one_is_mod]
  omega
theorem i_toBV (n : Nat) : (nI n).toBitVec = BitVec.ofNat 32 n := rfl
theorem is_clr {s b : Nat} (hb : b < 31) : nI s &&& (((1 : Int32) <<< (nI b &&& 31)) ^^^ (-1)) = nI (clr s b) := by
  apply Int32.toBitVec_inj.mp
  rw [Int32.toBitVec_and, Int32.toBitVec_xor, sh1 b hb, i_toBV, i_toBV]
  apply BitVec.eq_of_getLsbD_eq
  intro i hi
  have e : (-1 : Int32).toBitVec = BitVec.allOnes 32 := rfl
  rw [e]
  simp only [BitVec.getLsbD_and, BitVec.getLsbD_xor, BitVec.getLsbD_twoPow, BitVec.getLsbD_allOnes, BitVec.getLsbD_ofNat, clr_t]
  by_cases h : i = b
  · subst h; simp [hi]
  · have h2 : ¬ b = i := fun z => h z.symm
    simp [h, h2, hi]
theorem is_or {s b : Nat} (hb : b < 31) : nI s ||| ((1 : Int32) <<< (nI b &&& 31)) = nI (s ||| 2 ^ b) := by
  apply Int32.toBitVec_inj.mp
  rw [Int32.toBitVec_or, sh1 b hb, i_toBV, i_toBV]
  apply BitVec.eq_of_getLsbD_eq
  intro i hi
  simp only [BitVec.getLsbD_or, BitVec.getLsbD_twoPow, BitVec.getLsbD_ofNat, Nat.testBit_or, Nat.testBit_two_pow]
  have h32 : b < 32 := by omega
  simp [hi, h32]
theorem is_one {b : Nat} (hb : b < 31) : (1 : Int32) <<< (nI b &&& 31) = nI (2 ^ b) := by
  have h := @is_or 0 b hb
  have e : nI 0 ||| ((1 : Int32) <<< (nI b &&& 31)) = (1 : Int32) <<< (nI b &&& 31) := by
    apply Int32.toBitVec_inj.mp
    rw [Int32.toBitVec_or]
    show 0#32 ||| _ = _
    simp
  rw [e] at h
  rw [h]
  simp
theorem is_sh : ∀ b, b < 31 → ((nI b &&& 31).toBitVec.smod 32).toNat = b := by decide +kernel
theorem is_has {s b : Nat} (hs : s < 2 ^ 31) (hb : b < 31) : (nI s >>> (nI b &&& 31)) &&& 1 = 0 ↔ s.testBit b = false := by
  rw [pk_shrN hs _ b (is_sh b hb), and1, Nat.testBit_eq_decide_div_mod_eq, i_eq, i_n (by omega), i_0]
  simp only [decide_eq_false_iff_not]
  omega
/-- how many are in the set, of those below k -/
def pcn (s : Nat) : Nat → Nat
  | 0 => 0
  | k + 1 => pcn s k + (if s.testBit k = true then 1 else 0)
theorem pcn_clr_out {s a : Nat} : ∀ k, k ≤ a → pcn (clr s a) k = pcn s k := by
  intro k
  induction k with
  | zero => intro _; rfl
  | succ k ih =>
    intro h
    simp only [pcn]
    rw [ih (by omega), clr_t]
    have : ¬ k = a := by omega
    simp [this]
theorem pcn_clr {s a : Nat} (ha : s.testBit a = true) : ∀ k, a < k → pcn (clr s a) k + 1 = pcn s k := by
  intro k
  induction k with
  | zero => intro h; omega
  | succ k ih =>
    intro h
    simp only [pcn]
    by_cases hk : a = k
    · subst hk
      rw [pcn_clr_out a (Nat.le_refl _), clr_t, ha]
      simp
    · rw [clr_t]
      have h2 : ¬ k = a := fun z => hk z.symm
      have := ih (by omega)
      simp only [h2, decide_false, Bool.not_false, Bool.and_true]
      omega
theorem pcn_pos {s : Nat} : ∀ k, 0 < pcn s k → ∃ b, b < k ∧ s.testBit b = true := by
  intro k
  induction k with
  | zero => intro h; simp [pcn] at h
  | succ k ih =>
    intro h
    simp only [pcn] at h
    by_cases hb : s.testBit k = true
    · exact ⟨k, by omega, hb⟩
    · rw [if_neg hb] at h
      obtain ⟨b, h1, h2⟩ := ih (by omega)
      exact ⟨b, by omega, h2⟩
theorem pcn_0 {s : Nat} : ∀ k, pcn s k = 0 → ∀ b, b < k → s.testBit b = false := by
  intro k
  induction k with
  | zero => intro _ b hb; omega
  | succ k ih =>
    intro h b hb
    simp only [pcn] at h
    have h1 : pcn s k = 0 := by omega
    have h2 : ¬ s.testBit k = true := fun z => by rw [if_pos z] at h; omega
    by_cases hbk : b = k
    · subst hbk; simpa using h2
    · exact ih h1 b (by omega)
theorem tb_lt {s b k : Nat} (hs : s < 2 ^ k) (h : s.testBit b = true) : b < k := by
  by_cases hb : b < k
  · exact hb
  · have := Nat.testBit_lt_two_pow (x := s) (i := b) (Nat.lt_of_lt_of_le hs (Nat.pow_le_pow_right (by omega) (by omega)))
    rw [this] at h
    cases h
theorem pcn_zero {s k : Nat} (hs : s < 2 ^ k) (h : pcn s k = 0) : s = 0 := by
  apply Nat.eq_of_testBit_eq
  intro b
  rw [Nat.zero_testBit]
  by_cases hb : s.testBit b = true
  · exact absurd hb (by rw [pcn_0 k h b (tb_lt hs hb)]; decide)
  · simpa using hb
theorem pcn_z (k : Nat) : pcn 0 k = 0 := by
  induction k with
  | zero => rfl
  | succ k ih => simp [pcn, ih]
theorem pcn_wide {s k : Nat} (hs : s < 2 ^ k) : ∀ d, pcn s (k + d) = pcn s k := by
  intro d
  induction d with
  | zero => rfl
  | succ d ih =>
    show pcn s (k + d) + (if s.testBit (k + d) = true then 1 else 0) = _
    have : ¬ s.testBit (k + d) = true := fun z => by have := tb_lt hs z; omega
    rw [ih, if_neg this]
    rfl
theorem pcn_full (m : Nat) : ∀ k, k ≤ m → pcn (2 ^ m - 1) k = k := by
  intro k
  induction k with
  | zero => intro _; rfl
  | succ k ih =>
    intro h
    simp only [pcn]
    rw [ih (by omega), Nat.testBit_two_pow_sub_one]
    simp
    omega
/-- the lowest element -/
def lowF (s : Nat) : Nat → Nat → Nat
  | 0, b => b
  | d + 1, b => if s.testBit b = true then b else lowF s d (b + 1)
def low (s : Nat) : Nat := lowF s 12 0
theorem lowF_spec {s : Nat} : ∀ d b, (∃ j, b ≤ j ∧ j < b + d ∧ s.testBit j = true) → s.testBit (lowF s d b) = true ∧ b ≤ lowF s d b ∧ lowF s d b < b + d ∧ ∀ j, b ≤ j → j < lowF s d b → s.testBit j = false := by
  intro d
  induction d with
  | zero => intro b ⟨j, h1, h2, _⟩; omega
  | succ d ih =>
    intro b ⟨j, h1, h2, h3⟩
    simp only [lowF]
    by_cases hb : s.testBit b = true
    · rw [if_pos hb]
      exact ⟨hb, Nat.le_refl _, by omega, fun j h1 h2 => by omega⟩
    · rw [if_neg hb]
      have hne : j ≠ b := fun z => hb (z ▸ h3)
      obtain ⟨g1, g2, g3, g4⟩ := ih (b + 1) ⟨j, by omega, by omega, h3⟩
      refine ⟨g1, by omega, by omega, fun q q1 q2 => ?_⟩
      by_cases hq : q = b
      · subst hq; simpa using hb
      · exact g4 q (by omega) q2
theorem low_spec {s k : Nat} (hs : s < 2 ^ k) (hk : k ≤ 12) (h0 : s ≠ 0) : s.testBit (low s) = true ∧ low s < k ∧ ∀ j, j < low s → s.testBit j = false := by
  have hp : 0 < pcn s k := Nat.pos_of_ne_zero fun z => h0 (pcn_zero hs z)
  obtain ⟨j, h1, h2⟩ := pcn_pos k hp
  obtain ⟨g1, g2, g3, g4⟩ := lowF_spec (s := s) 12 0 ⟨j, by omega, by omega, h2⟩
  exact ⟨g1, tb_lt hs g1, fun j hj => g4 j (by omega) hj⟩
/-- the least of acc and the g b, b from b on, d of them, those of which t holds -/
def mnv (t : Nat → Bool) (g : Nat → Nat) : Nat → Nat → Nat → Nat
  | 0, _, acc => acc
  | d + 1, b, acc => mnv t g d (b + 1) (if t b = true then (if g b < acc then g b else acc) else acc)
theorem mnv_le {t : Nat → Bool} {g : Nat → Nat} : ∀ d b acc, mnv t g d b acc ≤ acc := by
  intro d
  induction d with
  | zero => intro b acc; exact Nat.le_refl _
  | succ d ih =>
    intro b acc
    refine Nat.le_trans (ih _ _) ?_
    split
    · split <;> omega
    · exact Nat.le_refl _
theorem mnv_mono {t : Nat → Bool} {g : Nat → Nat} : ∀ d b acc acc', acc ≤ acc' → mnv t g d b acc = min acc (mnv t g d b acc') := by
  intro d
  induction d with
  | zero => intro b acc acc' h; show acc = min acc acc'; omega
  | succ d ih =>
    intro b acc acc' h
    simp only [mnv]
    by_cases ht : t b = true
    · rw [if_pos ht, if_pos ht]
      rw [ih (b + 1) (if g b < acc then g b else acc) (if g b < acc' then g b else acc') (by (repeat' split) <;> omega)]
      have := @mnv_le t g d (b + 1) (if g b < acc' then g b else acc')
      revert this
      (repeat' split) <;> omega
    · rw [if_neg ht, if_neg ht]
      exact ih (b + 1) acc acc' h
theorem mnv_in {t : Nat → Bool} {g : Nat → Nat} : ∀ d b acc j, b ≤ j → j < b + d → t j = true → mnv t g d b acc ≤ g j := by
  intro d
  induction d with
  | zero => intro b acc j h1 h2; omega
  | succ d ih =>
    intro b acc j h1 h2 ht
    simp only [mnv]
    by_cases hj : j = b
    · subst hj
      rw [if_pos ht]
      refine Nat.le_trans (mnv_le _ _ _) ?_
      split <;> omega
    · exact ih _ _ j (by omega) (by omega) ht
/-- the fewest rematches of all ways to pair the set s, p pairs; met: who of the k have met -/
def mr (met : Nat → Nat → Bool) (k : Nat) : Nat → Nat → Nat
  | 0, _ => 0
  | p + 1, s => mnv (fun b => (clr s (low s)).testBit b) (fun b => mr met k p (clr (clr s (low s)) b) + (if met (low s) b = true then 1 else 0)) (k - (low s + 1)) (low s + 1) 99
/-- with whom the lowest one may be paired -/
theorem ev_step {k s p : Nat} (hk : k ≤ 12) (hs : s < 2 ^ k) (hp : pcn s 12 = 2 * (p + 1)) : s ≠ 0 ∧ s.testBit (low s) = true ∧ low s < k ∧ (∃ b, low s < b ∧ b < k ∧ (clr s (low s)).testBit b = true) ∧ ∀ b, (clr s (low s)).testBit b = true → low s < b ∧ b < k ∧ clr (clr s (low s)) b < 2 ^ k ∧ clr (clr s (low s)) b < s ∧ pcn (clr (clr s (low s)) b) 12 = 2 * p := by
  have h0 : s ≠ 0 := fun z => by rw [z, pcn_z] at hp; omega
  obtain ⟨h1, h2, h3⟩ := low_spec hs hk h0
  have hc := pcn_clr h1 12 (by omega)
  have hin : ∀ b, (clr s (low s)).testBit b = true → low s < b ∧ b < k ∧ clr (clr s (low s)) b < 2 ^ k ∧ clr (clr s (low s)) b < s ∧ pcn (clr (clr s (low s)) b) 12 = 2 * p := by
    intro b hb
    have hb2 := hb
    rw [clr_t] at hb2
    simp only [Bool.and_eq_true, Bool.not_eq_true', decide_eq_false_iff_not] at hb2
    have hlt : low s < b := by
      rcases Nat.lt_trichotomy b (low s) with h | h | h
      · rw [h3 b h] at hb2; cases hb2.1
      · exact absurd h hb2.2
      · exact h
    have hbk := tb_lt hs hb2.1
    have hc2 := pcn_clr hb 12 (by omega)
    have hle := clr_le (clr s (low s)) b
    have hle2 := clr_le s (low s)
    have hpow : 2 ^ k ≤ 2 ^ k := Nat.le_refl _
    refine ⟨hlt, hbk, by omega, ?_, by omega⟩
    rcases Nat.lt_or_ge (clr (clr s (low s)) b) s with h | h
    · exact h
    · have e : clr (clr s (low s)) b = s := by omega
      rw [e] at hc2
      omega
  obtain ⟨b, hb1, hb2⟩ := pcn_pos (s := clr s (low s)) 12 (by omega)
  obtain ⟨g1, g2, -⟩ := hin b hb2
  exact ⟨h0, h1, h2, ⟨b, g1, g2, hb2⟩, hin⟩
theorem mr_le {met : Nat → Nat → Bool} {k : Nat} (hk : k ≤ 12) : ∀ p s, s < 2 ^ k → pcn s 12 = 2 * p → mr met k p s ≤ p := by
  intro p
  induction p with
  | zero => intro s _ _; exact Nat.le_refl _
  | succ p ih =>
    intro s hs hp
    obtain ⟨h0, h1, h2, ⟨b, b1, b2, b3⟩, h4⟩ := ev_step hk hs hp
    obtain ⟨g1, g2, g3, -, g4⟩ := h4 b b3
    have := ih _ g3 g4
    have hm := mnv_in (t := fun b => (clr s (low s)).testBit b) (g := fun b => mr met k p (clr (clr s (low s)) b) + (if met (low s) b = true then 1 else 0)) (k - (low s + 1)) (low s + 1) 99 b (by omega) (by omega) b3
    show mnv _ _ _ _ _ ≤ _
    refine Nat.le_trans hm ?_
    show mr met k p _ + _ ≤ _
    split <;> omega
/-- the same, from p + 1 down -/
theorem mr_acc {met : Nat → Nat → Bool} {k : Nat} (hk : k ≤ 12) {p s : Nat} (hs : s < 2 ^ k) (hp : pcn s 12 = 2 * (p + 1)) (hp6 : p + 1 ≤ 99) : mnv (fun b => (clr s (low s)).testBit b) (fun b => mr met k p (clr (clr s (low s)) b) + (if met (low s) b = true then 1 else 0)) (k - (low s + 1)) (low s + 1) (p + 1) = mr met k (p + 1) s := by
  rw [mnv_mono _ _ (p + 1) 99 hp6]
  have := mr_le (met := met) hk (p + 1) s hs hp
  have e : mnv (fun b => (clr s (low s)).testBit b) (fun b => mr met k p (clr (clr s (low s)) b) + (if met (low s) b = true then 1 else 0)) (k - (low s + 1)) (low s + 1) 99 = mr met k (p + 1) s := rfl
  rw [e]
  omega
/-- numberOfTrailingZeros as the library reckons it -/
def ntz4 (n i : Int32) : Int32 := n + (i.toUInt32 >>> ((1 : Int32).toUInt32 &&& Int32.toUInt32 31)).toInt32
def ush (i k : Int32) : Int32 := (i.toUInt32 >>> (k.toUInt32 &&& Int32.toUInt32 31)).toInt32
def ntz3 (n i : Int32) : Int32 := if i ≤ 4 then ntz4 n i else ntz4 (n + 2) (ush i 2)
def ntz2 (n i : Int32) : Int32 := if i ≤ 16 then ntz3 n i else ntz3 (n + 4) (ush i 4)
def ntz1 (n i : Int32) : Int32 := if i ≤ 256 then ntz2 n i else ntz2 (n + 8) (ush i 8)
def ntz0 (n i : Int32) : Int32 := if i ≤ 65536 then ntz1 n i else ntz1 (n + 16) (ush i 16)
def ntz (x : Int32) : Int32 := if 0 < (x ^^^ (-1)) &&& (x - 1) then ntz0 1 ((x ^^^ (-1)) &&& (x - 1)) else ((x ^^^ (-1)) &&& (x - 1)) &&& 32
set_option maxRecDepth 100000 in
theorem ntz_low : ∀ s, s < 4096 → s ≠ 0 → ntz (nI s) = nI (low s) := by decide +kernel
end XSE
