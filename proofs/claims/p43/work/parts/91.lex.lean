/-! THE TEXT OF told, CUT INTO TOKENS: pieces -/
section XLX
variable {n : Nat} {k j i q s e t d p : Nat} {T : xS} {len : Nat} {Y Z : List Int32}
/-- the text Y stands at p -/
def stX (T : xS) (len p : Nat) (Y : List Int32) : Prop := p + Y.length ≤ len ∧ ∀ q, q < Y.length → bat T len (p + q) = Y.getD q 0
theorem stX.l (h : stX T len p (Y ++ Z)) : stX T len p Y := by
  obtain ⟨h1, h2⟩ := h
  rw [List.length_append] at h1 h2
  exact ⟨by omega, fun q hq => by rw [h2 q (by omega), getD_app1 hq]⟩
theorem stX.r (h : stX T len p (Y ++ Z)) : stX T len (p + Y.length) Z := by
  obtain ⟨h1, h2⟩ := h
  rw [List.length_append] at h1 h2
  exact ⟨by omega, fun q hq => by rw [Nat.add_assoc, h2 _ (by omega), getD_app2]⟩
abbrev isB (c : Int32) : Prop := c = 32 ∨ c = 10
/-- token i is looked for at p, or at blanks ahead of p -/
def lxS (T : xS) (len i p : Nat) : Prop := scA T len i ≤ p ∧ p ≤ len ∧ ∀ q, scA T len i ≤ q → q < p → isB (bat T len q)
theorem bbl_to (hp : p < len) (h3 : ¬ isB (bat T len p)) : ∀ m a, a + m = p → (∀ q, a ≤ q → q < p → isB (bat T len q)) → bbl T len (len - a) a = p := by
  intro m
  induction m with
  | zero =>
    intro a ha h2
    have e1 : a = p := by omega
    subst e1
    rw [bbl_s hp, if_neg h3]
  | succ m ih =>
    intro a ha h2
    rw [bbl_s (by omega), if_pos (h2 a (Nat.le_refl _) (by omega))]
    exact ih (a + 1) (by omega) (fun q h1 h4 => h2 q (by omega) h4)
theorem bbl_end : ∀ m a, a + m = len → (∀ q, a ≤ q → q < len → isB (bat T len q)) → bbl T len (len - a) a = len := by
  intro m
  induction m with
  | zero =>
    intro a ha h2
    have e1 : a = len := by omega
    subst e1
    rw [Nat.sub_self]; rfl
  | succ m ih =>
    intro a ha h2
    rw [bbl_s (by omega), if_pos (h2 a (Nat.le_refl _) (by omega))]
    exact ih (a + 1) (by omega) (fun q h1 h4 => h2 q (by omega) h4)
theorem lxS.tok {e : Nat} (h : lxS T len i p) (hp : p < len) (hb : ¬ isB (bat T len p)) (he : eotF T len p = e) (hel : e ≤ len) : scS T len i = p ∧ scE T len i = e ∧ lxS T len (i + 1) e := by
  obtain ⟨h1, h2, h3⟩ := h
  have e1 : scS T len i = p := bbl_to hp hb (p - scA T len i) _ (by omega) h3
  have e2 : scE T len i = e := by unfold scE; rw [e1]; exact he
  have e3 : scA T len (i + 1) = e := e2
  exact ⟨e1, e2, by omega, hel, fun q h4 h5 => by omega⟩
theorem lxS.fin (h : lxS T len i len) (hi : i < 401) : scG T len i = 37 := by
  obtain ⟨h1, h2, h3⟩ := h
  have e1 : scS T len i = len := bbl_end (len - scA T len i) _ (by omega) h3
  have e2 : ∀ e, sgF T len len e = 37 := fun e => by unfold sgF; rw [if_neg (Nat.lt_irrefl _)]
  unfold scG
  rw [e1, e2, if_neg (fun z => z.2 rfl)]
theorem lxS.bl {c : Int32} (h : lxS T len i p) (hc : isB c) (hb : bat T len p = c) (hp : p < len) : lxS T len i (p + 1) := by
  obtain ⟨h1, h2, h3⟩ := h
  refine ⟨by omega, by omega, fun q h4 h5 => ?_⟩
  by_cases z : q = p
  · subst z; rw [hb]; exact hc
  · exact h3 q h4 (by omega)
/-- what a token is: its kind; of a number what it tells, of a name of two bytes the second one -/
def tkX (T : xS) (len i : Nat) (c : Nat × Nat) : Prop := scG T len i = c.1 ∧ (c.1 = 36 → tkN T len i = nI c.2) ∧ (c.1 = 35 → scE T len i = scS T len i + 2 ∧ scE T len i ≤ len ∧ bat T len (scS T len i + 1) = nI (48 + c.2))
def lxQ (T : xS) (len i : Nat) (L : List (Nat × Nat)) : Prop := ∀ q, q < L.length → tkX T len (i + q) (L.getD q (0, 0))
theorem lxQ.app {L M : List (Nat × Nat)} (h1 : lxQ T len i L) (h2 : lxQ T len (i + L.length) M) : lxQ T len i (L ++ M) := fun q hq => by
  rw [List.length_append] at hq
  by_cases c : q < L.length
  · rw [getD_app1 c]; exact h1 q c
  · obtain ⟨q', rfl⟩ : ∃ q', q = L.length + q' := ⟨q - L.length, by omega⟩
    rw [getD_app2, ← Nat.add_assoc]; exact h2 q' (by omega)
theorem lxQ.one {c : Nat × Nat} (h : tkX T len i c) : lxQ T len i [c] := fun q hq => by
  have e1 : q = 0 := by have : q < 1 := hq; omega
  subst e1; exact h
/-- the text Y is these tokens, wherever it stands, if nx holds of the byte behind it -/
def LXs (nx : Int32 → Prop) (Y : List Int32) (L : List (Nat × Nat)) : Prop := ∀ (T : xS) (len i p : Nat), stX T len p Y → nx (bat T len (p + Y.length)) → lxS T len i p → i + L.length ≤ 400 → lxQ T len i L ∧ lxS T len (i + L.length) (p + Y.length)
section
variable {nx nx2 : Int32 → Prop} {L M : List (Nat × Nat)}
theorem LXs.app (h1 : LXs nx Y L) (h2 : LXs nx2 Z M) (hc : 0 < Z.length) (hn : nx (Z.getD 0 0)) : LXs nx2 (Y ++ Z) (L ++ M) := fun T len i p s n9 x h4 => by
  rw [List.length_append] at h4 n9
  have e0 := s.r.2 0 hc
  rw [Nat.add_zero] at e0
  obtain ⟨g1, g2⟩ := h1 T len i p s.l (by rw [e0]; exact hn) x (by omega)
  obtain ⟨g3, g4⟩ := h2 T len _ _ s.r (by rw [Nat.add_assoc]; exact n9) g2 (by omega)
  refine ⟨g1.app g3, ?_⟩
  rw [List.length_append, List.length_append, ← Nat.add_assoc, ← Nat.add_assoc]; exact g4
theorem LXs.wk (h : LXs nx Y L) (k : ∀ c, nx2 c → nx c) : LXs nx2 Y L := fun T len i p s n9 x h4 => h T len i p s (k _ n9) x h4
theorem LXs.nil : LXs nx [] [] := fun T len i p s n9 x h4 => ⟨fun q hq => absurd hq (Nat.not_lt_zero q), x⟩
theorem LXs.to (h : LXs nx Y L) (h1 : Y = Z) (h2 : L = M) : LXs nx Z M := by subst h1 h2; exact h
end
abbrev nxA : Int32 → Prop := fun _ => True
abbrev nxW : Int32 → Prop := fun c => ¬ isL c ∧ ¬ isD c
abbrev nxB : Int32 → Prop := fun c => ¬ c = 61
theorem LXs.bl {c : Int32} (hc : isB c) : LXs nxA [c] [] := fun T len i p s n9 x h4 => by
  refine ⟨fun q hq => absurd hq (Nat.not_lt_zero q), ?_⟩
  have h0 := s.2 0 (Nat.zero_lt_one)
  have h1 := s.1
  exact x.bl hc h0 (by have : p + 1 ≤ len := h1; omega)
theorem spF_i : ∀ d p, spF T len s i d p = true ↔ ∀ q, q < d → bat T len (s + (p + q)) = (txt i).getD (p + q) 0 := by
  intro d
  induction d with
  | zero => intro p; exact ⟨fun _ q hq => absurd hq (Nat.not_lt_zero q), fun _ => rfl⟩
  | succ d ih =>
    intro p
    show (decide (bat T len (s + p) = (txt i).getD p 0) && spF T len s i d (p + 1)) = true ↔ _
    rw [Bool.and_eq_true, decide_eq_true_eq, ih]
    constructor
    · intro h q hq
      cases q with
      | zero => exact h.1
      | succ q => have := h.2 q (by omega); rw [show p + (q + 1) = p + 1 + q by omega]; exact this
    · intro h
      exact ⟨h 0 (by omega), fun q hq => by have := h (q + 1) (by omega); rw [show p + (q + 1) = p + 1 + q by omega] at this; exact this⟩
theorem getD_ext : ∀ {a c : List Int32}, a.length = c.length → (∀ q, q < a.length → a.getD q 0 = c.getD q 0) → a = c := by
  intro a c h1 h2
  refine List.ext_getElem h1 (fun q g1 g2 => ?_)
  have z := h2 q g1
  rw [List.getD_eq_getElem?_getD, List.getD_eq_getElem?_getD, List.getElem?_eq_getElem g1, List.getElem?_eq_getElem g2] at z
  exact z
theorem spelt_i (hs : stX T len s Y) : spelt T len s (s + Y.length) i ↔ Y = txt i := by
  unfold spelt
  rw [Nat.add_sub_cancel_left, spF_i]
  constructor
  · intro h
    refine getD_ext h.1.symm (fun q hq => ?_)
    have z := h.2 q (by omega)
    rw [Nat.zero_add, hs.2 q hq] at z
    exact z
  · intro h
    subst h
    exact ⟨rfl, fun q hq => by rw [Nat.zero_add]; exact hs.2 q hq⟩
/-- the sign that Y spells -/
def swL (Y : List Int32) (dflt : Nat) : Nat → Nat → Nat
  | 0, _ => dflt
  | d + 1, i => if Y = txt (20 + i) then i else swL Y dflt d (i + 1)
theorem swt_L (hs : stX T len s Y) {dflt : Nat} : ∀ d i, swtF T len s (s + Y.length) dflt d i = swL Y dflt d i := by
  intro d
  induction d with
  | zero => intro i; rfl
  | succ d ih =>
    intro i
    show (if spelt T len s (s + Y.length) (20 + i) then i else swtF T len s (s + Y.length) dflt d (i + 1)) = if Y = txt (20 + i) then i else swL Y dflt d (i + 1)
    by_cases c : Y = txt (20 + i)
    · rw [if_pos c, if_pos ((spelt_i hs).mpr c)]
    · rw [if_neg c, if_neg (fun z => c ((spelt_i hs).mp z)), ih]
theorem etl_to {lt : Prop} [Decidable lt] {e : Nat} (he : e ≤ len) (h3 : ¬ (isD (bat T len e) ∨ (lt ∧ isL (bat T len e)))) : ∀ m a, a + m = e → (∀ q, a ≤ q → q < e → isD (bat T len q) ∨ (lt ∧ isL (bat T len q))) → etl T len lt (len - a) a = e := by
  intro m
  induction m with
  | zero =>
    intro a ha h2
    have e1 : a = e := by omega
    subst e1
    by_cases c : a < len
    · rw [etl_s c, if_neg h3]
    · rw [show len - a = 0 by omega]; rfl
  | succ m ih =>
    intro a ha h2
    rw [etl_s (by omega), if_pos (h2 a (Nat.le_refl _) (by omega))]
    exact ih (a + 1) (by omega) (fun q h1 h4 => h2 q (by omega) h4)
theorem isL_B {c : Int32} (h : isL c) : ¬ isB c := by
  rintro (rfl | rfl)
  · exact absurd h.1 (by decide)
  · exact absurd h.1 (by decide)
theorem isD_B {c : Int32} (h : isD c) : ¬ isB c := by
  rintro (rfl | rfl)
  · exact absurd h.1 (by decide)
  · exact absurd h.1 (by decide)
theorem isL_D {c : Int32} (h : isL c) : ¬ isD c := fun z => by
  have h1 := h.1
  have h2 := z.2
  rw [i_le] at h1 h2
  have e1 : (97 : Int32).toInt = 97 := rfl
  have e2 : (57 : Int32).toInt = 57 := rfl
  omega
theorem scG_sg (hi : i < 400) : scG T len i = sgF T len (scS T len i) (scE T len i) := by
  unfold scG; rw [if_neg (fun z => by omega)]
/-- a word -/
theorem lx_word (h0 : 0 < Y.length) (h1 : isL (Y.getD 0 0)) (h2 : ∀ q, q < Y.length → isL (Y.getD q 0) ∨ isD (Y.getD q 0)) (h10 : Y.length ≤ 10) (hs : stX T len p Y) (hn : nxW (bat T len (p + Y.length))) (hx : lxS T len i p) (hi : i < 400) : (scS T len i = p ∧ scE T len i = p + Y.length ∧ lxS T len (i + 1) (p + Y.length)) ∧ scG T len i = swL Y 35 39 0 := by
  have b0 := hs.2 0 h0
  rw [Nat.add_zero] at b0
  have hl : isL (bat T len p) := by rw [b0]; exact h1
  have hle := hs.1
  have he : eotF T len p = p + Y.length := by
    unfold eotF
    rw [if_pos (Or.inl hl)]
    refine etl_to hle (fun z => z.elim hn.2 (fun y => hn.1 y.2)) (Y.length - 1) (p + 1) (by omega) (fun q q1 q2 => ?_)
    obtain ⟨q', rfl⟩ : ∃ q', q = p + q' := ⟨q - p, by omega⟩
    rw [hs.2 q' (by omega)]
    rcases h2 q' (by omega) with z | z
    · exact Or.inr ⟨hl, z⟩
    · exact Or.inl z
  obtain ⟨g1, g2, g3⟩ := hx.tok (by omega) (isL_B hl) he hle
  refine ⟨⟨g1, g2, g3⟩, ?_⟩
  rw [scG_sg hi, g1, g2]
  unfold sgF
  rw [if_pos (show p < len by omega), if_neg (isL_D hl), if_pos hl, if_pos (by omega)]
  exact swt_L hs 39 0
theorem LXs.wd {v : Nat} (h0 : 0 < Y.length) (h1 : isL (Y.getD 0 0)) (h2 : ∀ q, q < Y.length → isL (Y.getD q 0) ∨ isD (Y.getD q 0)) (h10 : Y.length ≤ 10) (hv : swL Y 35 39 0 = v) (h35 : v < 35) : LXs nxW Y [(v, 0)] := fun T len i p s n9 x h4 => by
  have h4 : i + 1 ≤ 400 := h4
  obtain ⟨⟨g1, g2, g3⟩, g4⟩ := lx_word h0 h1 h2 h10 s n9 x (by omega)
  exact ⟨lxQ.one ⟨g4.trans hv, fun z => by have z : v = 36 := z; omega, fun z => by have z : v = 35 := z; omega⟩, g3⟩
/-- a name -/
theorem LXs.nm {m : Nat} (hm : m < 6) : LXs nxW [119, nI (48 + m)] [(35, m)] := fun T len i p s n9 x h4 => by
  have h4 : i + 1 ≤ 400 := h4
  have a1 : ∀ m, m < 6 → isL (([119, nI (48 + m)] : List Int32).getD 0 0) ∧ isD (([119, nI (48 + m)] : List Int32).getD 1 0) ∧ swL [119, nI (48 + m)] 35 39 0 = 35 := by decide +kernel
  obtain ⟨b1, b2, b3⟩ := a1 m hm
  obtain ⟨⟨g1, g2, g3⟩, g4⟩ := lx_word (Y := [119, nI (48 + m)]) (Nat.zero_lt_succ _) b1 (fun q hq => by
    have hq : q < 2 := hq
    rcases (show q = 0 ∨ q = 1 by omega) with rfl | rfl
    · exact Or.inl b1
    · exact Or.inr b2) (by show 2 ≤ 10; omega) s n9 x (by omega)
  refine ⟨lxQ.one ⟨g4.trans b3, fun z => by have z : 35 = 36 := z; omega, fun _ => ⟨by rw [g2, g1]; rfl, by rw [g2]; exact s.1, by rw [g1]; exact s.2 1 (by show 1 < 2; omega)⟩⟩, g3⟩
/-- the number that bytes tell -/
theorem nmF_L : ∀ (Y : List Int32) (p : Nat) (acc : Int32), stX T len p Y → nmF T len Y.length p acc = Y.foldl (fun a c => a * 10 + (c - 48)) acc := by
  intro Y
  induction Y with
  | nil => intro p acc _; rfl
  | cons c Y ih =>
    intro p acc hs
    show nmF T len Y.length (p + 1) (acc * 10 + (bat T len p - 48)) = Y.foldl _ (acc * 10 + (c - 48))
    have b0 : bat T len (p + 0) = c := hs.2 0 (Nat.succ_pos _)
    rw [Nat.add_zero] at b0
    rw [b0]
    have hr : stX T len (p + 1) Y := stX.r (Y := [c]) hs
    exact ih (p + 1) _ hr
theorem decB_v : ∀ m w, w ≤ m → (decB w).foldl (fun (a c : Int32) => a * 10 + (c - 48)) 0 = nI w ∧ ∀ c ∈ decB w, isD c := by
  intro m
  have d9 : ∀ v, v < 10 → isD (nI (48 + v)) := by decide
  induction m with
  | zero =>
    intro w hw
    have e1 : w = 0 := by omega
    subst e1
    rw [decB_lo (by omega)]
    exact ⟨rfl, fun c hc => by rw [List.mem_singleton] at hc; subst hc; exact d9 0 (by omega)⟩
  | succ m ih =>
    intro w hw
    have key : ∀ (a : Nat) v, nI a * 10 + (nI (48 + v) - 48) = nI (a * 10 + v) := fun a v => by
      rw [show (10 : Int32) = nI 10 from rfl, pk_mul, show (48 : Int32) = nI 48 from rfl, ← nI_add, ← nI_add]
      have : nI 48 + nI v - nI 48 = nI v := by rw [Int32.add_comm]; exact Int32.add_sub_cancel ..
      rw [this]
    by_cases h : w < 10
    · rw [decB_lo h]
      refine ⟨?_, fun c hc => by rw [List.mem_singleton] at hc; subst hc; exact d9 w h⟩
      have := key 0 w
      rw [Nat.zero_mul, Nat.zero_add] at this
      exact this
    · rw [decB_hi h]
      obtain ⟨h1, h2⟩ := ih (w / 10) (by omega)
      refine ⟨?_, fun c hc => ?_⟩
      · rw [List.foldl_append, h1]
        show nI (w / 10) * 10 + (nI (48 + w % 10) - 48) = _
        rw [key, show w / 10 * 10 + w % 10 = w by omega]
      · rcases List.mem_append.mp hc with hc | hc
        · exact h2 c hc
        · rw [List.mem_singleton] at hc; subst hc; exact d9 _ (by omega)
theorem LXs.num {w : Nat} (hw : w < 1000000) : LXs nxW (decB w) [(36, w)] := fun T len i p s n9 x h4 => by
  have h4 : i + 1 ≤ 400 := h4
  obtain ⟨v1, v2⟩ := decB_v w w (Nat.le_refl _)
  have hp := decB_pos w
  have h6 := decB_le hw
  have hD : ∀ q, q < (decB w).length → isD (bat T len (p + q)) := fun q hq => by
    rw [s.2 q hq]
    refine v2 _ ?_
    rw [List.getD_eq_getElem?_getD, List.getElem?_eq_getElem hq]
    exact List.getElem_mem hq
  have hd : isD (bat T len p) := hD 0 hp
  have hle := s.1
  have hnl : ¬ isL (bat T len p) := fun z => isL_D z hd
  have he : eotF T len p = p + (decB w).length := by
    unfold eotF
    rw [if_pos (Or.inr hd)]
    refine etl_to hle (fun z => z.elim n9.2 (fun y => hnl y.1)) ((decB w).length - 1) (p + 1) (by omega) (fun q q1 q2 => ?_)
    obtain ⟨q', rfl⟩ : ∃ q', q = p + q' := ⟨q - p, by omega⟩
    exact Or.inl (hD q' (by omega))
  obtain ⟨g1, g2, g3⟩ := x.tok (by omega) (isD_B hd) he hle
  refine ⟨lxQ.one ⟨?_, fun _ => ?_, fun z => by have z : 36 = 35 := z; omega⟩, g3⟩
  · rw [scG_sg (by omega), g1, g2]
    unfold sgF
    rw [if_pos (show p < len by omega), if_pos hd, if_pos (by omega)]
  · unfold tkN
    rw [g1, g2, Nat.add_sub_cancel_left, nmF_L _ _ _ s, v1]
/-- a symbol of one byte, of two -/
theorem lx_sym (h0 : 0 < Y.length) (hnl : ¬ isL (Y.getD 0 0)) (hnd : ¬ isD (Y.getD 0 0)) (hnb : ¬ isB (Y.getD 0 0)) (hs : stX T len p Y) (he : eosF T len p = p + Y.length) (hx : lxS T len i p) (hi : i < 400) : (lxS T len (i + 1) (p + Y.length)) ∧ scG T len i = swL Y 38 39 0 := by
  have b0 := hs.2 0 h0
  rw [Nat.add_zero] at b0
  have hle := hs.1
  have hl : ¬ isL (bat T len p) := by rw [b0]; exact hnl
  have hd : ¬ isD (bat T len p) := by rw [b0]; exact hnd
  have he : eotF T len p = p + Y.length := by
    unfold eotF
    rw [if_neg (fun z => z.elim hl hd)]; exact he
  obtain ⟨g1, g2, g3⟩ := hx.tok (by omega) (by rw [b0]; exact hnb) he hle
  refine ⟨g3, ?_⟩
  rw [scG_sg hi, g1, g2]
  unfold sgF
  rw [if_pos (show p < len by omega), if_neg hd, if_neg hl]
  exact swt_L hs 39 0
theorem LXs.s1 {c : Int32} {v : Nat} (h1 : ¬ isL c ∧ ¬ isD c ∧ ¬ isB c) (h2 : ¬ (c = 60 ∨ c = 62)) (hv : swL [c] 38 39 0 = v) (h35 : v < 35) : LXs nxA [c] [(v, 0)] := fun T len i p s n9 x h4 => by
  have h4 : i + 1 ≤ 400 := h4
  have b0 : bat T len (p + 0) = c := s.2 0 (Nat.zero_lt_one)
  rw [Nat.add_zero] at b0
  have hle : p + 1 ≤ len := s.1
  obtain ⟨g3, g4⟩ := lx_sym (Y := [c]) (Nat.zero_lt_one) h1.1 h1.2.1 h1.2.2 s (by
    unfold eosF
    rw [b0, if_neg (fun z => h2 z.1)]
    show min (p + 1) len = p + 1
    omega) x (by omega)
  exact ⟨lxQ.one ⟨g4.trans hv, fun z => by have z : v = 36 := z; omega, fun z => by have z : v = 35 := z; omega⟩, g3⟩
theorem LXs.s1b {c : Int32} {v : Nat} (h1 : ¬ isL c ∧ ¬ isD c ∧ ¬ isB c) (hv : swL [c] 38 39 0 = v) (h35 : v < 35) : LXs nxB [c] [(v, 0)] := fun T len i p s n9 x h4 => by
  have h4 : i + 1 ≤ 400 := h4
  have n9 : ¬ bat T len (p + 1) = 61 := n9
  have hle : p + 1 ≤ len := s.1
  obtain ⟨g3, g4⟩ := lx_sym (Y := [c]) (Nat.zero_lt_one) h1.1 h1.2.1 h1.2.2 s (by
    unfold eosF
    rw [if_neg (fun z => n9 z.2)]
    show min (p + 1) len = p + 1
    omega) x (by omega)
  exact ⟨lxQ.one ⟨g4.trans hv, fun z => by have z : v = 36 := z; omega, fun z => by have z : v = 35 := z; omega⟩, g3⟩
theorem LXs.s2 {c : Int32} {v : Nat} (hc : c = 60 ∨ c = 62) (hv : swL [c, 61] 38 39 0 = v) (h35 : v < 35) : LXs nxA [c, 61] [(v, 0)] := fun T len i p s n9 x h4 => by
  have h4 : i + 1 ≤ 400 := h4
  have b0 : bat T len (p + 0) = c := s.2 0 (by decide : 0 < 2)
  rw [Nat.add_zero] at b0
  have b1 : bat T len (p + 1) = 61 := s.2 1 (by decide : 1 < 2)
  have hle : p + 2 ≤ len := s.1
  have h1 : ¬ isL c ∧ ¬ isD c ∧ ¬ isB c := by rcases hc with rfl | rfl <;> exact ⟨by decide, by decide, by decide⟩
  obtain ⟨g3, g4⟩ := lx_sym (Y := [c, 61]) (by decide : 0 < 2) h1.1 h1.2.1 h1.2.2 s (by
    unfold eosF
    rw [b0, b1, if_pos ⟨hc, rfl⟩]
    show min (p + 2) len = p + 2
    omega) x (by omega)
  exact ⟨lxQ.one ⟨g4.trans hv, fun z => by have z : v = 36 := z; omega, fun z => by have z : v = 35 := z; omega⟩, g3⟩
end XLX
