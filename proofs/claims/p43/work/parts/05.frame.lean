/-! THE FRAME: an abstract heap of numbered things (handles), one form of contract, one row an instruction.
A handle below 400 is a thing that stands at the start (a constant, a text, a table) and is never written; from 400 on: what the run makes. -/
section XXA
def xx_odd : Cond → Bool
  | .fieldLinkNest .. => true
  | .methodLinkNest .. => true
  | .castable .. => true
  | .declares .. => true
  | _ => false
/-- the tables' good words, and the odd ones that are carried beside them -/
def xx_X : List Cond := [yJ5_ensureCapacityInternal_d00df, yJ5_newCapacity_0f7a4, yJ5_putStringAt_47b60, yJ5_inflateIfNeededFor_a7421].map (fun y => Cond.selects RJ4 y y)
def xx_T : List Cond := (xx_X ++ lw_tbl).filter goodWord
theorem xx_inT {w : Cond} (h : w ∈ lw_tbl) (g : goodWord w = true) : w ∈ xx_T := List.mem_filter.mpr ⟨List.mem_append_right _ h, g⟩
theorem xx_inX {w : Cond} (h : w ∈ xx_X) (g : goodWord w = true) : w ∈ xx_T := List.mem_filter.mpr ⟨List.mem_append_left _ h, g⟩
def xx_N : List Cond := lw_tbl.filter xx_odd
theorem xx_good {i : Nat} {w : Cond} (h : lw_tbl[i]? = some w) (g : goodWord w = true) : w ∈ xx_T := xx_inT (List.mem_of_getElem? h) g
theorem xx_oddin {i : Nat} {w : Cond} (h : lw_tbl[i]? = some w) (g : xx_odd w = true) : w ∈ xx_N := List.mem_filter.mpr ⟨List.mem_of_getElem? h, g⟩
theorem xx_gT : GoodIn xx_T xx_T := fun _ h => ⟨h, good_of_word (List.mem_filter.mp h).2⟩
theorem xx_cast {a b : String} {s U : State} (hW : s.WarmedH U.vm) (h : va_Nw (.castable a b) s) : va_Nw (.castable a b) U := by
  have e1 : U.vm.findClass a = s.vm.findClass a := hW.alike.findClass ..
  have e2 : U.vm.findClass b = s.vm.findClass b := hW.alike.findClass ..
  unfold va_Nw at h ⊢
  simp only [Cond.before, Cond.holds, Cond.value] at h ⊢
  rw [e1, e2]
  cases ha : s.vm.findClass a with
  | none => simp [ha] at h
  | some x =>
    cases hb : s.vm.findClass b with
    | none => simp [ha, hb] at h
    | some y =>
      have e3 : U.vm.assignable x y = s.vm.assignable x y := hW.alike.assignable ..
      simp only [ha, hb] at h ⊢
      rw [e3]; exact h
theorem xx_Nw {w : Cond} (h : xx_odd w = true) {s U : State} (hW : s.WarmedH U.vm) (hz : va_Nw w s) : va_Nw w U := by
  cases w <;> first | (simp [xx_odd] at h; done) | exact va_Nw.warmF hW hz | exact va_Nw.warmM hW hz | exact xx_cast hW hz | exact va_Nw.warmD hW hz
theorem xx_Nws {w : Cond} (h : xx_odd w = true) {u U : State} (hvm : u.vm = U.vm) (hz : va_Nw w u) : va_Nw w U := by
  cases w <;> first | (simp [xx_odd] at h; done) | exact va_Nw.same rfl hvm hz
/-- (classes and slots, array classes, the first new cell, addresses of what stands at the start) -/
abbrev xx_G : Type := va_G × (Nat → ClassId) × Nat × (Nat → Nat)
abbrev xx_H : Type := Nat → Option va_E
def xx_v (ad : Nat → Nat) : Value → Value
  | .ref h => .ref (ad h)
  | v => v
def xx_a (ad : Nat → Nat) (x : vp_A) : vp_A := (x.1, match x.2 with
  | .inr (.inr (.inr (.inr g))) => .inr (.inr (.inr (.inr (fun j => (g j).map ad))))
  | f => f)
def xx_e (dA : Nat → ClassId) (ad : Nat → Nat) : va_E → va_E
  | .inl (k, x) => .inl (dA k, xx_a ad x)
  | .inr (c, fs) => .inr (c, fs.map (xx_v ad))
/-- references below n -/
def xx_vw (n : Nat) : Value → Prop
  | .ref h => h < n
  | _ => True
def xx_ew (n : Nat) : va_E → Prop
  | .inl (_, _, .inr (.inr (.inr (.inr g)))) => ∀ j h, g j = some h → h < n
  | .inl _ => True
  | .inr (_, fs) => ∀ v ∈ fs, xx_vw n v
def xx_up (A : xx_H) (h : Nat) (e : va_E) : xx_H := fun q => if q = h then some e else A q
theorem xx_up_s (A : xx_H) (h : Nat) (e : va_E) : xx_up A h e h = some e := by simp [xx_up]
theorem xx_up_n (A : xx_H) {h q : Nat} (e : va_E) (hq : q ≠ h) : xx_up A h e q = A q := by simp [xx_up, hq]
def xx_P (G : xx_G) (ad : Nat → Nat) (n : Nat) (A : xx_H) (H : Heap) : Prop :=
  400 ≤ n ∧ (∀ h, h < 400 → ad h = G.2.2.2 h) ∧ (∀ h e, A h = some e → 400 ≤ h ∧ h < n ∧ G.2.2.1 ≤ ad h ∧ xx_ew n e ∧ va_at G.1 vwCl (ad h, xx_e G.2.1 ad e) H) ∧ (∀ h h' e e', A h = some e → A h' = some e' → ad h = ad h' → h = h')
theorem xx_v_ext {ad ad' : Nat → Nat} {n : Nat} (h : ∀ q, q < n → ad' q = ad q) {v : Value} (hv : xx_vw n v) : xx_v ad' v = xx_v ad v := by
  cases v <;> first | rfl | exact congrArg Value.ref (h _ hv)
theorem xx_vw_le {n n' : Nat} (h : n ≤ n') {v : Value} (hv : xx_vw n v) : xx_vw n' v := by
  cases v <;> first | trivial | exact Nat.lt_of_lt_of_le hv h
theorem xx_map_ext {ad ad' : Nat → Nat} {n : Nat} (h : ∀ q, q < n → ad' q = ad q) {S : List Value} (hS : ∀ v ∈ S, xx_vw n v) : S.map (xx_v ad') = S.map (xx_v ad) :=
  List.map_congr_left fun v hv => xx_v_ext h (hS v hv)
theorem xx_e_ext {dA : Nat → ClassId} {ad ad' : Nat → Nat} {n : Nat} (h : ∀ q, q < n → ad' q = ad q) {e : va_E} (he : xx_ew n e) : xx_e dA ad' e = xx_e dA ad e := by
  rcases e with ⟨k, m, f | f | f | f | g⟩ | ⟨c, fs⟩
  · rfl
  · rfl
  · rfl
  · rfl
  · show (Sum.inl (dA k, m, Sum.inr (Sum.inr (Sum.inr (Sum.inr fun j => (g j).map ad')))) : va_E) = Sum.inl (dA k, m, Sum.inr (Sum.inr (Sum.inr (Sum.inr fun j => (g j).map ad))))
    have : (fun j => (g j).map ad') = (fun j => (g j).map ad) := by
      funext j
      cases hj : g j with
      | none => rfl
      | some q => exact congrArg some (h q (he j q hj))
    rw [this]
  · exact congrArg (fun z => (Sum.inr (c, z) : va_E)) (xx_map_ext h he)
theorem xx_ew_le {n n' : Nat} (h : n ≤ n') {e : va_E} (he : xx_ew n e) : xx_ew n' e := by
  rcases e with ⟨k, m, f | f | f | f | g⟩ | ⟨c, fs⟩
  · trivial
  · trivial
  · trivial
  · trivial
  · exact fun j q hq => Nat.lt_of_lt_of_le (he j q hq) h
  · exact fun v hv => xx_vw_le h (he v hv)
/-- an old thing is written -/
theorem xx_P.put {G : xx_G} {ad : Nat → Nat} {n : Nat} {A : xx_H} {H H1 : Heap} (hP : xx_P G ad n A H) {h : Nat} {e e' : va_E} (hA : A h = some e) (hw : xx_ew n e') (h1 : va_at G.1 vwCl (ad h, xx_e G.2.1 ad e') H1) (ho : ∀ q : Nat, q ≠ ad h → H1[q]? = H[q]?) : xx_P G ad n (xx_up A h e') H1 := by
  obtain ⟨p1, p2, p3, p4⟩ := hP
  refine ⟨p1, p2, fun q f hq => ?_, fun q q' f f' hq hq' he => ?_⟩
  · by_cases hqh : q = h
    · subst hqh
      rw [xx_up_s] at hq
      cases hq
      obtain ⟨a1, a2, a3, -, -⟩ := p3 _ _ hA
      exact ⟨a1, a2, a3, hw, h1⟩
    · rw [xx_up_n _ _ hqh] at hq
      obtain ⟨a1, a2, a3, a4, a5⟩ := p3 _ _ hq
      exact ⟨a1, a2, a3, a4, a5.kept (ho _ fun z => hqh (p4 _ _ _ _ hq hA z))⟩
  · have key : ∀ (z : Nat) (g : va_E), xx_up A h e' z = some g → ∃ g', A z = some g' := by
      intro z g hz
      by_cases hzh : z = h
      · subst hzh; exact ⟨_, hA⟩
      · rw [xx_up_n _ _ hzh] at hz; exact ⟨_, hz⟩
    obtain ⟨g1, k1⟩ := key _ _ hq
    obtain ⟨g2, k2⟩ := key _ _ hq'
    exact p4 _ _ _ _ k1 k2 he
/-- a new thing is made: it gets the number n, and the address a -/
theorem xx_P.push {G : xx_G} {ad : Nat → Nat} {n : Nat} {A : xx_H} {H H1 : Heap} (hP : xx_P G ad n A H) {e : va_E} {a : Nat} (hn : A n = none) (ha : G.2.2.1 ≤ a) (haz : H.size ≤ a) (hw : xx_ew (n + 1) e) (h1 : va_at G.1 vwCl (a, xx_e G.2.1 (va_up ad n a) e) H1) (ho : ∀ q : Nat, q < H.size → H1[q]? = H[q]?) :
    xx_P G (va_up ad n a) (n + 1) (xx_up A n e) H1 := by
  obtain ⟨p1, p2, p3, p4⟩ := hP
  have ext : ∀ q, q < n → va_up ad n a q = ad q := fun q hq => by simp [va_up, Nat.ne_of_lt hq]
  refine ⟨by omega, fun q hq => by rw [ext q (by omega)]; exact p2 q hq, fun q f hq => ?_, fun q q' f f' hq hq' he => ?_⟩
  · by_cases hqh : q = n
    · subst hqh
      rw [xx_up_s] at hq
      cases hq
      refine ⟨p1, by omega, by simp [va_up]; exact ha, hw, ?_⟩
      simp only [va_up, if_true]
      exact h1
    · rw [xx_up_n _ _ hqh] at hq
      obtain ⟨a1, a2, a3, a4, a5⟩ := p3 _ _ hq
      refine ⟨a1, by omega, by rw [ext q a2]; exact a3, xx_ew_le (by omega) a4, ?_⟩
      rw [ext q a2, xx_e_ext ext a4]
      exact a5.kept (ho _ a5.lt)
  · have key : ∀ (z : Nat) (g : va_E), xx_up A n e z = some g → z ≠ n → z < n ∧ va_up ad n a z < H.size ∧ ∃ g', A z = some g' := by
      intro z g hz hzn
      rw [xx_up_n _ _ hzn] at hz
      obtain ⟨a1, a2, a3, a4, a5⟩ := p3 _ _ hz
      exact ⟨a2, by rw [ext z a2]; exact a5.lt, _, hz⟩
    by_cases h1 : q = n <;> by_cases h2 : q' = n
    · rw [h1, h2]
    · obtain ⟨b1, b2, -⟩ := key _ _ hq' h2
      rw [← he, h1] at b2
      simp only [va_up, if_true] at b2
      omega
    · obtain ⟨b1, b2, -⟩ := key _ _ hq h1
      rw [he, h2] at b2
      simp only [va_up, if_true] at b2
      omega
    · obtain ⟨b1, b2, g1, k1⟩ := key _ _ hq h1
      obtain ⟨c1, c2, g2, k2⟩ := key _ _ hq' h2
      rw [ext _ b1, ext _ c1] at he
      exact p4 _ _ _ _ k1 k2 he
/-- .. or a thing of which nothing is known -/
theorem xx_P.pushX {G : xx_G} {ad : Nat → Nat} {n : Nat} {A : xx_H} {H : Heap} (hP : xx_P G ad n A H) (a : Nat) : xx_P G (va_up ad n a) (n + 1) A H := by
  obtain ⟨p1, p2, p3, p4⟩ := hP
  have ext : ∀ q, q < n → va_up ad n a q = ad q := fun q hq => by simp [va_up, Nat.ne_of_lt hq]
  refine ⟨by omega, fun q hq => by rw [ext q (by omega)]; exact p2 q hq, fun q f hq => ?_, fun q q' f f' hq hq' he => ?_⟩
  · obtain ⟨a1, a2, a3, a4, a5⟩ := p3 _ _ hq
    refine ⟨a1, by omega, by rw [ext q a2]; exact a3, xx_ew_le (by omega) a4, ?_⟩
    rw [ext q a2, xx_e_ext ext a4]
    exact a5
  · rw [ext _ (p3 _ _ hq).2.1, ext _ (p3 _ _ hq').2.1] at he
    exact p4 _ _ _ _ hq hq' he
theorem xx_P.none {G : xx_G} {ad : Nat → Nat} {n : Nat} {A : xx_H} {H : Heap} (hP : xx_P G ad n A H) {q : Nat} (hq : n ≤ q) : A q = none := by
  cases h : A q with
  | none => rfl
  | some e => exact absurd (hP.2.2.1 _ _ h).2.1 (by omega)
theorem xx_P.at {G : xx_G} {ad : Nat → Nat} {n : Nat} {A : xx_H} {H : Heap} (hP : xx_P G ad n A H) {h : Nat} {e : va_E} (hA : A h = some e) : va_P G.1 vwCl [(ad h, xx_e G.2.1 ad e)] H := by
  intro k q hk
  cases k with
  | zero => cases hk; exact (hP.2.2.1 _ _ hA).2.2.2.2
  | succ k => cases hk
end XXA
