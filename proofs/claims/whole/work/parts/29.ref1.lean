/-! THE REFERENCE: State, the order -/
section XS1
variable {G : xx_G} {l : Launch} {A A' : xx_H} {n : Nat} {bm bp bs bn ba : Nat} {vL nl : Nat → Int64} {M P S : xS}
/-- what is counted of one, by the class's numbers -/
def cntS (S P : xS) (q i : Nat) : Int32 := match q with
  | 0 => P.2 2 i
  | 1 => S.2 1 i
  | 2 => S.2 2 i
  | 3 => S.2 3 i
  | 4 => S.2 4 i
  | 5 => S.2 5 i
  | 6 => S.2 6 i
  | 7 => S.2 7 i
  | 8 => if S.2 9 i = 0 then 1 else 0
  | 9 => if S.2 8 i = -1 then 1 else 0
  | _ => 0
/-- a State and a Plan as the class would hold them -/
def fS (S P : xS) : xS := (fun q => match q with
  | 0 => P.1 0
  | 1 => S.1 0
  | 5 => S.1 1
  | 9 => S.1 2
  | _ => 0, fun k => match k with
  | 1 => P.2 3
  | 2 => fun p => cntS S P (p / 12) (p % 12)
  | 3 => S.2 10
  | 4 => S.2 11
  | 5 => S.2 12
  | 6 => S.2 13
  | _ => fun _ => 0)
theorem fS_c {q i : Nat} (hi : i < 12) : (fS S P).2 2 (q * 12 + i) = cntS S P q i := by
  show cntS S P ((q * 12 + i) / 12) ((q * 12 + i) % 12) = _
  rw [show (q * 12 + i) / 12 = q by omega, show (q * 12 + i) % 12 = i by omega]
theorem bx_congr {f g : Nat → Int32} : ∀ n, (∀ i, i < n → f i = g i) → bx_sum f n = bx_sum g n := by
  intro n
  induction n with
  | zero => intro _; rfl
  | succ n ih =>
    intro h
    show bx_sum f n + f n = bx_sum g n + g n
    rw [ih (fun i hi => h i (by omega)), h n (by omega)]
theorem rp_eq {nw w : Nat} (h12 : nw ≤ 12) : rpts (fS S P) nw w = bx_sum (fun o => S.2 10 (w * 12 + o) * S.2 1 o) nw := by
  unfold rpts
  exact bx_congr nw fun i hi => by
    show S.2 10 (w * 12 + i) * (fS S P).2 2 (1 * 12 + i) = _
    rw [fS_c (by omega)]
    rfl
theorem ix12r (q i : Nat) : 12 * nI q + nI i = nI (q * 12 + i) := by rw [show (12 : Int32) = nI 12 from rfl, pk_mul, nI_add, Nat.mul_comm 12 q]
theorem J_zaldN {M : xx_M} {fr lo mc ms : Nat} {Post : xx_Q} {pc : Nat} {L : List (Nat × Value)} {S : List Value} {k j : Nat} {h len : Nat} {f : Nat → Int32} {i : Int32} (q : Nat) (hd : decode M.2.2.1 pc = .ok (.baload, 1)) (hA : A h = some (.inl (2, len, .inl f))) (hi : i = nI q) (hq : q < len) (hl : len < 2 ^ 31) (kk : xx_J G l M fr lo mc ms Post (pc + 1) L (.int (f q) :: S) A n k j) : xx_J G l M fr lo mc ms Post pc L (.int i :: .ref h :: S) A n k j := by
  subst hi
  exact J_zald hd hA (vp_in_nI hq hl) (by rw [nI_clamp (by omega)]) kk
theorem J_zastN {M : xx_M} {fr lo mc ms : Nat} {Post : xx_Q} {pc : Nat} {L : List (Nat × Value)} {S : List Value} {k j : Nat} {h len : Nat} {f : Nat → Int32} {i x : Int32} (q : Nat) (hd : decode M.2.2.1 pc = .ok (.bastore, 1)) (hA : A h = some (.inl (2, len, .inl f))) (hi : i = nI q) (hq : q < len) (hl : len < 2 ^ 31) (kk : xx_J G l M fr lo mc ms Post (pc + 1) L S (xx_up A h (.inl (2, len, .inl (upd f q (vp_nar .boolean x))))) n k j) : xx_J G l M fr lo mc ms Post pc L (.int x :: .int i :: .ref h :: S) A n k j := by
  subst hi
  refine J_zast hd hA (vp_in_nI hq hl) ?_
  rw [nI_clamp (by omega)]
  exact kk
theorem J_laldN {M : xx_M} {fr lo mc ms : Nat} {Post : xx_Q} {pc : Nat} {L : List (Nat × Value)} {S : List Value} {k j : Nat} {h len : Nat} {f : Nat → Int64} {i : Int32} (q : Nat) (hd : decode M.2.2.1 pc = .ok (.laload, 1)) (hA : A h = some (.inl (3, len, .inr (.inl f)))) (hi : i = nI q) (hq : q < len) (hl : len < 2 ^ 31) (kk : xx_J G l M fr lo mc ms Post (pc + 1) L (.long (f q) :: S) A n k j) : xx_J G l M fr lo mc ms Post pc L (.int i :: .ref h :: S) A n k j := by
  subst hi
  exact J_lald hd hA (vp_in_nI hq hl) (by rw [nI_clamp (by omega)]) kk
theorem J_lastN {M : xx_M} {fr lo mc ms : Nat} {Post : xx_Q} {pc : Nat} {L : List (Nat × Value)} {S : List Value} {k j : Nat} {h len : Nat} {f : Nat → Int64} {i : Int32} {x : Int64} (q : Nat) (hd : decode M.2.2.1 pc = .ok (.lastore, 1)) (hA : A h = some (.inl (3, len, .inr (.inl f)))) (hi : i = nI q) (hq : q < len) (hl : len < 2 ^ 31) (kk : xx_J G l M fr lo mc ms Post (pc + 1) L S (xx_up A h (.inl (3, len, .inr (.inl (vp_updL f q x))))) n k j) : xx_J G l M fr lo mc ms Post pc L (.long x :: .int i :: .ref h :: S) A n k j := by
  subst hi
  refine J_last hd hA (vp_in_nI hq hl) ?_
  rw [nI_clamp (by omega)]
  exact kk
/-- what the Model holds of its own: cells at 0, 1, 11 .. 14, 43 .. 47 -/
def isM (bm h : Nat) : Prop := h = bm ∨ h = bm + 1 ∨ (bm + 11 ≤ h ∧ h ≤ bm + 14) ∨ (bm + 43 ≤ h ∧ h ≤ bm + 47)
theorem layM_z {z : Nat} (h : z ∈ (layM bp vL bn ba bm M).map Prod.fst) : z = 0 ∨ z = 1 ∨ (11 ≤ z ∧ z ≤ 14) ∨ (43 ≤ z ∧ z ≤ 47) := by
  simp [layM] at h
  omega
theorem layM_o {q : Nat} (h : xx_w bm (layM bp vL bn ba bm M) A) (o : ∀ z, z ≠ q → A' z = A z) (hq : ¬ isM bm q) : xx_w bm (layM bp vL bn ba bm M) A' := fun i z e he => by
  have hz := layM_z (List.mem_map.mpr ⟨_, List.mem_of_getElem? he, rfl⟩)
  rw [o _ (by unfold isM at hq; simp only at hz; omega)]
  exact h i z e he
/-- nothing has changed but of the Model and of the State at bs -/
def xx_rf (bm bs : Nat) (A A' : xx_H) : Prop := ∀ h, ¬ isM bm h → (h < bs ∨ bs + 14 ≤ h) → A' h = A h
theorem xx_rf.rf : xx_rf bm bs A A := fun _ _ _ => rfl
theorem xx_rf.put {A0 : xx_H} {q : Nat} (h : xx_rf bm bs A0 A) (hq : (q = bm ∨ q = bm + 1 ∨ (bm + 11 ≤ q ∧ q ≤ bm + 14) ∨ (bm + 43 ≤ q ∧ q ≤ bm + 47)) ∨ (bs ≤ q ∧ q < bs + 14)) (_ : 0 = 0) (c : va_E) : xx_rf bm bs A0 (xx_up A q c) := fun z h1 h2 => by
  have : z ≠ q := by
    intro e
    subst e
    exact hq.elim h1 (fun y => by omega)
  rw [xx_up_n _ _ this]; exact h z h1 h2
/-- nothing has changed but of the Model -/
def xx_mf (bm : Nat) (A A' : xx_H) : Prop := ∀ h, ¬ isM bm h → A' h = A h
theorem xx_mf.rf : xx_mf bm A A := fun _ _ => rfl
theorem xx_mf.put {A0 : xx_H} {q : Nat} (h : xx_mf bm A0 A) (hq : q = bm ∨ q = bm + 1 ∨ (bm + 11 ≤ q ∧ q ≤ bm + 14) ∨ (bm + 43 ≤ q ∧ q ≤ bm + 47)) (_ : 0 = 0) (c : va_E) : xx_mf bm A0 (xx_up A q c) := fun z h1 => by
  have : z ≠ q := by
    intro e
    subst e
    exact h1 hq
  rw [xx_up_n _ _ this]; exact h z h1
theorem xx_mf.trans {A0 : xx_H} (h : xx_mf bm A0 A) (h' : xx_mf bm A A') : xx_mf bm A0 A' := fun z h1 => (h' z h1).trans (h z h1)
theorem xx_mf.toR (h : xx_mf bm A A') : xx_rf bm bs A A' := fun z h1 _ => h z h1
theorem xx_w.mf {b m : Nat} {cs : List (Nat × va_E)} (h : xx_w b cs A) (hs : xx_mf bm A A') (hb : (cs.map Prod.fst).all (fun z => decide (z < m)) = true) (hm : ∀ i, i < m → ¬ isM bm (b + i)) : xx_w b cs A' := fun i z e he => by
  have hz := of_decide_eq_true (List.all_eq_true.mp hb z (List.mem_map.mpr ⟨_, List.mem_of_getElem? he, rfl⟩))
  rw [hs _ (hm _ hz)]
  exact h i z e he
/-- a way to write, with any frame -/
theorem J_genA {M : xx_M} {fr lo mc ms : Nat} {Post : xx_Q} {pc : Nat} {L : List (Nat × Value)} {S : List Value} {k j : Nat} {b : Nat} {cs : List (Nat × va_E)} {Fr : xx_H → Prop} {q : Nat} {c : va_E} (hw : xx_w b cs (xx_up A q c)) (hs : Fr (xx_up A q c)) (kk : ∀ A', xx_w b cs A' → Fr A' → (∀ z, z ≠ q → A' z = A z) → xx_J G l M fr lo mc ms Post pc L S A' n k j) : xx_J G l M fr lo mc ms Post pc L S (xx_up A q c) n k j :=
  kk _ hw hs (fun _ hz => xx_up_n _ _ hz)
theorem xx_rf.trans {A0 : xx_H} (h : xx_rf bm bs A0 A) (h' : xx_rf bm bs A A') : xx_rf bm bs A0 A' := fun z h1 h2 => (h' z h1 h2).trans (h z h1 h2)
theorem xx_same.toR (h : xx_same bs (bs + 14) A A') : xx_rf bm bs A A' := fun z _ h2 => h z h2
theorem xx_w.rs {b m : Nat} {cs : List (Nat × va_E)} (h : xx_w b cs A) (hs : xx_rf bm bs A A') (hb : (cs.map Prod.fst).all (fun z => decide (z < m)) = true) (hd : b + m ≤ bs ∨ bs + 14 ≤ b) (hm : ∀ i, i < m → ¬ isM bm (b + i)) : xx_w b cs A' := fun i z e he => by
  have hz := of_decide_eq_true (List.all_eq_true.mp hb z (List.mem_map.mpr ⟨_, List.mem_of_getElem? he, rfl⟩))
  rw [hs _ (hm _ hz) (by omega)]
  exact h i z e he
/-- where things may lie -/
def apR (bm bp bs : Nat) : Prop := (bp = bm + 2 ∨ bm + 48 ≤ bp) ∧ (bs = bm + 15 ∨ bs = bm + 29 ∨ bm + 48 ≤ bs) ∧ (bp + 9 ≤ bs ∨ bs + 14 ≤ bp)
theorem apR.s (h : apR bm bp bs) : ∀ i, i < 14 → ¬ isM bm (bs + i) := fun i hi => by obtain ⟨-, h, -⟩ := h; unfold isM; omega
theorem apR.p (h : apR bm bp bs) : ∀ i, i < 9 → ¬ isM bm (bp + i) := fun i hi => by obtain ⟨h, -, -⟩ := h; unfold isM; omega
theorem xx_w.oS {q : Nat} (h : xx_w bs (layS bs S) A) (o : ∀ z, z ≠ q → A' z = A z) (hap : apR bm bp bs) (hq : isM bm q) : xx_w bs (layS bs S) A' := h.o2 o (m := 14) rfl (by
  by_cases h1 : q < bs
  · exact Or.inl h1
  · by_cases h2 : bs + 14 ≤ q
    · exact Or.inr h2
    · have := hap.s (q - bs) (by omega)
      rw [show bs + (q - bs) = q by omega] at this
      exact absurd hq this)
theorem xx_w.oP {q : Nat} (h : xx_w bp (layN nl bp P) A) (o : ∀ z, z ≠ q → A' z = A z) (hap : apR bm bp bs) (hq : isM bm q ∨ (bs ≤ q ∧ q < bs + 14)) : xx_w bp (layN nl bp P) A' := h.o2 o (m := 9) rfl (by
  by_cases h1 : q < bp
  · exact Or.inl h1
  · by_cases h2 : bp + 9 ≤ q
    · exact Or.inr h2
    · rcases hq with hq | hq
      · have := hap.p (q - bp) (by omega)
        rw [show bp + (q - bp) = q by omega] at this
        exact absurd hq this
      · have := hap.2.2; omega)
theorem c_X8_met (hst : l.stackTraces = false) (hS : xx_w bs (layS bs S) A) {i j : Nat} {x y : Int32} (hx : x = nI i) (hi : i < 12) (hy : y = nI j) (hj : j < 12) : xx_C G l yX8_met mX8_met 0 0 0 0 [.ref bs, .int x, .int y] A n (xx_ro (some (.int (S.2 10 (i * 12 + j)))) A n) := by
  refine J_C hst (by decide +kernel) rfl rfl rfl (Nat.le_of_ble_eq_true rfl) ?_
  show xx_J _ _ _ _ _ _ _ _ 0 [(0, _), (1, _), (2, _)] [] _ _ _ _
  refine J_aload_n dX8_met_0 rfl rfl ?_
  refine J_getf dX8_met_1 fl_X8_44 (hS.at 0 rfl) rfl ?_
  refine J_bipush (v := 12) dX8_met_4 (by decide) ?_
  refine J_iload_n dX8_met_6 rfl rfl ?_
  refine J_imul dX8_met_7 ?_
  refine J_iload_n dX8_met_8 rfl rfl ?_
  refine J_iadd dX8_met_9 ?_
  refine J_ialdN (i * 12 + j) dX8_met_10 (hS.at 10 rfl) (by rw [hx, hy]; exact ix12r i j) (by omega) (by decide) ?_
  refine J_ireturn dX8_met_11 rfl rfl (by decide) (by decide) ?_
  exact ⟨rfl, rfl, rfl⟩
theorem c_X8_meet (hst : l.stackTraces = false) (hS : xx_w bs (layS bs S) A) {i j : Nat} {x y : Int32} (hx : x = nI i) (hi : i < 12) (hy : y = nI j) (hj : j < 12) : xx_C G l yX8_meet mX8_meet 0 0 0 0 [.ref bs, .int x, .int y] A n (xx_wr none n (fun A' => xx_w bs (layS bs (a_up S 10 (m_up (S.2 10) i j))) A' ∧ xx_same bs (bs + 14) A A')) := by
  refine J_C hst (by decide +kernel) rfl rfl rfl (Nat.le_of_ble_eq_true rfl) ?_
  show xx_J _ _ _ _ _ _ _ _ 0 [(0, _), (1, _), (2, _)] [] _ _ _ _
  refine J_aload_n dX8_meet_0 rfl rfl ?_
  refine J_getf dX8_meet_1 fl_X8_44 (hS.at 0 rfl) rfl ?_
  refine J_bipush (v := 12) dX8_meet_4 (by decide) ?_
  refine J_iload_n dX8_meet_6 rfl rfl ?_
  refine J_imul dX8_meet_7 ?_
  refine J_iload_n dX8_meet_8 rfl rfl ?_
  refine J_iadd dX8_meet_9 ?_
  refine J_dup2 dX8_meet_10 rfl rfl ?_
  refine J_ialdN (i * 12 + j) dX8_meet_11 (hS.at 10 rfl) (by rw [hx, hy]; exact ix12r i j) (by omega) (by decide) ?_
  refine J_iconst (v := 1) dX8_meet_12 (by decide) ?_
  refine J_iadd dX8_meet_13 ?_
  refine J_iastN (i * 12 + j) dX8_meet_14 (hS.at 10 rfl) (by rw [hx, hy]; exact ix12r i j) (by omega) (by decide) ?_
  refine J_gen (wS_a10 hS _) ((xx_same.rf (b := bs) (e := bs + 14)).put (by omega) (by omega) _) (fun A1 w1 s1 o1 => ?_)
  refine J_aload_n dX8_meet_15 rfl rfl ?_
  refine J_getf dX8_meet_16 fl_X8_44 (w1.at 0 rfl) rfl ?_
  refine J_bipush (v := 12) dX8_meet_19 (by decide) ?_
  refine J_iload_n dX8_meet_21 rfl rfl ?_
  refine J_imul dX8_meet_22 ?_
  refine J_iload_n dX8_meet_23 rfl rfl ?_
  refine J_iadd dX8_meet_24 ?_
  refine J_dup2 dX8_meet_25 rfl rfl ?_
  refine J_ialdN (j * 12 + i) dX8_meet_26 (w1.at 10 rfl) (by rw [hy, hx]; exact ix12r j i) (by omega) (by decide) ?_
  refine J_iconst (v := 1) dX8_meet_27 (by decide) ?_
  refine J_iadd dX8_meet_28 ?_
  refine J_iastN (j * 12 + i) dX8_meet_29 (w1.at 10 rfl) (by rw [hy, hx]; exact ix12r j i) (by omega) (by decide) ?_
  refine J_gen (wS_a10 w1 _) (s1.put (by omega) (by omega) _) (fun A2 w2 s2 o2 => ?_)
  refine J_return dX8_meet_30 rfl (by decide) (by decide) ?_
  exact ⟨rfl, rfl, by have z := w2; unfold m_up; rw [← a_up_u (f := upd (S.2 10) (i * 12 + j) (S.2 10 (i * 12 + j) + 1))]; exact z, s2⟩
theorem c_X8_open (hst : l.stackTraces = false) (hS : xx_w bs (layS bs S) A) {nb : Nat} (hb : S.1 1 = nI nb) (h6 : nb ≤ 6) : xx_C G l yX8_open mX8_open 0 0 0 0 [.ref bs] A n (xx_ro (some (.int (bx_sum (opn (S.2 13)) nb))) A n) := by
  refine J_C hst (by decide +kernel) rfl rfl rfl (Nat.le_of_ble_eq_true rfl) ?_
  show xx_J _ _ _ _ _ _ _ _ 0 [(0, _)] [] _ _ _ _
  refine J_iconst (v := 0) dX8_open_0 (by decide) ?_
  refine J_istore_n (L' := [(1, _), (0, _)]) dX8_open_1 rfl (by decide) rfl ?_
  refine J_iconst (v := 0) dX8_open_2 (by decide) ?_
  refine J_istore_n (L' := [(2, _), (1, _), (0, _)]) dX8_open_3 rfl (by decide) rfl ?_
  have loop : ∀ i, i ≤ nb → ∀ (x acc : Int32) , (x = nI i) → (acc = bx_sum (opn (S.2 13)) i) → xx_J G l mX8_open 0 0 0 0 (xx_ro (some (.int (bx_sum (opn (S.2 13)) nb))) A n) 4 [(2, .int x), (1, .int acc), (0, .ref bs)] [] A n 0 0 := by
    refine xx_dn ?_ ?_
    · intro x acc   hx hacc
      have eb : (S.1 1).toInt = nb := by rw [hb]; exact i_n (by omega)
      have ex : x.toInt = nb := by rw [hx]; exact i_n (by omega)
      refine J_iload_n dX8_open_4 rfl rfl ?_
      refine J_aload_n dX8_open_5 rfl rfl ?_
      refine J_getf dX8_open_6 fl_X8_59 (hS.at 0 rfl) rfl ?_
      refine J_icmp_ge (tgt := 36) dX8_open_9 rfl (fun h9 => ?_) (fun h9 => ?_)
      · refine J_iload_n dX8_open_36 rfl rfl ?_
        refine J_ireturn dX8_open_37 rfl rfl (by decide) (by decide) ?_
        exact ⟨by rw [hacc], rfl, rfl⟩
      · first | (exfalso; simp only [i_lt, i_le, i_eq, i_0, i_1, i_2, i_3, i_4, i_5, i_6, i_8, i_9, i_10, i_12, i_16, i_20, i_m1, i_400, i_2000] at h9; omega) | (exfalso; simp only [s_up, a_up, va_up, i_lt, i_le, i_eq, i_0, i_1, i_2, i_3, i_4, i_5, i_6, i_8, i_9, i_10, i_12, i_16, i_20, i_m1, i_400, i_2000, ↓reduceIte, Nat.reduceEqDiff] at h9; omega)
    · intro i hii ih x acc   hx hacc
      have eb : (S.1 1).toInt = nb := by rw [hb]; exact i_n (by omega)
      have ex : x.toInt = i := by rw [hx]; exact i_n (by omega)
      refine J_iload_n dX8_open_4 rfl rfl ?_
      refine J_aload_n dX8_open_5 rfl rfl ?_
      refine J_getf dX8_open_6 fl_X8_59 (hS.at 0 rfl) rfl ?_
      refine J_icmp_ge (tgt := 36) dX8_open_9 rfl (fun h9 => ?_) (fun h9 => ?_)
      · first | (exfalso; simp only [i_lt, i_le, i_eq, i_0, i_1, i_2, i_3, i_4, i_5, i_6, i_8, i_9, i_10, i_12, i_16, i_20, i_m1, i_400, i_2000] at h9; omega) | (exfalso; simp only [s_up, a_up, va_up, i_lt, i_le, i_eq, i_0, i_1, i_2, i_3, i_4, i_5, i_6, i_8, i_9, i_10, i_12, i_16, i_20, i_m1, i_400, i_2000, ↓reduceIte, Nat.reduceEqDiff] at h9; omega)
      · refine J_iload_n dX8_open_12 rfl rfl ?_
        refine J_aload_n dX8_open_13 rfl rfl ?_
        refine J_getf dX8_open_14 fl_X8_53 (hS.at 0 rfl) rfl ?_
        refine J_iload_n dX8_open_17 rfl rfl ?_
        refine J_ialdN i dX8_open_18 (hS.at 13 rfl) hx (by omega) (by decide) ?_
        refine J_iconst (v := -1) dX8_open_19 (by decide) ?_
        refine J_icmp_ne (tgt := 27) dX8_open_20 rfl (fun h20 => ?_) (fun h20 => ?_)
        · refine J_iconst (v := 0) dX8_open_27 (by decide) ?_
          refine J_iadd dX8_open_28 ?_
          refine J_istore_n (L' := [(1, _), (2, _), (0, _)]) dX8_open_29 rfl (by decide) rfl ?_
          refine J_iinc (v := _ + 1) (L' := [(2, _), (1, _), (0, _)]) dX8_open_30 rfl rfl (by decide) rfl ?_
          refine J_goto (tgt := 4) dX8_open_33 rfl ?_
          refine xx_J.pick [0, 1, 2] rfl ?_
          exact ih _ _  (by rw [hx]; exact nI_1 i) (by rw [hacc]; simp [bx_sum, opn, h20])
        · refine J_iconst (v := 1) dX8_open_23 (by decide) ?_
          refine J_goto (tgt := 28) dX8_open_24 rfl ?_
          refine J_iadd dX8_open_28 ?_
          refine J_istore_n (L' := [(1, _), (2, _), (0, _)]) dX8_open_29 rfl (by decide) rfl ?_
          refine J_iinc (v := _ + 1) (L' := [(2, _), (1, _), (0, _)]) dX8_open_30 rfl rfl (by decide) rfl ?_
          refine J_goto (tgt := 4) dX8_open_33 rfl ?_
          refine xx_J.pick [0, 1, 2] rfl ?_
          exact ih _ _  (by rw [hx]; exact nI_1 i) (by rw [hacc]; simp [bx_sum, opn, h20])
  refine xx_J.pick [0, 1, 2] rfl ?_
  exact loop 0 (by omega) _ _  rfl rfl
theorem fit_b {x : Int32} (h : x = 0 ∨ x = 1) : fits .boolean (.int x) = true := by rcases h with rfl | rfl <;> rfl
def becF (S O : xS) : xS := a_up (a_up (a_up (a_up (a_up (a_up (a_up (a_up (a_up (a_up (a_up (a_up (a_up (s_up (s_up (s_up S 0 (O.1 0)) 1 (O.1 1)) 2 (O.1 2)) 1 (cpa (O.2 1) (S.2 1) 12)) 2 (cpa (O.2 2) (S.2 2) 12)) 3 (cpa (O.2 3) (S.2 3) 12)) 4 (cpa (O.2 4) (S.2 4) 12)) 5 (cpa (O.2 5) (S.2 5) 12)) 6 (cpa (O.2 6) (S.2 6) 12)) 7 (cpa (O.2 7) (S.2 7) 12)) 8 (cpa (O.2 8) (S.2 8) 12)) 9 (cpa (O.2 9) (S.2 9) 12)) 10 (cpa (O.2 10) (S.2 10) 144)) 11 (cpa (O.2 11) (S.2 11) 6)) 12 (cpa (O.2 12) (S.2 12) 6)) 13 (cpa (O.2 13) (S.2 13) 6)
set_option maxHeartbeats 4000000 in
theorem c_X8_become (hst : l.stackTraces = false) (hS : xx_w bs (layS bs S) A) {bo : Nat} {O : xS} (hO : xx_w bo (layS bo O) A) (hd : bo + 14 ≤ bs ∨ bs + 14 ≤ bo) (hz : ∀ i, i < 12 → O.2 9 i = 0 ∨ O.2 9 i = 1) : xx_C G l yX8_become mX8_become 1 60 0 0 [.ref bs, .ref bo] A n (xx_wr none n (fun A' => xx_w bs (layS bs (becF S O)) A' ∧ xx_same bs (bs + 14) A A')) := by
  refine J_C hst (by decide +kernel) rfl rfl rfl (Nat.le_of_ble_eq_true rfl) ?_
  show xx_J _ _ _ _ _ _ _ _ 0 [(0, _), (1, _)] [] _ _ _ _
  refine J_aload_n dX8_become_0 rfl rfl ?_
  refine J_aload_n dX8_become_1 rfl rfl ?_
  refine J_getf dX8_become_2 fl_X8_56 (hO.at 0 rfl) rfl ?_
  refine J_putf dX8_become_5 fp_X8_56 (fun _ => ⟨rfl, rfl⟩) (hS.at 0 rfl) (Nat.le_of_ble_eq_true rfl) ?_
  refine J_gen (wS_s0_0 hS _) ((xx_same.rf (b := bs) (e := bs + 14)).put (by omega) (by omega) _) (fun A1 w1 s1 o1 => ?_)
  have w1O := hO.o2 o1 (m := 14) rfl (by omega)
  refine J_aload_n dX8_become_8 rfl rfl ?_
  refine J_aload_n dX8_become_9 rfl rfl ?_
  refine J_getf dX8_become_10 fl_X8_59 (w1O.at 0 rfl) rfl ?_
  refine J_putf dX8_become_13 fp_X8_59 (fun _ => ⟨rfl, rfl⟩) (w1.at 0 rfl) (Nat.le_of_ble_eq_true rfl) ?_
  refine J_gen (wS_s0_1 w1 _) (s1.put (by omega) (by omega) _) (fun A2 w2 s2 o2 => ?_)
  have w2O := w1O.o2 o2 (m := 14) rfl (by omega)
  refine J_aload_n dX8_become_16 rfl rfl ?_
  refine J_aload_n dX8_become_17 rfl rfl ?_
  refine J_getf dX8_become_18 fl_X8_9 (w2O.at 0 rfl) rfl ?_
  refine J_putf dX8_become_21 fp_X8_9 (fun _ => ⟨rfl, rfl⟩) (w2.at 0 rfl) (Nat.le_of_ble_eq_true rfl) ?_
  refine J_gen (wS_s0_2 w2 _) (s2.put (by omega) (by omega) _) (fun A3 w3 s3 o3 => ?_)
  have w3O := w2O.o2 o3 (m := 14) rfl (by omega)
  refine J_aload_n dX8_become_24 rfl rfl ?_
  refine J_getf dX8_become_25 fl_X8_15 (w3O.at 0 rfl) rfl ?_
  refine J_iconst (v := 0) dX8_become_28 (by decide) ?_
  refine J_aload_n dX8_become_29 rfl rfl ?_
  refine J_getf dX8_become_30 fl_X8_15 (w3.at 0 rfl) rfl ?_
  refine J_iconst (v := 0) dX8_become_33 (by decide) ?_
  refine J_bipush (v := 12) dX8_become_34 (by decide) ?_
  refine J_copy (Or.inl rfl) dX8_become_36 ml_X8_62 na_copy sm_copy in_java_lang_System (w3O.at 1 rfl) (w3.at 1 rfl) (by decide) (by decide) (by decide) (by decide) (by decide) (fun h => nomatch h) ⟨by decide, by decide⟩ ?_
  refine J_gen (wS_a1 w3 _) (s3.put (by omega) (by omega) _) (fun A4 w4 s4 o4 => ?_)
  have w4O := w3O.o2 o4 (m := 14) rfl (by omega)
  refine J_aload_n dX8_become_39 rfl rfl ?_
  refine J_getf dX8_become_40 fl_X8_19 (w4O.at 0 rfl) rfl ?_
  refine J_iconst (v := 0) dX8_become_43 (by decide) ?_
  refine J_aload_n dX8_become_44 rfl rfl ?_
  refine J_getf dX8_become_45 fl_X8_19 (w4.at 0 rfl) rfl ?_
  refine J_iconst (v := 0) dX8_become_48 (by decide) ?_
  refine J_bipush (v := 12) dX8_become_49 (by decide) ?_
  refine J_copy (Or.inl rfl) dX8_become_51 ml_X8_62 na_copy sm_copy in_java_lang_System (w4O.at 2 rfl) (w4.at 2 rfl) (by decide) (by decide) (by decide) (by decide) (by decide) (fun h => nomatch h) ⟨by decide, by decide⟩ ?_
  refine J_gen (wS_a2 w4 _) (s4.put (by omega) (by omega) _) (fun A5 w5 s5 o5 => ?_)
  have w5O := w4O.o2 o5 (m := 14) rfl (by omega)
  refine J_aload_n dX8_become_54 rfl rfl ?_
  refine J_getf dX8_become_55 fl_X8_22 (w5O.at 0 rfl) rfl ?_
  refine J_iconst (v := 0) dX8_become_58 (by decide) ?_
  refine J_aload_n dX8_become_59 rfl rfl ?_
  refine J_getf dX8_become_60 fl_X8_22 (w5.at 0 rfl) rfl ?_
  refine J_iconst (v := 0) dX8_become_63 (by decide) ?_
  refine J_bipush (v := 12) dX8_become_64 (by decide) ?_
  refine J_copy (Or.inl rfl) dX8_become_66 ml_X8_62 na_copy sm_copy in_java_lang_System (w5O.at 3 rfl) (w5.at 3 rfl) (by decide) (by decide) (by decide) (by decide) (by decide) (fun h => nomatch h) ⟨by decide, by decide⟩ ?_
  refine J_gen (wS_a3 w5 _) (s5.put (by omega) (by omega) _) (fun A6 w6 s6 o6 => ?_)
  have w6O := w5O.o2 o6 (m := 14) rfl (by omega)
  refine J_aload_n dX8_become_69 rfl rfl ?_
  refine J_getf dX8_become_70 fl_X8_25 (w6O.at 0 rfl) rfl ?_
  refine J_iconst (v := 0) dX8_become_73 (by decide) ?_
  refine J_aload_n dX8_become_74 rfl rfl ?_
  refine J_getf dX8_become_75 fl_X8_25 (w6.at 0 rfl) rfl ?_
  refine J_iconst (v := 0) dX8_become_78 (by decide) ?_
  refine J_bipush (v := 12) dX8_become_79 (by decide) ?_
  refine J_copy (Or.inl rfl) dX8_become_81 ml_X8_62 na_copy sm_copy in_java_lang_System (w6O.at 4 rfl) (w6.at 4 rfl) (by decide) (by decide) (by decide) (by decide) (by decide) (fun h => nomatch h) ⟨by decide, by decide⟩ ?_
  refine J_gen (wS_a4 w6 _) (s6.put (by omega) (by omega) _) (fun A7 w7 s7 o7 => ?_)
  have w7O := w6O.o2 o7 (m := 14) rfl (by omega)
  refine J_aload_n dX8_become_84 rfl rfl ?_
  refine J_getf dX8_become_85 fl_X8_28 (w7O.at 0 rfl) rfl ?_
  refine J_iconst (v := 0) dX8_become_88 (by decide) ?_
  refine J_aload_n dX8_become_89 rfl rfl ?_
  refine J_getf dX8_become_90 fl_X8_28 (w7.at 0 rfl) rfl ?_
  refine J_iconst (v := 0) dX8_become_93 (by decide) ?_
  refine J_bipush (v := 12) dX8_become_94 (by decide) ?_
  refine J_copy (Or.inl rfl) dX8_become_96 ml_X8_62 na_copy sm_copy in_java_lang_System (w7O.at 5 rfl) (w7.at 5 rfl) (by decide) (by decide) (by decide) (by decide) (by decide) (fun h => nomatch h) ⟨by decide, by decide⟩ ?_
  refine J_gen (wS_a5 w7 _) (s7.put (by omega) (by omega) _) (fun A8 w8 s8 o8 => ?_)
  have w8O := w7O.o2 o8 (m := 14) rfl (by omega)
  refine J_aload_n dX8_become_99 rfl rfl ?_
  refine J_getf dX8_become_100 fl_X8_31 (w8O.at 0 rfl) rfl ?_
  refine J_iconst (v := 0) dX8_become_103 (by decide) ?_
  refine J_aload_n dX8_become_104 rfl rfl ?_
  refine J_getf dX8_become_105 fl_X8_31 (w8.at 0 rfl) rfl ?_
  refine J_iconst (v := 0) dX8_become_108 (by decide) ?_
  refine J_bipush (v := 12) dX8_become_109 (by decide) ?_
  refine J_copy (Or.inl rfl) dX8_become_111 ml_X8_62 na_copy sm_copy in_java_lang_System (w8O.at 6 rfl) (w8.at 6 rfl) (by decide) (by decide) (by decide) (by decide) (by decide) (fun h => nomatch h) ⟨by decide, by decide⟩ ?_
  refine J_gen (wS_a6 w8 _) (s8.put (by omega) (by omega) _) (fun A9 w9 s9 o9 => ?_)
  have w9O := w8O.o2 o9 (m := 14) rfl (by omega)
  refine J_aload_n dX8_become_114 rfl rfl ?_
  refine J_getf dX8_become_115 fl_X8_34 (w9O.at 0 rfl) rfl ?_
  refine J_iconst (v := 0) dX8_become_118 (by decide) ?_
  refine J_aload_n dX8_become_119 rfl rfl ?_
  refine J_getf dX8_become_120 fl_X8_34 (w9.at 0 rfl) rfl ?_
  refine J_iconst (v := 0) dX8_become_123 (by decide) ?_
  refine J_bipush (v := 12) dX8_become_124 (by decide) ?_
  refine J_copy (Or.inl rfl) dX8_become_126 ml_X8_62 na_copy sm_copy in_java_lang_System (w9O.at 7 rfl) (w9.at 7 rfl) (by decide) (by decide) (by decide) (by decide) (by decide) (fun h => nomatch h) ⟨by decide, by decide⟩ ?_
  refine J_gen (wS_a7 w9 _) (s9.put (by omega) (by omega) _) (fun A10 w10 s10 o10 => ?_)
  have w10O := w9O.o2 o10 (m := 14) rfl (by omega)
  refine J_aload_n dX8_become_129 rfl rfl ?_
  refine J_getf dX8_become_130 fl_X8_37 (w10O.at 0 rfl) rfl ?_
  refine J_iconst (v := 0) dX8_become_133 (by decide) ?_
  refine J_aload_n dX8_become_134 rfl rfl ?_
  refine J_getf dX8_become_135 fl_X8_37 (w10.at 0 rfl) rfl ?_
  refine J_iconst (v := 0) dX8_become_138 (by decide) ?_
  refine J_bipush (v := 12) dX8_become_139 (by decide) ?_
  refine J_copy (Or.inl rfl) dX8_become_141 ml_X8_62 na_copy sm_copy in_java_lang_System (w10O.at 8 rfl) (w10.at 8 rfl) (by decide) (by decide) (by decide) (by decide) (by decide) (fun h => nomatch h) ⟨by decide, by decide⟩ ?_
  refine J_gen (wS_a8 w10 _) (s10.put (by omega) (by omega) _) (fun A11 w11 s11 o11 => ?_)
  have w11O := w10O.o2 o11 (m := 14) rfl (by omega)
  refine J_aload_n dX8_become_144 rfl rfl ?_
  refine J_getf dX8_become_145 fl_X8_40 (w11O.at 0 rfl) rfl ?_
  refine J_iconst (v := 0) dX8_become_148 (by decide) ?_
  refine J_aload_n dX8_become_149 rfl rfl ?_
  refine J_getf dX8_become_150 fl_X8_40 (w11.at 0 rfl) rfl ?_
  refine J_iconst (v := 0) dX8_become_153 (by decide) ?_
  refine J_bipush (v := 12) dX8_become_154 (by decide) ?_
  refine J_copy (Or.inr rfl) dX8_become_156 ml_X8_62 na_copy sm_copy in_java_lang_System (w11O.at 9 rfl) (w11.at 9 rfl) (by decide) (by decide) (by decide) (by decide) (by decide) (fun _ i hi => by have hi2 : i < 12 := hi; have e : (0 : Int32).toNatClampNeg + i = i := Nat.zero_add i; rw [e]; exact fit_b (hz i hi2)) ⟨by decide, by decide⟩ ?_
  refine J_gen (wS_a9 w11 _) (s11.put (by omega) (by omega) _) (fun A12 w12 s12 o12 => ?_)
  have w12O := w11O.o2 o12 (m := 14) rfl (by omega)
  refine J_aload_n dX8_become_159 rfl rfl ?_
  refine J_getf dX8_become_160 fl_X8_44 (w12O.at 0 rfl) rfl ?_
  refine J_iconst (v := 0) dX8_become_163 (by decide) ?_
  refine J_aload_n dX8_become_164 rfl rfl ?_
  refine J_getf dX8_become_165 fl_X8_44 (w12.at 0 rfl) rfl ?_
  refine J_iconst (v := 0) dX8_become_168 (by decide) ?_
  refine J_sipush (v := 144) dX8_become_169 (by decide) ?_
  refine J_copy (Or.inl rfl) dX8_become_172 ml_X8_62 na_copy sm_copy in_java_lang_System (w12O.at 10 rfl) (w12.at 10 rfl) (by decide) (by decide) (by decide) (by decide) (by decide) (fun h => nomatch h) ⟨by decide, by decide⟩ ?_
  refine J_gen (wS_a10 w12 _) (s12.put (by omega) (by omega) _) (fun A13 w13 s13 o13 => ?_)
  have w13O := w12O.o2 o13 (m := 14) rfl (by omega)
  refine J_aload_n dX8_become_175 rfl rfl ?_
  refine J_getf dX8_become_176 fl_X8_47 (w13O.at 0 rfl) rfl ?_
  refine J_iconst (v := 0) dX8_become_179 (by decide) ?_
  refine J_aload_n dX8_become_180 rfl rfl ?_
  refine J_getf dX8_become_181 fl_X8_47 (w13.at 0 rfl) rfl ?_
  refine J_iconst (v := 0) dX8_become_184 (by decide) ?_
  refine J_bipush (v := 6) dX8_become_185 (by decide) ?_
  refine J_copy (Or.inl rfl) dX8_become_187 ml_X8_62 na_copy sm_copy in_java_lang_System (w13O.at 11 rfl) (w13.at 11 rfl) (by decide) (by decide) (by decide) (by decide) (by decide) (fun h => nomatch h) ⟨by decide, by decide⟩ ?_
  refine J_gen (wS_a11 w13 _) (s13.put (by omega) (by omega) _) (fun A14 w14 s14 o14 => ?_)
  have w14O := w13O.o2 o14 (m := 14) rfl (by omega)
  refine J_aload_n dX8_become_190 rfl rfl ?_
  refine J_getf dX8_become_191 fl_X8_50 (w14O.at 0 rfl) rfl ?_
  refine J_iconst (v := 0) dX8_become_194 (by decide) ?_
  refine J_aload_n dX8_become_195 rfl rfl ?_
  refine J_getf dX8_become_196 fl_X8_50 (w14.at 0 rfl) rfl ?_
  refine J_iconst (v := 0) dX8_become_199 (by decide) ?_
  refine J_bipush (v := 6) dX8_become_200 (by decide) ?_
  refine J_copy (Or.inl rfl) dX8_become_202 ml_X8_62 na_copy sm_copy in_java_lang_System (w14O.at 12 rfl) (w14.at 12 rfl) (by decide) (by decide) (by decide) (by decide) (by decide) (fun h => nomatch h) ⟨by decide, by decide⟩ ?_
  refine J_gen (wS_a12 w14 _) (s14.put (by omega) (by omega) _) (fun A15 w15 s15 o15 => ?_)
  have w15O := w14O.o2 o15 (m := 14) rfl (by omega)
  refine J_aload_n dX8_become_205 rfl rfl ?_
  refine J_getf dX8_become_206 fl_X8_53 (w15O.at 0 rfl) rfl ?_
  refine J_iconst (v := 0) dX8_become_209 (by decide) ?_
  refine J_aload_n dX8_become_210 rfl rfl ?_
  refine J_getf dX8_become_211 fl_X8_53 (w15.at 0 rfl) rfl ?_
  refine J_iconst (v := 0) dX8_become_214 (by decide) ?_
  refine J_bipush (v := 6) dX8_become_215 (by decide) ?_
  refine J_copy (Or.inl rfl) dX8_become_217 ml_X8_62 na_copy sm_copy in_java_lang_System (w15O.at 13 rfl) (w15.at 13 rfl) (by decide) (by decide) (by decide) (by decide) (by decide) (fun h => nomatch h) ⟨by decide, by decide⟩ ?_
  refine J_gen (wS_a13 w15 _) (s15.put (by omega) (by omega) _) (fun A16 w16 s16 o16 => ?_)
  have w16O := w15O.o2 o16 (m := 14) rfl (by omega)
  refine J_return dX8_become_220 rfl (by decide) (by decide) ?_
  exact ⟨rfl, rfl, w16, s16⟩
theorem c_X9_isIn (hst : l.stackTraces = false) (v lo hi : Int32) : xx_C G l yX9_isIn mX9_isIn 0 0 0 0 [.int v, .int lo, .int hi] A n (xx_ro (some (.int (xx_b (lo ≤ v ∧ v ≤ hi)))) A n) := by
  refine J_C hst (by decide +kernel) rfl rfl rfl (Nat.le_of_ble_eq_true rfl) ?_
  show xx_J _ _ _ _ _ _ _ _ 0 [(0, _), (1, _), (2, _)] [] _ _ _ _
  refine J_iload_n dX9_isIn_0 rfl rfl ?_
  refine J_iload_n dX9_isIn_1 rfl rfl ?_
  refine J_icmp_lt (tgt := 14) dX9_isIn_2 rfl (fun h2 => ?_) (fun h2 => ?_)
  · refine J_iconst (v := 0) dX9_isIn_14 (by decide) ?_
    refine J_ireturn dX9_isIn_15 rfl rfl (by decide) (by decide) ?_
    exact ⟨by unfold xx_b; split <;> first | rfl | (exfalso; simp only [i_lt, i_le] at *; omega), rfl, rfl⟩
  · refine J_iload_n dX9_isIn_5 rfl rfl ?_
    refine J_iload_n dX9_isIn_6 rfl rfl ?_
    refine J_icmp_gt (tgt := 14) dX9_isIn_7 rfl (fun h7 => ?_) (fun h7 => ?_)
    · refine J_iconst (v := 0) dX9_isIn_14 (by decide) ?_
      refine J_ireturn dX9_isIn_15 rfl rfl (by decide) (by decide) ?_
      exact ⟨by unfold xx_b; split <;> first | rfl | (exfalso; simp only [i_lt, i_le] at *; omega), rfl, rfl⟩
    · refine J_iconst (v := 1) dX9_isIn_10 (by decide) ?_
      refine J_goto (tgt := 15) dX9_isIn_11 rfl ?_
      refine J_ireturn dX9_isIn_15 rfl rfl (by decide) (by decide) ?_
      exact ⟨by unfold xx_b; split <;> first | rfl | (exfalso; simp only [i_lt, i_le] at *; omega), rfl, rfl⟩
theorem c_X9_isOne (hst : l.stackTraces = false) (hM : xx_w bm (layM bp vL bn ba bm M) A) (hN : xx_w bp (layN nl bp P) A) {nw : Nat} (hn : P.1 0 = nI nw) (h12 : nw ≤ 12) (w : Int32) : xx_C G l yX9_isOne mX9_isOne 1 22 0 0 [.ref bm, .int w] A n (xx_ro (some (.int (xx_b (¬ w < 0 ∧ w < P.1 0)))) A n) := by
  refine J_C hst (by decide +kernel) rfl rfl rfl (Nat.le_of_ble_eq_true rfl) ?_
  show xx_J _ _ _ _ _ _ _ _ 0 [(0, _), (1, _)] [] _ _ _ _
  refine J_iload_n dX9_isOne_0 rfl rfl ?_
  refine J_iconst (v := 0) dX9_isOne_1 (by decide) ?_
  refine J_aload_n dX9_isOne_2 rfl rfl ?_
  refine J_getf dX9_isOne_3 fl_X9_20 (hM.at 0 rfl) rfl ?_
  refine J_getf dX9_isOne_6 fl_X9_65 (hN.at 0 rfl) rfl ?_
  refine J_iconst (v := 1) dX9_isOne_9 (by decide) ?_
  refine J_isub dX9_isOne_10 ?_
  refine J_callSr (As := [_, _, _]) dX9_isOne_11 ml_X9_68 cal_X9_isIn sm_X9_isIn rfl rfl (Nat.le_of_ble_eq_true rfl) ⟨by decide, by decide⟩ ⟨by decide, by decide⟩ (c_X9_isIn hst _ _ _) ?_
  refine J_ireturn dX9_isOne_14 rfl nar_b (by decide) (by decide) ?_
  refine ⟨congrArg (fun v => Sum.inl (some (Value.int v))) ?_, rfl, rfl⟩
  unfold xx_b
  have z1 : (nI nw - 1).toInt = (nw : Int) - 1 := by
    by_cases h0 : nw = 0
    · subst h0; rfl
    · rw [show (1 : Int32) = nI 1 from rfl, pk_sub (by omega), i_n (by omega)]; omega
  have z2 : (nI nw).toInt = nw := i_n (by omega)
  rw [hn]
  simp only [i_le, i_lt, i_0, z1, z2]
  by_cases h : 0 ≤ w.toInt ∧ w.toInt ≤ (nw : Int) - 1
  · rw [if_pos h, if_pos (by omega)]
  · rw [if_neg h, if_neg (by omega)]
end XS1
