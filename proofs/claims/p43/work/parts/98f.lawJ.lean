/-! THE LAW: rows and facts for its walks -/
section XLJ
variable {G : xx_G} {l : Launch} {A A1 : xx_H} {n : Nat} {k j i q s e t d b h : Nat} {S S' : sS} {F F' : xS} {nb r : Nat}
theorem lw_q2 {ex : Int32 → String} {a : Ans} {v : Int32} {nb' r' : Nat} (hC : cI G b F nb r A) (ha : a = (0, v)) : ∀ r1 A1 n1, xQ ex a n (fun A' => gI b (ruG G) (nrV G) (nwV G) nb' r' F' A' ∧ xx_same (b + 16) (b + 46) A A') r1 A1 n1 → r1 = .inl (some (.int v)) ∧ n1 = n ∧ (cI G b F' nb' r' A1 ∧ xx_same (b + 16) (b + 46) A A1) := fun r1 A1 n1 hq => by
  obtain ⟨h1, h2, h3, h4⟩ := hq
  rw [ha, ansR_0] at h2
  exact ⟨h2, h1, hC.cl h3 h4, h4⟩
theorem gI_r {nb' r' : Nat} (hG : gI b (ruG G) (nrV G) (nwV G) nb' r' F' A) (hok : okF F' (nwV G) nb' r) : r' = r := by
  obtain ⟨R, F0, F2, PS, -, -, -, -, -, g6, g7⟩ := hG
  have h1 := g7.2.2.1
  have h2 := hok.2.2.1
  have e : F0.1 1 = F'.1 1 := g6.1.2.1
  rw [h1.1, h2.1, nI_ij (by omega) (by omega)] at e
  exact e
/-- a round is paired -/
theorem lw_pq (hC : cI G b F nb r A) (hT : tiS S (roundF F (nwV G)) (nwV G) (npF F (nwV G)) (r + 1)) (hcan : canB F (nwV G) nb = true) : ∀ r1 A1 n1, xQ (exA eIS) (aPair (nwV G) nb F) n (fun A' => (∃ r', gI b (ruG G) (nrV G) (nwV G) (nPair (nwV G) nb F) r' (sPair (nwV G) nb F) A') ∧ xx_same (b + 16) (b + 46) A A') r1 A1 n1 → r1 = .inl (some (.int (nI (npF F (nwV G))))) ∧ n1 = n ∧ (cI G b (roundF F (nwV G)) (npF F (nwV G)) (r + 1) A1 ∧ xx_same (b + 16) (b + 46) A A1) := fun r1 A1 n1 hq => by
  obtain ⟨h1, h2, ⟨r', h3⟩, h4⟩ := hq
  have ea : aPair (nwV G) nb F = (0, nI (npF F (nwV G))) := if_pos hcan
  have eb : nPair (nwV G) nb F = npF F (nwV G) := if_pos hcan
  have ec : sPair (nwV G) nb F = roundF F (nwV G) := if_pos hcan
  rw [ea, ansR_0] at h2
  rw [eb, ec] at h3
  have er := gI_r h3 hT.2.1
  subst er
  exact ⟨h2, h1, hC.cl h3 h4, h4⟩
theorem lw_pn (hC : cI G b F nb r A) (hT : tiS S F (nwV G) nb r) (hcan : ¬ canB F (nwV G) nb = true) : ∀ r1 A1 n1, xQ (exA eIS) (aPair (nwV G) nb F) n (fun A' => (∃ r', gI b (ruG G) (nrV G) (nwV G) (nPair (nwV G) nb F) r' (sPair (nwV G) nb F) A') ∧ xx_same (b + 16) (b + 46) A A') r1 A1 n1 → r1 = .inr eIS ∧ n1 = n ∧ (cI G b F nb r A1 ∧ xx_same (b + 16) (b + 46) A A1) := fun r1 A1 n1 hq => by
  obtain ⟨h1, h2, ⟨r', h3⟩, h4⟩ := hq
  have ea : aPair (nwV G) nb F = (1, 0) := if_neg hcan
  have eb : nPair (nwV G) nb F = nb := if_neg hcan
  have ec : sPair (nwV G) nb F = F := if_neg hcan
  rw [ea, ansR_k (by decide)] at h2
  rw [eb, ec] at h3
  have er := gI_r h3 hT.2.1
  subst er
  exact ⟨h2, h1, hC.cl h3 h4, h4⟩
/-- a call that throws -/
theorem lw_x {ex : Int32 → String} {a : Ans} {c v : Int32} {E : String} (hC : cI G b F nb r A) (ha : a = (c, v)) (hc : ¬ c = 0) (hE : ex c = E) (eF : F' = F) : ∀ r1 A1 n1, xQ ex a n (fun A' => gI b (ruG G) (nrV G) (nwV G) nb r F' A' ∧ xx_same (b + 16) (b + 46) A A') r1 A1 n1 → r1 = .inr E ∧ n1 = n ∧ (cI G b F nb r A1 ∧ xx_same (b + 16) (b + 46) A A1) := fun r1 A1 n1 hq => by
  obtain ⟨h1, h2, h3, h4⟩ := hq
  rw [ha, ansR_k hc, hE] at h2
  rw [eF] at h3
  exact ⟨h2, h1, hC.cl h3 h4, h4⟩
theorem JX_catch2 {M : xx_M} {fr lo mc ms : Nat} {Post : xx_Q} {pc : Nat} {L : List (Nat × Value)} {E name : String} (pre : List ExceptionTableEntry) (x : ExceptionTableEntry) (suf : List ExceptionTableEntry) (hsplit : tableOf M.2.2.2.2.2 = pre ++ x :: suf) (hpre : pre.all (fun z => ! covers z pc) = true) (hx : covers x pc = true) (h0 : x.catchType ≠ 0) (hlink : Cond.classLink M.1 x.catchType name ∈ xx_T) (hcast : Cond.castable E name ∈ xx_N) (kk : xx_J G l M fr lo mc ms Post x.handlerPc L [.ref n] A (n + 1) k j) : xx_JX G l M fr lo mc ms Post pc L E A n k j := by
  intro p e s m args below meth c ad0 n0 F ad H locs ls rest q ce ⟨a1, a2, a3, a4, a5, a6, a7⟩ h1 h2 h3
  have hK := F.2.2.2.2.2.2.2.2.2.2.1
  refine vx_catch (own := M.1) (name := name) (E := E) (ce := ce) F.2.2.2.2.2.2.1 pre x suf (F.2.2.2.2.2.2.2.2.1.trans hsplit) (fun z hz => Or.inl ?_) hx h0 (F.2.2.2.2.2.2.2.1 _ hlink) (va_Nw.use rfl (hK.2.1 _ hcast)) h1 h2 h3 ?_
  · have y := List.all_eq_true.mp hpre z hz
    rw [Bool.not_eq_true'] at y
    exact y
  · have ext : ∀ z, z < n → va_up ad n q z = ad z := fun z hz => by simp [va_up, Nat.ne_of_lt hz]
    have K := kk p e s m args below meth c ad0 n0 F (va_up ad n q) H locs ls ⟨by omega, fun z hz => by rw [ext z (by omega)]; exact a2 z hz, a3.more q, a4, ?_, xx_c (Nat.lt_succ_self n) (fun _ hv => nomatch hv), fun q hq => xx_vw_le (Nat.le_succ n) (a7 q hq)⟩
    · simp only [List.map_cons, List.map_nil, xx_v, va_up, if_true] at K
      exact K
    · have : L.map (fun q2 => (q2.1, xx_v (va_up ad n q) q2.2)) = L.map (fun q => (q.1, xx_v ad q.2)) := List.map_congr_left fun q hq => by rw [xx_v_ext ext (a7 q hq)]
      rw [this]
      exact a5
/-- a boolean row is written -/
theorem J_zastQ {M : xx_M} {fr lo mc ms : Nat} {Post : xx_Q} {pc : Nat} {L : List (Nat × Value)} {SS : List Value} {h len : Nat} {f : Nat → Int32} {i x : Int32} (p : Nat) (hd : decode M.2.2.1 pc = .ok (.bastore, 1)) (hA : A h = some (.inl (2, len, .inl f))) (hi : i = nI p) (hp : p < len) (hl : len < 2 ^ 31) (hx : vp_nar .boolean x = x) (kk : ∀ A1 : xx_H, A1 h = some (.inl (2, len, .inl (upd f p x))) → (∀ z, z ≠ h → A1 z = A z) → xx_J G l M fr lo mc ms Post (pc + 1) L SS A1 n k j) : xx_J G l M fr lo mc ms Post pc L (.int x :: .int i :: .ref h :: SS) A n k j := by
  subst hi
  refine J_zast hd hA (vp_in_nI hp hl) ?_
  rw [nI_clamp (by omega), hx]
  exact J_up kk
/-- the latest bouts by hand -/
theorem lt_eq {S : sS} {N nb : Nat} (hb : nb ≤ N) (h1 : ∀ i, i + nb < N → ¬ bt S i 0 = S.1 5 - 1) (h2 : ∀ i, i < N → N ≤ i + nb → bt S i 0 = S.1 5 - 1) : ltI S N = (List.range nb).map (fun q => N - nb + q) := by
  refine asc_eq (List.Pairwise.filter _ List.pairwise_lt_range) ?_ (fun x => ?_)
  · rw [List.pairwise_map]
    exact List.Pairwise.imp (fun {a b} hab => by omega) List.pairwise_lt_range
  · rw [List.mem_filter, List.mem_range, List.mem_map, decide_eq_true_eq]
    constructor
    · rintro ⟨hx, h⟩
      have : N ≤ x + nb := Nat.not_lt.mp (fun y => h1 x y h)
      exact ⟨x - (N - nb), List.mem_range.mpr (by omega), by omega⟩
    · rintro ⟨q, hq, rfl⟩
      have hq := List.mem_range.mp hq
      exact ⟨by omega, h2 _ (by omega) (by omega)⟩
theorem tiS.lt (hT : tiS S F (nwV G) nb r) : (ltI S (S.2.2 1)).length = nb ∧ ∀ q, q < nb → (ltI S (S.2.2 1)).getD q 0 = S.2.2 1 - nb + q := by
  have hbd := hT.bd
  obtain ⟨⟨s0, s5, s3, n2, n6⟩, hok, hC, ⟨b1, b2, b3, b4⟩, hN, ⟨l1, l2, l3⟩⟩ := hT
  have key : ∀ u, u < r → (nI u = S.1 5 - 1 ↔ u + 1 = r) := fun u hu => by
    rw [s5, show nI r - 1 = nI (r - 1) by rw [show r = (r - 1) + 1 by omega, ← nI_1]; simp, nI_ij (by omega) (by omega)]
    omega
  have e := lt_eq (S := S) b1 (fun i hi => by
    obtain ⟨u, a, c, hb, hu, d1, d2⟩ := b3 i (by omega)
    rw [hb.1, key u hu]
    have := (d1 hi).1
    omega) (fun i hi hi2 => by
    obtain ⟨u, a, c, hb, hu, d1, d2⟩ := b3 i hi
    rw [hb.1, key u hu]
    exact d2 hi2)
  rw [e]
  refine ⟨by rw [List.length_map, List.length_range], fun q hq => ?_⟩
  rw [List.getD_eq_getElem?_getD, List.getElem?_map, List.getElem?_range hq]; rfl
/-- no bout open: the rules tell none -/
theorem tlP_0 {ru : xS → Nat → Nat → Int32} {F : xS} : ∀ d x (c : Int32), (∀ q, x ≤ q → q < x + d → ¬ F.2 6 q = -1) → tlP ru d x F c = (F, c) := by
  intro d
  induction d with
  | zero => intro x c _; rfl
  | succ d ih =>
    intro x c h
    show (if F.2 6 x = -1 then _ else tlP ru d (x + 1) F c) = _
    rw [if_neg (h x (Nat.le_refl _) (by omega))]
    exact ih (x + 1) c (fun q h1 h2 => h q (by omega) (by omega))
theorem tiS.b12 (hT : tiS S F (nwV G) nb r) : ∀ q, q < S.2.2 1 → b12 (bt S q) := fun q hq z hz => by
  obtain ⟨u, a, c, hb, -⟩ := hT.bA q hq
  have h6 := nwV_lt (G := G)
  obtain ⟨-, h1, h2, h3, h4, -⟩ := hb
  rcases (show z = 0 ∨ z = 1 by omega) with rfl | rfl
  · exact ⟨a, h1, by omega⟩
  · exact ⟨c, h2, by omega⟩
section
variable {M : xx_M} {fr lo mc ms : Nat} {Post : xx_Q} {pc : Nat} {L : List (Nat × Value)} {SS : List Value}
/-- a call that throws E, which is caught -/
theorem J_callVt {y : MethodName} {M' : xx_M} {na idx fr' lo' mc' ms' h ci : Nat} {fs : List Value} {T : u_T} {N : Nat} {As : List Value} {Post' : xx_Q} {E : String} {Q : xx_H → Prop} (pre : List ExceptionTableEntry) (x : ExceptionTableEntry) (suf : List ExceptionTableEntry) (hd : decode M.2.2.1 pc = .ok (.invokevirtual idx, 3)) (hl : Cond.methodLink M.1 idx y ∈ xx_T) (hc : xx_Cal y M' na) (hi : Cond.instanceMethod y ∈ xx_T) (hs : Cond.selects y.cls y y ∈ xx_T) (hA : A h = some (.inr (ci, fs))) (hcl : vwCl[ci]? = some (y.cls, T, N)) (hh : M'.2.2.2.2.2 = [])
    (hn : As.length = na) (hS : (SS.map fun v => v.category).sum ≤ 8) (hR : fr' + 1 ≤ fr ∧ 8 + (M'.2.2.2.1 + 11) + lo' ≤ lo) (hf : k + mc' ≤ mc ∧ j + ms' ≤ ms) (hC : xx_C G l y M' fr' lo' mc' ms' (.ref h :: As) A n Post') (hP : ∀ r' A1 n1, Post' r' A1 n1 → r' = .inr E ∧ n1 = n ∧ Q A1)
    (hsplit : tableOf M.2.2.2.2.2 = pre ++ x :: suf) (hpre : pre.all (fun z => ! covers z pc) = true) (hx : covers x pc = true) (h0 : x.catchType ≠ 0) (hlink : Cond.classLink M.1 x.catchType E ∈ xx_T) (hcast : Cond.castable E E ∈ xx_N)
    (kk : ∀ A1, Q A1 → xx_J G l M fr lo mc ms Post x.handlerPc L [.ref n] A1 (n + 1) (k + mc') (j + ms')) : xx_J G l M fr lo mc ms Post pc L (As.reverse ++ .ref h :: SS) A n k j := by
  refine J_callV hd hl hc hi hs hA hcl hh hn hS hR hf hC (fun E' A' n' _ hq => ?_) (fun v' A' n' _ hq => ?_)
  · obtain ⟨z, z2, hq2⟩ := hP _ _ _ hq
    subst z2
    cases z
    exact JX_catch2 pre x suf hsplit hpre hx h0 hlink hcast (kk A' hq2)
  · obtain ⟨z, -⟩ := hP _ _ _ hq
    cases z
end
end XLJ
